/-! what is read off the scene: AIR, COSTS, RUN, MARGIN, GAIN and their sums, in class and reference alike -/
theorem Sc.at {σ S : Mem} (h : Sc σ S) (k : Nat) (hk : decide (1 ≤ k ∧ k ≤ 20 ∧ ¬ k = 15 ∧ ¬ k = 18) = true) : σ k = S k := by
  obtain ⟨a, b, c, d⟩ := of_decide_eq_true hk
  exact h k a b c d
theorem Same.r54 {σ σ' : Mem} (h : Same σ σ') : σ' 54 = σ 54 := h 54 (by decide) (by decide) (by decide) (by decide)
theorem WF.t13 {S : Mem} (w : WF S) : TX S 13 14 := w.2.2.2.2.2.2.1
theorem WF.t16 {S : Mem} (w : WF S) : TX S 16 17 := w.2.2.2.2.2.2.2
theorem RM.r0 {ρ : Nat → Int32} {S : Mem} (h : RM ρ S) : ρ 0 = S 1 8 := h.1.1
theorem RM.r1 {ρ : Nat → Int32} {S : Mem} (h : RM ρ S) : ρ 1 = S 1 9 := h.1.2.1
theorem RM.r2 {ρ : Nat → Int32} {S : Mem} (h : RM ρ S) : ρ 2 = S 1 10 := h.1.2.2.1
theorem RM.r3 {ρ : Nat → Int32} {S : Mem} (h : RM ρ S) : ρ 3 = S 1 11 := h.1.2.2.2.1
theorem RM.r4 {ρ : Nat → Int32} {S : Mem} (h : RM ρ S) : ρ 4 = S 1 12 := h.1.2.2.2.2.1
theorem RM.r5 {ρ : Nat → Int32} {S : Mem} (h : RM ρ S) : ρ 5 = S 1 13 := h.1.2.2.2.2.2.1
theorem RM.r6 {ρ : Nat → Int32} {S : Mem} (h : RM ρ S) : ρ 6 = S 1 14 := h.1.2.2.2.2.2.2
theorem RM.r7 {ρ : Nat → Int32} {S : Mem} (h : RM ρ S) : ρ 7 = S 2 4 := h.2.1.1
theorem RM.r8 {ρ : Nat → Int32} {S : Mem} (h : RM ρ S) : ρ 8 = S 7 5 := h.2.1.2.1
theorem RM.r9 {ρ : Nat → Int32} {S : Mem} (h : RM ρ S) : ρ 9 = S 1 5 := h.2.1.2.2.1
theorem RM.r10 {ρ : Nat → Int32} {S : Mem} (h : RM ρ S) : ρ 10 = S 1 7 := h.2.1.2.2.2
theorem RM.pt {ρ : Nat → Int32} {S : Mem} (h : RM ρ S) : ∀ i, i < 6 → ρ (11 + 4 * i) = S 3 i ∧ ρ (11 + 4 * i + 1) = S 4 i ∧ ρ (11 + 4 * i + 2) = S 5 i ∧ ρ (11 + 4 * i + 3) = S 6 i := h.2.2.1
theorem RM.rn {ρ : Nat → Int32} {S : Mem} (h : RM ρ S) : ∀ i, i < 5 → ρ (35 + 5 * i) = S 8 i ∧ ρ (35 + 5 * i + 1) = S 9 i ∧ ρ (35 + 5 * i + 2) = S 10 i ∧ ρ (35 + 5 * i + 3) = S 11 i ∧ ρ (35 + 5 * i + 4) = S 12 i := h.2.2.2.1
theorem RM.tp {ρ : Nat → Int32} {S : Mem} (h : RM ρ S) : ∀ i, i < 60 → ρ (60 + i) = S 19 i &&& 255 := h.2.2.2.2.1
theorem RM.wt {ρ : Nat → Int32} {S : Mem} (h : RM ρ S) : ∀ i, i < 24 → ρ (120 + i) = S 20 i := h.2.2.2.2.2.1
theorem RM.t0 {ρ : Nat → Int32} {S : Mem} (h : RM ρ S) : MT ρ 144 S 13 14 := h.2.2.2.2.2.2.1
theorem RM.t1 {ρ : Nat → Int32} {S : Mem} (h : RM ρ S) : MT ρ 265 S 16 17 := h.2.2.2.2.2.2.2
theorem m_of0 {σ S : Mem} (h : RM (σ 54) S) {i : Nat} (hi : i < 6) : f_X8_of_53 (nI i) 0 σ = some (S 3 i, σ) := by
  rw [f_X8_of_53, nm_mk, i_4, nm_mk, i_11, nm_mk, i_a0, gin (by omega), nm_mk, cln (by omega), (h.pt i hi).1]
theorem m_of1 {σ S : Mem} (h : RM (σ 54) S) {i : Nat} (hi : i < 6) : f_X8_of_53 (nI i) 1 σ = some (S 4 i, σ) := by
  rw [f_X8_of_53, nm_mk, i_4, nm_mk, i_11, nm_mk, nI_1, gin (by omega), nm_mk, cln (by omega), (h.pt i hi).2.1]
theorem m_of2 {σ S : Mem} (h : RM (σ 54) S) {i : Nat} (hi : i < 6) : f_X8_of_53 (nI i) 2 σ = some (S 5 i, σ) := by
  rw [f_X8_of_53, nm_mk, i_4, nm_mk, i_11, nm_mk, i_a2, gin (by omega), nm_mk, cln (by omega), (h.pt i hi).2.2.1]
theorem m_of3 {σ S : Mem} (h : RM (σ 54) S) {i : Nat} (hi : i < 6) : f_X8_of_53 (nI i) 3 σ = some (S 6 i, σ) := by
  rw [f_X8_of_53, nm_mk, i_4, nm_mk, i_11, nm_mk, i_a3, gin (by omega), nm_mk, cln (by omega), (h.pt i hi).2.2.2]
theorem m_ab0 {σ S : Mem} (h : RM (σ 54) S) {i : Nat} (hi : i < 5) : f_X8_about_53 (nI i) 0 σ = some (S 8 i, σ) := by
  rw [f_X8_about_53, nm_mk, i_5, nm_mk, i_35, nm_mk, i_a0, gin (by omega), nm_mk, cln (by omega), (h.rn i hi).1]
theorem m_ab1 {σ S : Mem} (h : RM (σ 54) S) {i : Nat} (hi : i < 5) : f_X8_about_53 (nI i) 1 σ = some (S 9 i, σ) := by
  rw [f_X8_about_53, nm_mk, i_5, nm_mk, i_35, nm_mk, nI_1, gin (by omega), nm_mk, cln (by omega), (h.rn i hi).2.1]
theorem m_ab2 {σ S : Mem} (h : RM (σ 54) S) {i : Nat} (hi : i < 5) : f_X8_about_53 (nI i) 2 σ = some (S 10 i, σ) := by
  rw [f_X8_about_53, nm_mk, i_5, nm_mk, i_35, nm_mk, i_a2, gin (by omega), nm_mk, cln (by omega), (h.rn i hi).2.2.1]
theorem m_ab3 {σ S : Mem} (h : RM (σ 54) S) {i : Nat} (hi : i < 5) : f_X8_about_53 (nI i) 3 σ = some (S 11 i, σ) := by
  rw [f_X8_about_53, nm_mk, i_5, nm_mk, i_35, nm_mk, i_a3, gin (by omega), nm_mk, cln (by omega), (h.rn i hi).2.2.2.1]
theorem m_ab4 {σ S : Mem} (h : RM (σ 54) S) {i : Nat} (hi : i < 5) : f_X8_about_53 (nI i) 4 σ = some (S 12 i, σ) := by
  rw [f_X8_about_53, nm_mk, i_5, nm_mk, i_35, nm_mk, i_a4, gin (by omega), nm_mk, cln (by omega), (h.rn i hi).2.2.2.2]
def airk (S : Mem) (i : Nat) : Int32 := if S 3 i = 1 then 45 + S 4 i + 15 else if S 3 i = 2 then 45 + S 4 i - 5 else if S 3 i = 3 then 45 + S 4 i - 12 - S 4 i else if S 3 i = 4 then 45 + S 4 i + 15 + 2 * S 1 10 else if S 3 i = 5 then 45 + S 4 i - 5 + S 1 11 else if S 3 i = 6 then 45 + S 4 i + (S 6 i - S 6 i / 5 * 5) else 45 + S 4 i
def air (S : Mem) (i : Nat) : Int32 := giv0 S (airk S i) (S 1 10) (S 1 11)
def cost (S : Mem) (i : Nat) : Int32 := if S 3 i = 1 then S 1 11 else if S 3 i = 3 then 5 + S 4 i else if S 3 i = 4 then S 1 11 + 1 else if S 3 i = 6 then S 1 10 else 0
def run (S : Mem) (r : Nat) (f : Int32) : Int32 := S 8 r + S 9 r * (90 - f) / 10
def pk (S : Mem) (r : Nat) (f : Int32) : Int32 := if S 8 r + S 9 r * f / 10 ≤ S 1 8 / 2 + 30 then 0 else 1
def marg (S : Mem) (r i : Nat) (f : Int32) : Int32 := S 1 8 + air S i + S 1 9 - run S r f
def gof (S : Mem) (m : Int32) : Int32 := if m < 0 then giv1 S 0 m (S 1 11) else giv1 S 1 m (S 1 11)
def gain (S : Mem) (r i : Nat) (f : Int32) : Int32 := gof S (marg S r i f)
theorem x_airk {σ S : Mem} (hs : Sc σ S) {i : Nat} (hi : i < 6) : f_X3_airByKind_1 (nI i) σ = some (airk S i, σ) := by
  rw [f_X3_airByKind_1]
  simp (disch := omega) only [gin, nm_mk, cln, z5, hs.at 4 rfl, hs.at 3 rfl, hs.at 1 rfl, hs.at 6 rfl, ite_some]
  rfl
theorem m_airk {σ S : Mem} (h : RM (σ 54) S) {i : Nat} (hi : i < 6) : f_X8_plainAir_53 (nI i) σ = some (airk S i, σ) := by
  rw [f_X8_plainAir_53, m_of1 h hi, bd_mk, nm_mk, m_of0 h hi, bd_mk]
  simp (disch := omega) only [nm_mk, g2_386, g3_386, c_2, c_3, m_of3 h hi, bd_mk, z5, h.r2, h.r3, ite_some]
  rfl
theorem x_air {σ S : Mem} (hs : Sc σ S) (w : WF S) {i : Nat} (hi : i < 6) : RO (f_X3_air_1 (nI i)) σ (air S i) := by
  obtain ⟨σ1, a, b⟩ := x_giv0 hs w.t13 (airk S i) (S 1 10) (S 1 11)
  exact ⟨σ1, by rw [f_X3_air_1, x_airk hs hi, bd_mk, nm_mk, nm_mk, hs.at 1 rfl, a, bd_mk]; rfl, b⟩
theorem m_air {σ S : Mem} (h : RM (σ 54) S) {i : Nat} (hi : i < 6) : RO (f_X8_airOf_53 (nI i)) σ (air S i) := by
  obtain ⟨σ1, a, b⟩ := m_giv0 h.t0 (airk S i) (S 1 10) (S 1 11)
  exact ⟨σ1, by rw [f_X8_airOf_53, m_airk h hi, bd_mk, g2_386, nm_mk, c_2, g3_386, nm_mk, c_3, h.r2, h.r3, a, bd_mk]; rfl, b⟩
theorem x_cost {σ S : Mem} (hs : Sc σ S) {i : Nat} (hi : i < 6) : f_X3_costs_1 (nI i) σ = some (cost S i, σ) := by
  rw [f_X3_costs_1]
  simp (disch := omega) only [gin, nm_mk, cln, hs.at 4 rfl, hs.at 3 rfl, hs.at 1 rfl, ite_some]
  rfl
theorem m_cost {σ S : Mem} (h : RM (σ 54) S) {i : Nat} (hi : i < 6) : f_X8_costsOf_53 (nI i) σ = some (cost S i, σ) := by
  rw [f_X8_costsOf_53, m_of0 h hi, bd_mk]
  simp (disch := omega) only [nm_mk, g2_386, g3_386, c_2, c_3, m_of1 h hi, bd_mk, h.r2, h.r3, ite_some]
  rfl
theorem x_run {σ S : Mem} (hs : Sc σ S) {r : Nat} (hr : r < 5) (f : Int32) : f_X2_runFrom_7 (nI r) f σ = some (run S r f, σ) := by
  rw [f_X2_runFrom_7]
  simp (disch := omega) only [gin, nm_mk, cln, z10, hs.at 8 rfl, hs.at 9 rfl]
  rfl
theorem m_run {σ S : Mem} (h : RM (σ 54) S) {r : Nat} (hr : r < 5) (f : Int32) : f_X8_runFrom_53 (nI r) f σ = some (run S r f, σ) := by
  rw [f_X8_runFrom_53, m_ab0 h hr, bd_mk, m_ab1 h hr, bd_mk]
  simp only [nm_mk, z10]
  rfl
theorem x_pick {σ S : Mem} (hs : Sc σ S) {r : Nat} (hr : r < 5) (f : Int32) : f_X3_isPicked_1 (nI r) f σ = some (pk S r f, σ) := by
  rw [f_X3_isPicked_1, f_X2_backFrom_7]
  simp (disch := omega) only [gin, nm_mk, cln, z10, z2, bd_mk, hs.at 8 rfl, hs.at 9 rfl, hs.at 1 rfl, gb_0, gb_1, ite_some]
  rfl
theorem m_pick {σ S : Mem} (h : RM (σ 54) S) {r : Nat} (hr : r < 5) (f : Int32) : f_X8_isPickedAt_53 (nI r) f σ = some (pk S r f, σ) := by
  rw [f_X8_isPickedAt_53, m_ab0 h hr, bd_mk, m_ab1 h hr, bd_mk]
  simp only [nm_mk, z10, z2, g0_386, c_0, h.r0, gb_0, gb_1, ite_some]
  rfl
theorem x_marg {σ S : Mem} (hs : Sc σ S) (w : WF S) {r i : Nat} (hr : r < 5) (hi : i < 6) (f : Int32) : RO (f_X3_marginFrom_1 (nI r) (nI i) f) σ (marg S r i f) := by
  obtain ⟨σ1, a, b⟩ := x_air hs w hi
  have hs1 := hs.same b
  exact ⟨σ1, by rw [f_X3_marginFrom_1, nm_mk, a, bd_mk, nm_mk, nm_mk, nm_mk, x_run hs1 hr, bd_mk, nm_mk, hs.at 1 rfl, hs1.at 1 rfl]; rfl, b⟩
theorem m_marg {σ S : Mem} (h : RM (σ 54) S) {r i : Nat} (hr : r < 5) (hi : i < 6) (f : Int32) : RO (f_X8_marginOf_53 (nI r) (nI i) f) σ (marg S r i f) := by
  obtain ⟨σ1, a, b⟩ := m_air h hi
  have h1 : RM (σ1 54) S := by rw [b.r54]; exact h
  exact ⟨σ1, by rw [f_X8_marginOf_53, g0_386, nm_mk, c_0, a, bd_mk, nm_mk, g1_386, nm_mk, c_1, nm_mk, m_run h1 hr, bd_mk, nm_mk, h.r0, h1.r1]; rfl, b⟩
theorem m_safe {σ S : Mem} (h : RM (σ 54) S) {r i : Nat} (hr : r < 5) (hi : i < 6) (f : Int32) : RO (f_X8_isSafe_53 (nI r) (nI i) f) σ (if marg S r i f < 0 then 0 else 1) := by
  obtain ⟨σ1, a, b⟩ := m_marg h hr hi f
  exact ⟨σ1, by rw [f_X8_isSafe_53, a, bd_mk, gb_0, gb_1, ite_some], b⟩
theorem x_gof {σ S : Mem} (hs : Sc σ S) (w : WF S) (m : Int32) : RO (f_X3_gainOf_1 m) σ (gof S m) := by
  unfold gof
  by_cases h : m < 0
  · obtain ⟨σ1, a, b⟩ := x_giv1 hs w.t16 0 m (S 1 11)
    rw [if_pos h]
    exact ⟨σ1, by rw [f_X3_gainOf_1, if_pos h, nm_mk, hs.at 1 rfl, a, bd_mk], b⟩
  · obtain ⟨σ1, a, b⟩ := x_giv1 hs w.t16 1 m (S 1 11)
    rw [if_neg h]
    exact ⟨σ1, by rw [f_X3_gainOf_1, if_neg h, nm_mk, hs.at 1 rfl, a, bd_mk], b⟩
theorem x_gain {σ S : Mem} (hs : Sc σ S) (w : WF S) {r i : Nat} (hr : r < 5) (hi : i < 6) (f : Int32) : RO (f_X3_gainFrom_1 (nI r) (nI i) f) σ (gain S r i f) := by
  obtain ⟨σ1, a, b⟩ := x_marg hs w hr hi f
  obtain ⟨σ2, a2, b2⟩ := x_gof (hs.same b) w (marg S r i f)
  exact ⟨σ2, by rw [f_X3_gainFrom_1, a, bd_mk, a2, bd_mk]; rfl, b.tr b2⟩
theorem m_gain {σ S : Mem} (h : RM (σ 54) S) {r i : Nat} (hr : r < 5) (hi : i < 6) (f : Int32) : RO (f_X8_gainOf_53 (nI r) (nI i) f) σ (gain S r i f) := by
  obtain ⟨σ1, a, b⟩ := m_marg h hr hi f
  have h1 : RM (σ1 54) S := by rw [b.r54]; exact h
  unfold gain gof
  by_cases hm : marg S r i f < 0
  · obtain ⟨σ2, a2, b2⟩ := m_giv1 h1.t1 0 (marg S r i f) (S 1 11)
    rw [if_pos hm]
    exact ⟨σ2, by rw [f_X8_gainOf_53, a, bd_mk, if_pos hm, g3_386, nm_mk, c_3, h1.r3, a2, bd_mk], b.tr b2⟩
  · obtain ⟨σ2, a2, b2⟩ := m_giv1 h1.t1 1 (marg S r i f) (S 1 11)
    rw [if_neg hm]
    exact ⟨σ2, by rw [f_X8_gainOf_53, a, bd_mk, if_neg hm, g3_386, nm_mk, c_3, h1.r3, a2, bd_mk], b.tr b2⟩
/-- sums over the PITCHES -/
def sumN (g : Nat → Int32) : Nat → Int32
  | 0 => 0
  | n + 1 => sumN g n + g n
def wg (S : Mem) (r : Nat) (f : Int32) (i : Nat) : Int32 := S 5 i * gain S r i f
theorem x_wgains_l {S : Mem} (w : WF S) {np r : Nat} (hn : np ≤ 6) (h24 : S 2 4 = nI np) (hr : r < 5) (f : Int32) (fu : Nat) : ∀ (i : Nat) (σ : Mem), i ≤ np → np - i < fu → Sc σ S → RO (f_X3_weighedGains_1_L5 fu (nI r) f (sumN (wg S r f) i) (nI i)) σ (sumN (wg S r f) np) := by
  induction fu with
  | zero => intro i σ h1 h2; omega
  | succ fu ih =>
    intro i σ h1 h2 hs
    show ∃ σ', fb_X3_weighedGains_1_L5 (f_X3_weighedGains_1_L5 fu) (nI r) f (sumN (wg S r f) i) (nI i) σ = some (sumN (wg S r f) np, σ') ∧ Same σ σ'
    rw [fb_X3_weighedGains_1_L5, nm_mk, hs.at 2 rfl, h24]
    by_cases h : i = np
    · subst h
      rw [if_pos (Int32.le_refl _)]
      exact ⟨σ, rfl, Same.rf σ⟩
    · rw [if_neg (fun q => absurd ((nI_leI (by omega) (by omega)).mp q) (by omega)), gin (by omega), nm_mk, cln (by omega), hs.at 5 rfl]
      obtain ⟨σ1, a, b⟩ := x_gain hs w hr (show i < 6 by omega) f
      rw [a, bd_mk, nm_mk, nm_mk, nm_mk, nI_1]
      obtain ⟨σ2, c, d⟩ := ih (i + 1) σ1 (by omega) (by omega) (hs.same b)
      exact ⟨σ2, c, b.tr d⟩
theorem x_wgains {σ S : Mem} (hs : Sc σ S) (w : WF S) {np r : Nat} (hn : np ≤ 6) (h24 : S 2 4 = nI np) (hr : r < 5) (f : Int32) : RO (f_X3_weighedGains_1 (nI r) f) σ (sumN (wg S r f) np) := x_wgains_l w hn h24 hr f 1000 0 σ (by omega) (by omega) hs
theorem m_wgains_l {S : Mem} {np r : Nat} (hn : np ≤ 6) (h24 : S 2 4 = nI np) (hr : r < 5) (f : Int32) (fu : Nat) : ∀ (i : Nat) (σ : Mem), i ≤ np → np - i < fu → RM (σ 54) S → RO (f_X8_gainsFrom_53_L5 fu (nI r) f (sumN (wg S r f) i) (nI i)) σ (sumN (wg S r f) np) := by
  induction fu with
  | zero => intro i σ h1 h2; omega
  | succ fu ih =>
    intro i σ h1 h2 hm
    show ∃ σ', fb_X8_gainsFrom_53_L5 (f_X8_gainsFrom_53_L5 fu) (nI r) f (sumN (wg S r f) i) (nI i) σ = some (sumN (wg S r f) np, σ') ∧ Same σ σ'
    rw [fb_X8_gainsFrom_53_L5, g7_386, nm_mk, c_7, hm.r7, h24]
    by_cases h : i = np
    · subst h
      rw [if_pos (Int32.le_refl _)]
      exact ⟨σ, rfl, Same.rf σ⟩
    · rw [if_neg (fun q => absurd ((nI_leI (by omega) (by omega)).mp q) (by omega)), m_of2 hm (show i < 6 by omega), bd_mk]
      obtain ⟨σ1, a, b⟩ := m_gain hm hr (show i < 6 by omega) f
      rw [a, bd_mk, nm_mk, nm_mk, nm_mk, nI_1]
      obtain ⟨σ2, c, d⟩ := ih (i + 1) σ1 (by omega) (by omega) (by rw [b.r54]; exact hm)
      exact ⟨σ2, c, b.tr d⟩
theorem m_wgains {σ S : Mem} (hm : RM (σ 54) S) {np r : Nat} (hn : np ≤ 6) (h24 : S 2 4 = nI np) (hr : r < 5) (f : Int32) : RO (f_X8_gainsFrom_53 (nI r) f) σ (sumN (wg S r f) np) := m_wgains_l hn h24 hr f 1000 0 σ (by omega) (by omega) hm
theorem x_allw_l {S : Mem} {np : Nat} (hn : np ≤ 6) (h24 : S 2 4 = nI np) (fu : Nat) : ∀ (i : Nat) (σ : Mem), i ≤ np → np - i < fu → Sc σ S → f_X0_allWeights_2_L4 fu (sumN (S 5) i) (nI i) σ = some (sumN (S 5) np, σ) := by
  induction fu with
  | zero => intro i σ h1 h2; omega
  | succ fu ih =>
    intro i σ h1 h2 hs
    show fb_X0_allWeights_2_L4 (f_X0_allWeights_2_L4 fu) (sumN (S 5) i) (nI i) σ = some (sumN (S 5) np, σ)
    rw [fb_X0_allWeights_2_L4, nm_mk, hs.at 2 rfl, h24]
    by_cases h : i = np
    · subst h
      rw [if_pos (Int32.le_refl _)]
    · rw [if_neg (fun q => absurd ((nI_leI (by omega) (by omega)).mp q) (by omega)), gin (by omega), nm_mk, cln (by omega), hs.at 5 rfl, nm_mk, nm_mk, nI_1]
      exact ih (i + 1) σ (by omega) (by omega) hs
theorem x_allw {σ S : Mem} (hs : Sc σ S) {np : Nat} (hn : np ≤ 6) (h24 : S 2 4 = nI np) : f_X0_allWeights_2 σ = some (sumN (S 5) np, σ) := x_allw_l hn h24 1000 0 σ (by omega) (by omega) hs
theorem m_allw_l {S : Mem} {np : Nat} (hn : np ≤ 6) (h24 : S 2 4 = nI np) (fu : Nat) : ∀ (i : Nat) (σ : Mem), i ≤ np → np - i < fu → RM (σ 54) S → f_X8_weights_53_L4 fu (sumN (S 5) i) (nI i) σ = some (sumN (S 5) np, σ) := by
  induction fu with
  | zero => intro i σ h1 h2; omega
  | succ fu ih =>
    intro i σ h1 h2 hm
    show fb_X8_weights_53_L4 (f_X8_weights_53_L4 fu) (sumN (S 5) i) (nI i) σ = some (sumN (S 5) np, σ)
    rw [fb_X8_weights_53_L4, g7_386, nm_mk, c_7, hm.r7, h24]
    by_cases h : i = np
    · subst h
      rw [if_pos (Int32.le_refl _)]
    · rw [if_neg (fun q => absurd ((nI_leI (by omega) (by omega)).mp q) (by omega)), m_of2 hm (show i < 6 by omega), bd_mk, nm_mk, nm_mk, nI_1]
      exact ih (i + 1) σ (by omega) (by omega) hm
theorem m_allw {σ S : Mem} (hm : RM (σ 54) S) {np : Nat} (hn : np ≤ 6) (h24 : S 2 4 = nI np) : f_X8_weights_53 σ = some (sumN (S 5) np, σ) := m_allw_l hn h24 1000 0 σ (by omega) (by omega) hm
