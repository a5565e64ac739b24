/-! on which PITCHES he is SAFE: the set as bits, how many, their WEIGHTS together -/
def sf (S : Mem) (r : Nat) (f : Int32) (i : Nat) : Bool := decide (¬ marg S r i f < 0)
def sw (S : Mem) (r : Nat) (f : Int32) (i : Nat) : Int32 := if marg S r i f < 0 then 0 else S 5 i
def sbit (b : Nat → Bool) : Nat → Int32
  | 0 => 0
  | n + 1 => if b n = true then sbit b n ||| 1 <<< (nI n &&& 31) else sbit b n
def scnt (b : Nat → Bool) : Nat → Nat
  | 0 => 0
  | n + 1 => if b n = true then scnt b n + 1 else scnt b n
theorem sf_neg {S : Mem} {r : Nat} {f : Int32} {i : Nat} (h : marg S r i f < 0) : sf S r f i = false := by
  unfold sf
  exact decide_eq_false (fun q => q h)
theorem sf_pos {S : Mem} {r : Nat} {f : Int32} {i : Nat} (h : ¬ marg S r i f < 0) : sf S r f i = true := decide_eq_true h
theorem x_safew_l {S : Mem} (w : WF S) {np r : Nat} (hn : np ≤ 6) (h24 : S 2 4 = nI np) (hr : r < 5) (f : Int32) (fu : Nat) : ∀ (i : Nat) (σ : Mem), i ≤ np → np - i < fu → Sc σ S → RO (f_X3_safeWeights_1_L5 fu (nI r) f (sumN (sw S r f) i) (nI i)) σ (sumN (sw S r f) np) := by
  induction fu with
  | zero => intro i σ h1 h2; omega
  | succ fu ih =>
    intro i σ h1 h2 hs
    show ∃ σ', fb_X3_safeWeights_1_L5 (f_X3_safeWeights_1_L5 fu) (nI r) f (sumN (sw S r f) i) (nI i) σ = some (sumN (sw S r f) np, σ') ∧ Same σ σ'
    rw [fb_X3_safeWeights_1_L5, nm_mk, hs.at 2 rfl, h24]
    by_cases h : i = np
    · subst h
      rw [if_pos (Int32.le_refl _)]
      exact ⟨σ, rfl, Same.rf σ⟩
    · rw [if_neg (fun q => absurd ((nI_leI (by omega) (by omega)).mp q) (by omega))]
      obtain ⟨σ1, a, b⟩ := x_marg hs w hr (show i < 6 by omega) f
      obtain ⟨σ2, c, d⟩ := ih (i + 1) σ1 (by omega) (by omega) (hs.same b)
      rw [a, bd_mk]
      by_cases hm : marg S r i f < 0
      · rw [if_pos hm, nm_mk, nI_1]
        refine ⟨σ2, ?_, b.tr d⟩
        rw [← c, show sumN (sw S r f) (i + 1) = sumN (sw S r f) i from by
          show sumN (sw S r f) i + sw S r f i = _
          rw [sw, if_pos hm, Int32.add_zero]]
      · rw [if_neg hm, gin (by omega), nm_mk, cln (by omega), (hs.same b).at 5 rfl, nm_mk, nm_mk, nI_1]
        refine ⟨σ2, ?_, b.tr d⟩
        rw [← c, show sumN (sw S r f) (i + 1) = sumN (sw S r f) i + S 5 i from by
          show sumN (sw S r f) i + sw S r f i = _
          rw [sw, if_neg hm]]
theorem x_safew {σ S : Mem} (hs : Sc σ S) (w : WF S) {np r : Nat} (hn : np ≤ 6) (h24 : S 2 4 = nI np) (hr : r < 5) (f : Int32) : RO (f_X3_safeWeights_1 (nI r) f) σ (sumN (sw S r f) np) := x_safew_l w hn h24 hr f 1000 0 σ (by omega) (by omega) hs
theorem x_safep_l {S : Mem} (w : WF S) {np r : Nat} (hn : np ≤ 6) (h24 : S 2 4 = nI np) (hr : r < 5) (f : Int32) (fu : Nat) : ∀ (i : Nat) (σ : Mem), i ≤ np → np - i < fu → Sc σ S → RO (f_X3_safePitches_1_L5 fu (nI r) f (sbit (sf S r f) i) (nI i)) σ (sbit (sf S r f) np) := by
  induction fu with
  | zero => intro i σ h1 h2; omega
  | succ fu ih =>
    intro i σ h1 h2 hs
    show ∃ σ', fb_X3_safePitches_1_L5 (f_X3_safePitches_1_L5 fu) (nI r) f (sbit (sf S r f) i) (nI i) σ = some (sbit (sf S r f) np, σ') ∧ Same σ σ'
    rw [fb_X3_safePitches_1_L5, nm_mk, hs.at 2 rfl, h24]
    by_cases h : i = np
    · subst h
      rw [if_pos (Int32.le_refl _)]
      exact ⟨σ, rfl, Same.rf σ⟩
    · rw [if_neg (fun q => absurd ((nI_leI (by omega) (by omega)).mp q) (by omega))]
      obtain ⟨σ1, a, b⟩ := x_marg hs w hr (show i < 6 by omega) f
      obtain ⟨σ2, c, d⟩ := ih (i + 1) σ1 (by omega) (by omega) (hs.same b)
      rw [a, bd_mk]
      by_cases hm : marg S r i f < 0
      · rw [if_pos hm, nm_mk, nI_1]
        refine ⟨σ2, ?_, b.tr d⟩
        rw [← c, sbit, sf_neg hm, if_neg (by decide)]
      · rw [if_neg hm, nm_mk, nm_mk, nm_mk, nI_1]
        refine ⟨σ2, ?_, b.tr d⟩
        rw [← c, sbit, sf_pos hm, if_pos rfl]
theorem x_safep {σ S : Mem} (hs : Sc σ S) (w : WF S) {np r : Nat} (hn : np ≤ 6) (h24 : S 2 4 = nI np) (hr : r < 5) (f : Int32) : RO (f_X3_safePitches_1 (nI r) f) σ (sbit (sf S r f) np) := x_safep_l w hn h24 hr f 1000 0 σ (by omega) (by omega) hs
/-- the bits of six truths -/
def bits6 (a b c d e f : Bool) : Nat → Bool := fun k => match k with
  | 0 => a
  | 1 => b
  | 2 => c
  | 3 => d
  | 4 => e
  | _ => f
theorem sbit_ext {b b' : Nat → Bool} : ∀ n, (∀ i, i < n → b i = b' i) → sbit b n = sbit b' n
  | 0, _ => rfl
  | n + 1, h => by
    unfold sbit
    rw [h n (by omega), sbit_ext n (fun i hi => h i (by omega))]
theorem scnt_ext {b b' : Nat → Bool} : ∀ n, (∀ i, i < n → b i = b' i) → scnt b n = scnt b' n
  | 0, _ => rfl
  | n + 1, h => by
    unfold scnt
    rw [h n (by omega), scnt_ext n (fun i hi => h i (by omega))]
theorem bits6_of (b : Nat → Bool) : ∀ i, i < 6 → b i = bits6 (b 0) (b 1) (b 2) (b 3) (b 4) (b 5) i := by
  intro i hi
  match i, hi with
  | 0, _ => rfl
  | 1, _ => rfl
  | 2, _ => rfl
  | 3, _ => rfl
  | 4, _ => rfl
  | 5, _ => rfl
def bcnt (v : Int32) : Int32 := match f_J6_bitCount_0f7a4 v (fun _ _ => 0) with
  | some z => z.1
  | none => 0
theorem bcnt_eq (v : Int32) (σ : Mem) : f_J6_bitCount_0f7a4 v σ = some (bcnt v, σ) := rfl
theorem bits_all : ∀ n : Fin 7, ∀ a b c d e f : Bool, bcnt (sbit (bits6 a b c d e f) n.val) = nI (scnt (bits6 a b c d e f) n.val) := by decide +kernel
theorem bit_all : ∀ n : Fin 7, ∀ i : Fin 6, ∀ a b c d e f : Bool, i.val < n.val → (sbit (bits6 a b c d e f) n.val >>> (nI i.val &&& 31)) &&& 1 = if bits6 a b c d e f i.val = true then 1 else 0 := by decide +kernel
theorem bcnt_of (b : Nat → Bool) {n : Nat} (hn : n ≤ 6) : bcnt (sbit b n) = nI (scnt b n) := by
  have e := fun i (hi : i < n) => bits6_of b i (by omega)
  rw [sbit_ext n e, scnt_ext n e]
  exact bits_all ⟨n, by omega⟩ _ _ _ _ _ _
theorem bit_of (b : Nat → Bool) {n i : Nat} (hn : n ≤ 6) (hi : i < n) : (sbit b n >>> (nI i &&& 31)) &&& 1 = if b i = true then 1 else 0 := by
  have e := fun i (hi : i < n) => bits6_of b i (by omega)
  rw [sbit_ext n e, bits6_of b i (by omega)]
  exact bit_all ⟨n, by omega⟩ ⟨i, by omega⟩ _ _ _ _ _ _ hi
/-- the reference's loops -/
theorem m_safe' {σ S : Mem} (h : RM (σ 54) S) {r i : Nat} (hr : r < 5) (hi : i < 6) (f : Int32) : RO (f_X8_isSafe_53 (nI r) (nI i) f) σ (if sf S r f i = true then 1 else 0) := by
  have q := m_safe h hr hi f
  by_cases hm : marg S r i f < 0
  · rw [if_pos hm] at q
    rw [sf_neg hm, if_neg (by decide)]
    exact q
  · rw [if_neg hm] at q
    rw [sf_pos hm, if_pos rfl]
    exact q
theorem m_odds_l {S : Mem} {np r : Nat} (hn : np ≤ 6) (h24 : S 2 4 = nI np) (hr : r < 5) (part all v : Int32) (hpart : ∀ σ, f_X8_partOf (sumN (sw S r (S 10 r)) np) all part σ = some (v, σ)) (fu : Nat) : ∀ (i : Nat) (σ : Mem), i ≤ np → np - i < fu → RM (σ 54) S → RO (f_X8_odds_53_L46 fu (nI r) part all (sumN (sw S r (S 10 r)) i) (nI i)) σ v := by
  induction fu with
  | zero => intro i σ h1 h2; omega
  | succ fu ih =>
    intro i σ h1 h2 hm
    show ∃ σ', fb_X8_odds_53_L46 (f_X8_odds_53_L46 fu) (nI r) part all (sumN (sw S r (S 10 r)) i) (nI i) σ = some (v, σ') ∧ Same σ σ'
    rw [fb_X8_odds_53_L46, g7_386, nm_mk, c_7, hm.r7, h24]
    by_cases h : i = np
    · subst h
      rw [if_pos (Int32.le_refl _), hpart, bd_mk]
      exact ⟨σ, rfl, Same.rf σ⟩
    · rw [if_neg (fun q => absurd ((nI_leI (by omega) (by omega)).mp q) (by omega)), m_ab2 hm hr, bd_mk]
      obtain ⟨σ1, a, b⟩ := m_safe hm hr (show i < 6 by omega) (S 10 r)
      have hm1 : RM (σ1 54) S := by rw [b.r54]; exact hm
      obtain ⟨σ2, c, d⟩ := ih (i + 1) σ1 (by omega) (by omega) hm1
      rw [a, bd_mk]
      by_cases hg : marg S r i (S 10 r) < 0
      · rw [if_pos hg, if_pos rfl, nm_mk, Int32.add_zero, nm_mk, nI_1]
        refine ⟨σ2, ?_, b.tr d⟩
        rw [← c, show sumN (sw S r (S 10 r)) (i + 1) = sumN (sw S r (S 10 r)) i from by
          show sumN (sw S r (S 10 r)) i + sw S r (S 10 r) i = _
          rw [sw, if_pos hg, Int32.add_zero]]
      · rw [if_neg hg, if_neg (by decide), m_of2 hm1 (show i < 6 by omega), bd_mk, nm_mk, nm_mk, nI_1]
        refine ⟨σ2, ?_, b.tr d⟩
        rw [← c, show sumN (sw S r (S 10 r)) (i + 1) = sumN (sw S r (S 10 r)) i + S 5 i from by
          show sumN (sw S r (S 10 r)) i + sw S r (S 10 r) i = _
          rw [sw, if_neg hg]]
theorem m_surely_l {S : Mem} {np r : Nat} (hn : np ≤ 6) (h24 : S 2 4 = nI np) (hr : r < 5) (what : Int32) (fu : Nat) : ∀ (i : Nat) (σ : Mem), i ≤ np → np - i < fu → RM (σ 54) S → RO (f_X8_surely_53_L32 fu (nI r) what (sbit (sf S r (S 10 r)) i) (nI (scnt (sf S r (S 10 r)) i)) (nI i)) σ (if what = 0 then sbit (sf S r (S 10 r)) np else nI (scnt (sf S r (S 10 r)) np)) := by
  induction fu with
  | zero => intro i σ h1 h2; omega
  | succ fu ih =>
    intro i σ h1 h2 hm
    show ∃ σ', fb_X8_surely_53_L32 (f_X8_surely_53_L32 fu) (nI r) what (sbit (sf S r (S 10 r)) i) (nI (scnt (sf S r (S 10 r)) i)) (nI i) σ = some (_, σ') ∧ Same σ σ'
    rw [fb_X8_surely_53_L32, g7_386, nm_mk, c_7, hm.r7, h24]
    by_cases h : i = np
    · subst h
      rw [if_pos (Int32.le_refl _), ite_some]
      exact ⟨σ, rfl, Same.rf σ⟩
    · rw [if_neg (fun q => absurd ((nI_leI (by omega) (by omega)).mp q) (by omega)), m_ab2 hm hr, bd_mk]
      obtain ⟨σ1, a, b⟩ := m_safe hm hr (show i < 6 by omega) (S 10 r)
      have hm1 : RM (σ1 54) S := by rw [b.r54]; exact hm
      obtain ⟨σ2, c, d⟩ := ih (i + 1) σ1 (by omega) (by omega) hm1
      rw [a, bd_mk]
      by_cases hg : marg S r i (S 10 r) < 0
      · rw [if_pos hg, if_pos rfl, nm_mk, nm_mk, if_pos rfl, nm_mk, Int32.add_zero, nI_1, Int32.or_zero]
        refine ⟨σ2, ?_, b.tr d⟩
        rw [← c, sbit, scnt, sf_neg hg, if_neg (by decide), if_neg (by decide)]
      · rw [if_neg hg, if_neg (by decide), nm_mk, nm_mk, if_neg (by decide), nm_mk, nm_mk, nI_1, nI_1]
        refine ⟨σ2, ?_, b.tr d⟩
        rw [← c, sbit, scnt, sf_pos hg, if_pos rfl, if_pos rfl]
