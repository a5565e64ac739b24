/-! the sheets' numbers; fits -/
theorem and8 (m : Int32) : (m &&& 255).toInt8 = m.toInt8 := by
  rw [Int32.toInt8_and]
  exact Int8.and_neg_one
theorem and16 (m : Int32) : (m &&& 65535).toInt16 = m.toInt16 := by
  rw [Int32.toInt16_and]
  exact Int16.and_neg_one
theorem cr_01 {b x m : Int32} (h : cr b x m) : (x = 0 ↔ m = 0) ∧ (x = 1 ↔ m = 1) := by
  by_cases h8 : b = 8
  · obtain ⟨h1, h2⟩ := h.1 h8
    have e : m = x.toInt8.toInt32 := by rw [h1, and8, h2]
    refine ⟨⟨fun q => ?_, fun q => ?_⟩, ⟨fun q => ?_, fun q => ?_⟩⟩
    · rw [e, q]; rfl
    · rw [h1, q]; rfl
    · rw [e, q]; rfl
    · rw [h1, q]; rfl
  · by_cases h16 : b = 16
    · obtain ⟨h1, h2⟩ := h.2.1 h16
      have e : m = x.toInt16.toInt32 := by rw [h1, and16, h2]
      refine ⟨⟨fun q => ?_, fun q => ?_⟩, ⟨fun q => ?_, fun q => ?_⟩⟩
      · rw [e, q]; rfl
      · rw [h1, q]; rfl
      · rw [e, q]; rfl
      · rw [h1, q]; rfl
    · rw [h.2.2 h8 h16]
      exact ⟨Iff.rfl, Iff.rfl⟩
def fbN (g : Nat → Bool) : Nat → Bool
  | 0 => true
  | n + 1 => fbN g n && g n
theorem fbN_false {g : Nat → Bool} {i : Nat} (h : g i = false) : ∀ n, i < n → fbN g n = false
  | 0, q => by omega
  | n + 1, q => by
    unfold fbN
    by_cases e : i = n
    · subst e
      rw [h, Bool.and_false]
    · rw [fbN_false h n (by omega), Bool.false_and]
/-- the sheet's i-th number tells whether PITCH i is safe -/
def fg (S : Mem) (s r : Nat) (f : Int32) (i : Nat) : Bool := decide (S 49 (s * 24 + i) = if sf S r f i = true then 1 else 0)
theorem Same.c {σ τ : Mem} (h : Same σ τ) (k : Nat) (hk : decide (¬ k = 15 ∧ ¬ k = 18 ∧ ¬ k = 62 ∧ ¬ k = 63) = true) : τ k = σ k := by
  obtain ⟨a, b, c, d⟩ := of_decide_eq_true hk
  exact h k a b c d
theorem i_s24 (s i : Nat) : nI s * 24 + nI i = nI (s * 24 + i) := by
  rw [show nI s * 24 = nI (s * 24) from mulI s 24]
  exact (Int32.ofNat_add _ _).symm
theorem i_24s (s i : Nat) : 24 * nI s + nI i = nI (s * 24 + i) := by
  rw [show 24 * nI s = nI (24 * s) from mulI 24 s, Nat.mul_comm]
  exact (Int32.ofNat_add _ _).symm
theorem x_fits_l {S : Mem} {s r : Nat} {f : Int32} {np n : Nat} (hs : s < 4) (hn : n ≤ np) (hnp : np ≤ 6) (fu : Nat) : ∀ (i : Nat) (σ : Mem), i ≤ n → n - i < fu → σ 49 = S 49 → fbN (fg S s r f) i = true → f_X7_fitsFrom_0_L42 fu (nI s) (nI n) (sbit (sf S r f) np) (nI i) σ = some (if fbN (fg S s r f) n = true then 1 else 0, σ) := by
  induction fu with
  | zero => intro i σ h1 h2; omega
  | succ fu ih =>
    intro i σ h1 h2 h49 hb
    show fb_X7_fitsFrom_0_L42 (f_X7_fitsFrom_0_L42 fu) (nI s) (nI n) (sbit (sf S r f) np) (nI i) σ = _
    rw [fb_X7_fitsFrom_0_L42]
    by_cases h : i = n
    · subst h
      rw [if_pos (Int32.le_refl _), gb_1, if_pos hb]
    · rw [if_neg (fun q => absurd ((nI_leI (by omega) (by omega)).mp q) (by omega)), f_X4_read_46, nm_mk, nm_mk, i_s24, gin (by omega), nm_mk, cln (by omega), bd_mk, nm_mk, nm_mk, bit_of _ hnp (by omega), h49]
      by_cases hg : fg S s r f i = true
      · rw [if_pos (of_decide_eq_true hg), nm_mk, nI_1]
        exact ih (i + 1) σ (by omega) (by omega) h49 (by unfold fbN; rw [hb, hg]; rfl)
      · have hg' : fg S s r f i = false := by simpa using hg
        rw [if_neg (of_decide_eq_false hg'), gb_0, fbN_false hg' n (by omega)]
        rfl
theorem m_fits_l {S : Mem} {s r : Nat} {f : Int32} {n : Nat} (hs : s < 4) (hr : r < 5) (hn : n ≤ 6) (hc : ∀ i, i < 24 → cr (S 47 s) (S 49 (s * 24 + i)) (S 59 (s * 24 + i))) (fu : Nat) : ∀ (i : Nat) (σ : Mem), i ≤ n → n - i < fu → RM (σ 54) S → σ 58 s = nI n → σ 59 = S 59 → RO (f_X8_isSo_53_L26 fu (nI s) (nI r) f (if fbN (fg S s r f) i = true then 1 else 0) (nI i)) σ (if fbN (fg S s r f) n = true then 1 else 0) := by
  induction fu with
  | zero => intro i σ h1 h2; omega
  | succ fu ih =>
    intro i σ h1 h2 hm h58 h59
    show ∃ σ', fb_X8_isSo_53_L26 (f_X8_isSo_53_L26 fu) (nI s) (nI r) f (if fbN (fg S s r f) i = true then 1 else 0) (nI i) σ = some (_, σ') ∧ Same σ σ'
    rw [fb_X8_isSo_53_L26, gin (by omega), nm_mk, cln (by omega), h58]
    by_cases h : i = n
    · subst h
      exact ⟨σ, by rw [if_pos (Int32.le_refl _), gb_ite], Same.rf σ⟩
    · rw [if_neg (fun q => absurd ((nI_leI (by omega) (by omega)).mp q) (by omega))]
      by_cases hb : fbN (fg S s r f) i = true
      · rw [if_pos hb, if_neg n01, nm_mk, nm_mk, i_24s, gin (by omega), nm_mk, cln (by omega), h59]
        obtain ⟨σ1, a, b⟩ := m_safe' hm hr (show i < 6 by omega) f
        obtain ⟨σ2, d, e⟩ := ih (i + 1) σ1 (by omega) (by omega) (by rw [b.r54]; exact hm) (by rw [b.c 58 rfl]; exact h58) (by rw [b.c 59 rfl]; exact h59)
        obtain ⟨z0, z1⟩ := cr_01 (hc i (by omega))
        refine ⟨σ2, ?_, b.tr e⟩
        rw [a, bd_mk, ← d]
        have hu : fbN (fg S s r f) (i + 1) = fg S s r f i := by
          show (fbN (fg S s r f) i && fg S s r f i) = _
          rw [hb, Bool.true_and]
        rw [hu]
        unfold fg
        by_cases hsf : sf S r f i = true
        · rw [if_pos hsf, if_neg n01, nm_mk, nI_1]
          by_cases h1 : S 59 (s * 24 + i) = 1
          · rw [if_pos h1, if_pos (decide_eq_true (z1.mpr h1))]
          · rw [if_neg h1, if_neg (fun q => h1 (z1.mp (of_decide_eq_true q)))]
            rfl
        · rw [if_neg hsf, if_pos rfl, nm_mk, nI_1]
          by_cases h1 : S 59 (s * 24 + i) = 0
          · rw [if_pos h1, if_pos (decide_eq_true (z0.mpr h1))]
          · rw [if_neg h1, if_neg (fun q => h1 (z0.mp (of_decide_eq_true q)))]
            rfl
      · have hf : fbN (fg S s r f) n = false := by
          have key : ∀ m, i ≤ m → fbN (fg S s r f) m = false := by
            intro m
            induction m with
            | zero => intro q; have : i = 0 := by omega
                      subst this; exact absurd rfl hb
            | succ m ihm =>
              intro q
              by_cases e : i = m + 1
              · subst e; simpa using hb
              · unfold fbN; rw [ihm (by omega), Bool.false_and]
          exact key n h1
        exact ⟨σ, by rw [if_neg hb, if_pos rfl, gb_0, hf]; rfl, Same.rf σ⟩
def fitB (S : Mem) (s r : Nat) (f : Int32) (n np : Nat) : Bool := decide (n ≤ np) && fbN (fg S s r f) n
theorem Rel.sr {c : Nat} {σ : Mem} (w : Rel c σ) : SR σ := w.2.2.2.2.1
theorem x_fitsFrom {c : Nat} {S σ : Mem} (w : Rel c S) (hS : Same S σ) {s r n np : Nat} (hs : s < 4) (hr : r < 5) (hn : n ≤ 24) (hnp : np ≤ 6) (h48 : S 48 s = nI n) (h24 : S 2 4 = nI np) (f : Int32) : RO (f_X7_fitsFrom_0 (nI s) (nI r) f) σ (if fitB S s r f n np = true then 1 else 0) := by
  by_cases h : n ≤ np
  · obtain ⟨σ1, a, b⟩ := x_safep ((Sc.rf S).same hS) w.1 hnp h24 hr f
    refine ⟨σ1, ?_, b⟩
    rw [f_X7_fitsFrom_0, gin (by omega), nm_mk, cln (by omega), hS.c 48 rfl, h48, nm_mk, hS.c 2 rfl, h24, if_pos ((nI_leI (by omega) (by omega)).mpr h), a, bd_mk]
    rw [show fitB S s r f n np = fbN (fg S s r f) n by rw [fitB, decide_eq_true h, Bool.true_and]]
    exact x_fits_l hs h hnp 1000 0 σ1 (by omega) (by omega) ((b.c 49 rfl).trans (hS.c 49 rfl)) rfl
  · refine ⟨σ, ?_, Same.rf σ⟩
    rw [f_X7_fitsFrom_0, gin (by omega), nm_mk, cln (by omega), hS.c 48 rfl, h48, nm_mk, hS.c 2 rfl, h24, if_neg (fun q => h ((nI_leI (by omega) (by omega)).mp q)), gb_0, fitB, decide_eq_false h, Bool.false_and]
    rfl
theorem m_isSo {c : Nat} {σ τ : Mem} (w : Rel c σ) (ht : Mo σ τ) {s r n np : Nat} (hs : s < 4) (hr : r < 5) (hn : n ≤ 24) (hnp : np ≤ 6) (h48 : σ 48 s = nI n) (h24 : σ 2 4 = nI np) (f : Int32) : RO (f_X8_isSo_53 (nI s) (nI r) f) τ (if fitB σ s r f n np = true then 1 else 0) := by
  have sr := w.sr s hs
  have h58 : τ 58 s = nI n := by rw [ht 58 (by decide) (by decide) (by decide), ← sr.2.1, h48]
  have rm := w.rm ht
  have h7 : τ 54 7 = nI np := rm.r7.trans h24
  by_cases h : n ≤ np
  · obtain ⟨σ2, d, e⟩ := m_fits_l (f := f) hs hr (show n ≤ 6 by omega) sr.2.2.2.2 1000 0 τ (by omega) (by omega) rm h58 (ht 59 (by decide) (by decide) (by decide))
    refine ⟨σ2, ?_, e⟩
    rw [f_X8_isSo_53, gin (by omega), nm_mk, cln (by omega), h58, g7_386, nm_mk, c_7, h7, if_neg (fun q => absurd ((nI_ltI (by omega) (by omega)).mp q) (by omega))]
    rw [show fitB σ s r f n np = fbN (fg σ s r f) n by rw [fitB, decide_eq_true h, Bool.true_and]]
    exact d
  · refine ⟨τ, ?_, Same.rf τ⟩
    rw [f_X8_isSo_53, gin (by omega), nm_mk, cln (by omega), h58, g7_386, nm_mk, c_7, h7, if_pos ((nI_ltI (by omega) (by omega)).mpr (by omega)), fitB, decide_eq_false h, Bool.false_and]
    show fb_X8_isSo_53_L26 (f_X8_isSo_53_L26 999) (nI s) (nI r) f 0 0 τ = _
    rw [fb_X8_isSo_53_L26, gin (by omega), nm_mk, cln (by omega), h58, if_pos rfl, gb_0, ite_self]
    rfl
