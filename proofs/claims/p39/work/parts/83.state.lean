/-! what stands in the class's scene (cells 1 .. 20), and how the reference's row tells it -/
def bn (v : Int32) (n : Nat) : Prop := ∃ x : Nat, x ≤ n ∧ v = nI x
def TX (S : Mem) (o s : Nat) : Prop := S o 3 = 0 ∨ (S o 3 = 1 ∧ ∃ L, S o 2 = nI L ∧ okp (S s) L)
def MT (ρ : Nat → Int32) (a : Nat) (S : Mem) (o s : Nat) : Prop := (S o 3 = 0 ∧ ρ a = 0) ∨ (S o 3 = 1 ∧ ∃ L, S o 2 = nI L ∧ okp (S s) L ∧ ρ a = nI L ∧ ∀ i, i < L → enc (S s i) (ρ (a + 1 + i)) (ρ (a + 61 + i)))
/-- the bounds of the document -/
def WF (S : Mem) : Prop :=
  (bn (S 2 4) 6 ∧ bn (S 7 5) 5) ∧ (∀ i, i < 6 → bn (S 3 i) 6 ∧ bn (S 4 i) 9 ∧ bn (S 5 i) 9 ∧ bn (S 6 i) 9999) ∧
  (∀ i, i < 5 → bn (S 8 i) 99 ∧ bn (S 9 i) 60 ∧ bn (S 10 i) 20 ∧ bn (S 11 i) 9999 ∧ bn (S 12 i) 9999) ∧
  (bn (S 1 8) 200 ∧ bn (S 1 9) 200 ∧ bn (S 1 10) 9 ∧ bn (S 1 11) 2 ∧ bn (S 1 12) 9999 ∧ (-9999 ≤ S 1 13 ∧ S 1 13 ≤ 9999)) ∧
  (bn (S 1 5) 60 ∧ bn (S 1 7) 24) ∧ (∀ i, i < 60 → fits .byte (.int (S 19 i)) = true) ∧ TX S 13 14 ∧ TX S 16 17
def RM (ρ : Nat → Int32) (S : Mem) : Prop :=
  (ρ 0 = S 1 8 ∧ ρ 1 = S 1 9 ∧ ρ 2 = S 1 10 ∧ ρ 3 = S 1 11 ∧ ρ 4 = S 1 12 ∧ ρ 5 = S 1 13 ∧ ρ 6 = S 1 14) ∧ (ρ 7 = S 2 4 ∧ ρ 8 = S 7 5 ∧ ρ 9 = S 1 5 ∧ ρ 10 = S 1 7) ∧
  (∀ i, i < 6 → ρ (11 + 4 * i) = S 3 i ∧ ρ (11 + 4 * i + 1) = S 4 i ∧ ρ (11 + 4 * i + 2) = S 5 i ∧ ρ (11 + 4 * i + 3) = S 6 i) ∧
  (∀ i, i < 5 → ρ (35 + 5 * i) = S 8 i ∧ ρ (35 + 5 * i + 1) = S 9 i ∧ ρ (35 + 5 * i + 2) = S 10 i ∧ ρ (35 + 5 * i + 3) = S 11 i ∧ ρ (35 + 5 * i + 4) = S 12 i) ∧
  (∀ i, i < 60 → ρ (60 + i) = S 19 i &&& 255) ∧ (∀ i, i < 24 → ρ (120 + i) = S 20 i) ∧ MT ρ 144 S 13 14 ∧ MT ρ 265 S 16 17
/-- the scene is the same one, but for the stacks -/
def Sc (σ S : Mem) : Prop := ∀ k, 1 ≤ k → k ≤ 20 → ¬ k = 15 → ¬ k = 18 → σ k = S k
theorem Sc.rf (σ : Mem) : Sc σ σ := fun _ _ _ _ _ => rfl
theorem Sc.same {σ σ' S : Mem} (h : Sc σ S) (h2 : Same σ σ') : Sc σ' S := fun k a b c d => by rw [h2 k c d (by omega) (by omega)]; exact h k a b c d
/-- what a USE gives -/
def cl (lo hi a : Int32) : Int32 := if lo ≤ a then (if a ≤ hi then a else hi) else lo
def tval (S : Mem) (o s : Nat) (pl x y z : Int32) : Int32 := if S o 3 = 0 then pl else vs (S s) x y z (S o 2).toNatClampNeg 0
def giv0 (S : Mem) (x y z : Int32) : Int32 := cl 0 199 (tval S 13 14 x x y z)
def giv1 (S : Mem) (x y z : Int32) : Int32 := cl (-99) 99 (tval S 16 17 (if x = 1 then 25 else -50) x y z)
theorem xh (a lo hi : Int32) (h : lo ≤ hi) (σ : Mem) : f_X3_held a lo hi σ = some (cl lo hi a, σ) := by
  rw [f_X3_held, nm_mk, nm_mk]
  congr 2
  unfold cl
  by_cases h1 : lo ≤ a
  · rw [if_pos h1]
    by_cases h2 : a ≤ hi
    · rw [if_pos h2]
      by_cases h3 : a < hi
      · rw [if_pos h3]
        by_cases h4 : lo < a
        · rw [if_pos h4]
        · rw [if_neg h4]; exact Int32.le_antisymm h1 (Int32.not_lt.mp h4)
      · rw [if_neg h3]
        have e : hi = a := Int32.le_antisymm (Int32.not_lt.mp h3) h2
        subst e
        by_cases h4 : lo < hi
        · rw [if_pos h4]
        · rw [if_neg h4]; exact Int32.le_antisymm h1 (Int32.not_lt.mp h4)
    · rw [if_neg h2, if_neg (fun q => h2 (Int32.le_of_lt q))]
      by_cases h4 : lo < hi
      · rw [if_pos h4]
      · rw [if_neg h4]; exact Int32.le_antisymm h (Int32.not_lt.mp h4)
  · rw [if_neg h1]
    have h5 : a < lo := Int32.not_le.mp h1
    rw [if_pos (Int32.lt_of_lt_of_le h5 h), if_neg (fun q => h1 (Int32.le_of_lt q))]
theorem mh (a lo hi : Int32) (σ : Mem) : f_X8_held a lo hi σ = some (cl lo hi a, σ) := by
  rw [f_X8_held, cl]
  by_cases h1 : lo ≤ a
  · rw [if_pos h1, if_pos h1]
    by_cases h2 : a ≤ hi
    · rw [if_pos h2, if_pos h2]
    · rw [if_neg h2, if_neg h2]
  · rw [if_neg h1, if_neg h1]
theorem xwork13 {σ S : Mem} (hs : Sc σ S) {L : Nat} (h2 : S 13 2 = nI L) (hok : okp (S 14) L) (x y z : Int32) : RO (f_X5_work_13 x y z) σ (vs (S 14) x y z L 0) := by
  have e2 : σ 13 2 = nI L := by rw [hs 13 (by decide) (by decide) (by decide) (by decide)]; exact h2
  exact xwork_13 (S 14) L x y z hok 1000 0 σ (by omega) (by have := hok.2.1; omega) e2 (fun i _ => by rw [hs 14 (by decide) (by decide) (by decide) (by decide)]) (fun i hi => absurd hi (by show ¬ i < 0; omega))
theorem xwork16 {σ S : Mem} (hs : Sc σ S) {L : Nat} (h2 : S 16 2 = nI L) (hok : okp (S 17) L) (x y z : Int32) : RO (f_X5_work_16 x y z) σ (vs (S 17) x y z L 0) := by
  have e2 : σ 16 2 = nI L := by rw [hs 16 (by decide) (by decide) (by decide) (by decide)]; exact h2
  exact xwork_16 (S 17) L x y z hok 1000 0 σ (by omega) (by have := hok.2.1; omega) e2 (fun i _ => by rw [hs 17 (by decide) (by decide) (by decide) (by decide)]) (fun i hi => absurd hi (by show ¬ i < 0; omega))
theorem RO.of {F : Mem → Res} {σ σ' : Mem} {v : Int32} (a : F σ = some (v, σ')) (b : Same σ σ') : RO F σ v := ⟨σ', a, b⟩
theorem x_giv0 {σ S : Mem} (hs : Sc σ S) (ht : TX S 13 14) (x y z : Int32) : RO (f_X3_gives_1 0 x y z) σ (giv0 S x y z) := by
  have e3 : σ 13 3 = S 13 3 := by rw [hs 13 (by decide) (by decide) (by decide) (by decide)]
  unfold giv0 tval
  rcases ht with h | ⟨h, L, h2, hok⟩
  · rw [if_pos h]
    exact ⟨σ, by rw [f_X3_gives_1, if_pos rfl, nm_mk, e3, if_pos h, xh _ _ _ (by decide), bd_mk], Same.rf σ⟩
  · have hn : ¬ S 13 3 = 0 := by rw [h]; decide
    have hL := hok.2.1
    obtain ⟨σ', a, b⟩ := xwork13 hs h2 hok x y z
    rw [if_neg hn, h2, cln (by omega)]
    exact ⟨σ', by rw [f_X3_gives_1, if_pos rfl, nm_mk, e3, if_neg hn, a, bd_mk, xh _ _ _ (by decide), bd_mk], b⟩
theorem x_giv1 {σ S : Mem} (hs : Sc σ S) (ht : TX S 16 17) (x y z : Int32) : RO (f_X3_gives_1 1 x y z) σ (giv1 S x y z) := by
  have e3 : σ 16 3 = S 16 3 := by rw [hs 16 (by decide) (by decide) (by decide) (by decide)]
  have n10 : ¬ (1 : Int32) = 0 := by decide
  unfold giv1 tval
  rcases ht with h | ⟨h, L, h2, hok⟩
  · rw [if_pos h]
    by_cases hx : x = 1
    · rw [if_pos hx]
      exact ⟨σ, by rw [f_X3_gives_1, if_neg n10, if_pos hx, nm_mk, e3, if_pos h, xh _ _ _ (by decide), bd_mk], Same.rf σ⟩
    · rw [if_neg hx]
      exact ⟨σ, by rw [f_X3_gives_1, if_neg n10, if_neg hx, nm_mk, e3, if_pos h, xh _ _ _ (by decide), bd_mk], Same.rf σ⟩
  · have hn : ¬ S 16 3 = 0 := by rw [h]; decide
    have hL := hok.2.1
    obtain ⟨σ', a, b⟩ := xwork16 hs h2 hok x y z
    rw [if_neg hn, h2, cln (by omega)]
    by_cases hx : x = 1
    · exact ⟨σ', by rw [f_X3_gives_1, if_neg n10, if_pos hx, nm_mk, e3, if_neg hn, a, bd_mk, xh _ _ _ (by decide), bd_mk], b⟩
    · exact ⟨σ', by rw [f_X3_gives_1, if_neg n10, if_neg hx, nm_mk, e3, if_neg hn, a, bd_mk, xh _ _ _ (by decide), bd_mk], b⟩
/-- the reference's facts laid, its texts at work -/
theorem m_facts (σ : Mem) (x y z : Int32) : Same σ (mset (mset (mset σ 62 0 x) 62 1 y) 62 2 z) := ((Same.set (Or.inr (Or.inr (Or.inl rfl)))).tr (Same.set (Or.inr (Or.inr (Or.inl rfl))))).tr (Same.set (Or.inr (Or.inr (Or.inl rfl))))
theorem m_works {σ : Mem} {S : Mem} {a o s L : Nat} (ha : a ≤ 265) (hok : okp (S s) L) (h1 : σ 54 a = nI L) (h2 : ∀ i, i < L → enc (S s i) (σ 54 (a + 1 + i)) (σ 54 (a + 61 + i))) (x y z : Int32) : RO (f_X8_works_53 (nI a)) (mset (mset (mset σ 62 0 x) 62 1 y) 62 2 z) (vs (S s) x y z L 0) := by
  refine mworks (S s) L a ha x y z hok 1000 0 _ (by omega) (by have := hok.2.1; omega) ?_ ?_ ?_ ?_ ?_ (fun i hi => absurd hi (by show ¬ i < 0; omega))
  · rw [mset_ne (by decide), mset_ne (by decide), mset_ne (by decide)]; exact h1
  · intro i hi
    rw [mset_ne (by decide), mset_ne (by decide), mset_ne (by decide)]; exact h2 i hi
  · rw [mset_eq, pk_un (by decide), mset_eq, pk_un (by decide), mset_eq, pk_us]
  · rw [mset_eq, pk_un (by decide), mset_eq, pk_us]
  · rw [mset_eq, pk_us]
theorem ltpos {L : Nat} (h : 1 ≤ L) (h2 : L ≤ 60) : ¬ nI L ≤ 0 := nI_nle (by omega) (by omega)
theorem m_giv0 {σ S : Mem} (ht : MT (σ 54) 144 S 13 14) (x y z : Int32) : RO (f_X8_gives_53 0 x y z) σ (giv0 S x y z) := by
  have sm := m_facts σ x y z
  unfold giv0 tval
  rcases ht with ⟨h, h0⟩ | ⟨h, L, h2, hok, h3, h4⟩
  · rw [if_pos h]
    refine ⟨_, ?_, sm⟩
    rw [f_X8_gives_53, nm_mk, nm_mk, g0_3, nm_mk, c_0, g1_3, nm_mk, c_1, g2_3, nm_mk, c_2, show (144 + 121 * 0 : Int32) = nI 144 from rfl, gin (by omega), nm_mk, cln (by omega), mset_ne (by decide), mset_ne (by decide), mset_ne (by decide), h0, if_pos (Int32.le_refl _), if_pos rfl, if_pos rfl, mh, bd_mk]
  · have hn : ¬ S 13 3 = 0 := by rw [h]; decide
    have hL := hok.2.1
    obtain ⟨σ', a, b⟩ := m_works (o := 13) (by omega) hok h3 h4 x y z
    rw [if_neg hn, h2, cln (by omega)]
    refine ⟨σ', ?_, sm.tr b⟩
    rw [f_X8_gives_53, nm_mk, nm_mk, g0_3, nm_mk, c_0, g1_3, nm_mk, c_1, g2_3, nm_mk, c_2, show (144 + 121 * 0 : Int32) = nI 144 from rfl, gin (by omega), nm_mk, cln (by omega), mset_ne (by decide), mset_ne (by decide), mset_ne (by decide), h3, if_neg (ltpos hok.1 hok.2.1), a, bd_mk, if_pos rfl, mh, bd_mk]
theorem m_giv1 {σ S : Mem} (ht : MT (σ 54) 265 S 16 17) (x y z : Int32) : RO (f_X8_gives_53 1 x y z) σ (giv1 S x y z) := by
  have sm := m_facts σ x y z
  have n10 : ¬ (1 : Int32) = 0 := by decide
  unfold giv1 tval
  rcases ht with ⟨h, h0⟩ | ⟨h, L, h2, hok, h3, h4⟩
  · rw [if_pos h]
    refine ⟨_, ?_, sm⟩
    rw [f_X8_gives_53, nm_mk, nm_mk, g0_3, nm_mk, c_0, g1_3, nm_mk, c_1, g2_3, nm_mk, c_2, show (144 + 121 * 1 : Int32) = nI 265 from rfl, gin (by omega), nm_mk, cln (by omega), mset_ne (by decide), mset_ne (by decide), mset_ne (by decide), h0, if_pos (Int32.le_refl _), if_neg n10]
    by_cases hx : x = 1
    · rw [if_pos hx, if_pos hx, if_neg n10, mh, bd_mk]
    · rw [if_neg hx, if_neg hx, if_neg n10, mh, bd_mk]
  · have hn : ¬ S 16 3 = 0 := by rw [h]; decide
    have hL := hok.2.1
    obtain ⟨σ', a, b⟩ := m_works (o := 16) (by omega) hok h3 h4 x y z
    rw [if_neg hn, h2, cln (by omega)]
    refine ⟨σ', ?_, sm.tr b⟩
    rw [f_X8_gives_53, nm_mk, nm_mk, g0_3, nm_mk, c_0, g1_3, nm_mk, c_1, g2_3, nm_mk, c_2, show (144 + 121 * 1 : Int32) = nI 265 from rfl, gin (by omega), nm_mk, cln (by omega), mset_ne (by decide), mset_ne (by decide), mset_ne (by decide), h3, if_neg (ltpos hok.1 hok.2.1), a, bd_mk, if_neg n10, mh, bd_mk]
