/-! move, weightsBy, judge -/
/-- n numbers from S on, laid from D on, as they all were -/
def mvU (f : Nat → Int32) (S D k : Nat) : Nat → Int32 := fun x => if D ≤ x ∧ x < D + k then f (S + (x - D)) else f x
def mvD (f : Nat → Int32) (S D n k : Nat) : Nat → Int32 := fun x => if D + (n - k) ≤ x ∧ x < D + n then f (S + (x - D)) else f x
theorem mvU_s {f : Nat → Int32} {S D k : Nat} : upd (mvU f S D k) (D + k) (f (S + k)) = mvU f S D (k + 1) := by
  funext x
  unfold upd mvU
  by_cases h : x = D + k
  · rw [if_pos h, if_pos (by omega), h, show D + k - D = k by omega]
  · rw [if_neg h]
    by_cases h2 : D ≤ x ∧ x < D + k
    · rw [if_pos h2, if_pos (by omega)]
    · rw [if_neg h2, if_neg (by omega)]
theorem mvD_s {f : Nat → Int32} {S D n k : Nat} (hk : k < n) : upd (mvD f S D n k) (D + (n - 1 - k)) (f (S + (n - 1 - k))) = mvD f S D n (k + 1) := by
  funext x
  unfold upd mvD
  by_cases h : x = D + (n - 1 - k)
  · rw [if_pos h, if_pos (by omega), h, show D + (n - 1 - k) - D = n - 1 - k by omega]
  · rw [if_neg h]
    by_cases h2 : D + (n - k) ≤ x ∧ x < D + n
    · rw [if_pos h2, if_pos (by omega)]
    · rw [if_neg h2, if_neg (by omega)]
theorem m_move_u {s t i j n : Nat} (hs : s < 4) (ht : t < 4) (hi : i + n ≤ 24) (hj : j + n ≤ 24) (hle : j ≤ i) (σ : Mem) (fu : Nat) : ∀ k, k ≤ n → n - k < fu → f_X8_move_53_L28 fu (nI s) (nI i) (nI t) (nI j) (nI n) (nI k) (mrow σ 59 (mvU (σ 59) (s * 24 + i) (t * 24 + j) k)) = some (nI n, mrow σ 59 (mvU (σ 59) (s * 24 + i) (t * 24 + j) n)) := by
  induction fu with
  | zero => intro k h1 h2; omega
  | succ fu ih =>
    intro k h1 h2
    show fb_X8_move_53_L28 (f_X8_move_53_L28 fu) (nI s) (nI i) (nI t) (nI j) (nI n) (nI k) _ = _
    rw [fb_X8_move_53_L28]
    by_cases h : k = n
    · subst h
      rw [if_pos (Int32.le_refl _)]
    · have e1 : ∀ a b : Nat, nI a + nI b = nI (a + b) := fun a b => nI_add a b
      have rd : mvU (σ 59) (s * 24 + i) (t * 24 + j) k (s * 24 + i + k) = σ 59 (s * 24 + i + k) := if_neg (by omega)
      rw [if_neg (fun q => absurd ((nI_leI (by omega) (by omega)).mp q) (by omega)), if_pos ((nI_leI (by omega) (by omega)).mpr hle), nm_mk, nm_mk, i_24s, nm_mk, e1, nm_mk, nm_mk, i_24s, nm_mk, e1, gin (by omega), nm_mk, cln (by omega), gin (by omega), nm_mk, cln (by omega), mrow_eq, rd, nm_mk, nI_1, mset_mrow, mvU_s]
      exact ih (k + 1) (by omega) (by omega)
theorem m_move_d {s t i j n : Nat} (hs : s < 4) (ht : t < 4) (hi : i + n ≤ 24) (hj : j + n ≤ 24) (hle : ¬ j ≤ i) (σ : Mem) (fu : Nat) : ∀ k, k ≤ n → n - k < fu → f_X8_move_53_L28 fu (nI s) (nI i) (nI t) (nI j) (nI n) (nI k) (mrow σ 59 (mvD (σ 59) (s * 24 + i) (t * 24 + j) n k)) = some (nI n, mrow σ 59 (mvD (σ 59) (s * 24 + i) (t * 24 + j) n n)) := by
  induction fu with
  | zero => intro k h1 h2; omega
  | succ fu ih =>
    intro k h1 h2
    show fb_X8_move_53_L28 (f_X8_move_53_L28 fu) (nI s) (nI i) (nI t) (nI j) (nI n) (nI k) _ = _
    rw [fb_X8_move_53_L28]
    by_cases h : k = n
    · subst h
      rw [if_pos (Int32.le_refl _)]
    · have e1 : ∀ a b : Nat, nI a + nI b = nI (a + b) := fun a b => nI_add a b
      have e2 : nI n - 1 = nI (n - 1) := nI_sub (a := n) (b := 1) (by omega)
      have rd : mvD (σ 59) (s * 24 + i) (t * 24 + j) n k (s * 24 + i + (n - 1 - k)) = σ 59 (s * 24 + i + (n - 1 - k)) := if_neg (by omega)
      rw [if_neg (fun q => absurd ((nI_leI (by omega) (by omega)).mp q) (by omega)), if_neg (fun q => hle ((nI_leI (by omega) (by omega)).mp q)), nm_mk, e2, nm_mk, nI_sub (by omega), nm_mk, nm_mk, i_24s, nm_mk, e1, nm_mk, nm_mk, i_24s, nm_mk, e1, gin (by omega), nm_mk, cln (by omega), gin (by omega), nm_mk, cln (by omega), mrow_eq, rd, nm_mk, nI_1, mset_mrow, mvD_s (by omega)]
      exact ih (k + 1) (by omega) (by omega)
theorem m_move {s t i j n : Nat} (hs : s < 4) (ht : t < 4) (hi : i + n ≤ 24) (hj : j + n ≤ 24) (σ : Mem) : f_X8_move_53_L28 1000 (nI s) (nI i) (nI t) (nI j) (nI n) (nI 0) σ = some (nI n, mrow σ 59 (mvU (σ 59) (s * 24 + i) (t * 24 + j) n)) := by
  by_cases hle : j ≤ i
  · have h := m_move_u hs ht hi hj hle σ 1000 0 (by omega) (by omega)
    rw [show mrow σ 59 (mvU (σ 59) (s * 24 + i) (t * 24 + j) 0) = σ from mrow_self (by funext x; exact (if_neg (by omega)).symm)] at h
    exact h
  · have h := m_move_d hs ht hi hj hle σ 1000 0 (by omega) (by omega)
    rw [show mrow σ 59 (mvD (σ 59) (s * 24 + i) (t * 24 + j) n 0) = σ from mrow_self (by funext x; exact (if_neg (by omega)).symm)] at h
    rw [h]
    have e : mvD (σ 59) (s * 24 + i) (t * 24 + j) n n = mvU (σ 59) (s * 24 + i) (t * 24 + j) n := by
      funext x
      unfold mvD mvU
      rw [show t * 24 + j + (n - n) = t * 24 + j by omega]
    rw [e]
theorem okc_i {sp dp n N : Nat} (h1 : sp + n ≤ N) (h2 : dp + n ≤ N) (hN : N < 1000) (f : Nat → Int32) : okc false (nI sp) (nI dp) (nI n) N N f = true := by
  unfold okc
  rw [Bool.and_eq_true, cln (by omega), cln (by omega), cln (by omega)]
  exact ⟨decide_eq_true ⟨nI_pos (by omega), nI_pos (by omega), nI_pos (by omega), h1, h2⟩, List.all_eq_true.mpr fun _ _ => rfl⟩
theorem x_copy {s t i j n : Nat} (hs : s < 4) (ht : t < 4) (hi : i + n ≤ 24) (hj : j + n ≤ 24) (σ : Mem) : f_X4_copy_46 (nI s) (nI i) (nI t) (nI j) (nI n) σ = some (0, mrow σ 49 (mvU (σ 49) (s * 24 + i) (t * 24 + j) n)) := by
  rw [f_X4_copy_46, nm_mk, nm_mk, i_s24, nm_mk, nm_mk, i_s24, gt_of (okc_i (by omega) (by omega) (by omega) _), nm_mk, cln (by omega), cln (by omega), cln (by omega)]
  rfl
theorem SR.move {σ : Mem} (h : SR σ) {s t i j n : Nat} (hs : s < 4) (ht : t < 4) (hi : i + n ≤ 24) (hj : j + n ≤ 24) (hb : σ 47 s = σ 47 t) {τ : Mem} (e47 : τ 47 = σ 47) (e48 : τ 48 = σ 48) (e49 : τ 49 = mvU (σ 49) (s * 24 + i) (t * 24 + j) n) (e57 : τ 57 = σ 57) (e58 : τ 58 = σ 58) (e59 : τ 59 = mvU (σ 59) (s * 24 + i) (t * 24 + j) n) : SR τ := by
  intro u hu
  obtain ⟨p1, p2, p3, p4, p5⟩ := h u hu
  rw [e47, e48, e49, e57, e58, e59]
  refine ⟨p1, p2, p3, p4, fun x hx => ?_⟩
  unfold mvU
  by_cases q : t * 24 + j ≤ u * 24 + x ∧ u * 24 + x < t * 24 + j + n
  · obtain rfl : u = t := by omega
    rw [if_pos q, if_pos q, show s * 24 + i + (u * 24 + x - (u * 24 + j)) = s * 24 + (i + (x - j)) by omega, ← hb]
    exact (h s hs).2.2.2.2 _ (by omega)
  · rw [if_neg q, if_neg q]
    exact p5 x hx
/-- what the numbers to be moved must be -/
def mvc (L M : Int32) (i j n : Int32) : Prop := ¬ n < 0 ∧ ¬ i < 0 ∧ ¬ j < 0 ∧ ¬ L - i < n ∧ ¬ M - j < n
theorem mv_le {L : Nat} (hL : L ≤ 24) {i n : Int32} (h1 : ¬ n < 0) (h2 : ¬ i < 0) (h3 : ¬ nI L - i < n) : ∃ a b : Nat, i = nI a ∧ n = nI b ∧ a + b ≤ L := by
  obtain ⟨a, ha, rfl⟩ := nI_of h2
  obtain ⟨b, hb, rfl⟩ := nI_of h1
  have e : (nI L - nI a).toInt = (L : Int) - a := by
    rw [Int32.toInt_sub, nI_toInt (by omega), nI_toInt ha, bm (by omega) (by omega)]
  have h4 : ¬ (nI L - nI a).toInt < (nI b).toInt := fun q => h3 (Int32.lt_iff_toInt_lt.mpr q)
  rw [e, nI_toInt hb] at h4
  exact ⟨a, b, rfl, rfl, by omega⟩
