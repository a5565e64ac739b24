/-! tell, check, untell, feed -/
theorem call_tell {c : Nat} {σ : Mem} (w : Rel c σ) (a0 : Int32) : Call c (fun σ => f_X7_tell_0 a0 σ) (fun σ => f_X8_tell_53 a0 σ) σ := by
  obtain ⟨n, hn, e⟩ := w.1.2.2.2.2.1.2
  have h10 : σ 54 10 = nI n := w.2.1.r10.trans e
  by_cases h : n < 24
  · have A1 : AD 20 n (120 + n) := by unfold AD; omega
    have A2 : AD 1 7 10 := by unfold AD; omega
    refine Call_chg w (r := nI (n + 1)) (σ1 := mset (mset σ 20 n a0) 1 7 (nI (n + 1))) (ρ := upd (upd (σ 54) (120 + n) a0) 10 (nI (n + 1))) ?_ (fun q hq => by rw [mset_ne (by omega), mset_ne (by omega)]) (WF.set (WF.set w.1 (by omega) (fun q => absurd rfl q.1)) (by omega) (fun _ => ⟨n + 1, by show n + 1 ≤ 24; omega, rfl⟩)) ((w.2.1.set A1 a0).set A2 _) ?_
    · show f_X7_tell_0 a0 σ = _
      rw [f_X7_tell_0, nm_mk, e, if_pos (show nI n < 24 from (nI_ltI (b := 24) (by omega) (by omega)).mpr h), nm_mk, gin (by omega), nm_mk, cln (by omega), nm_mk, mset_ne (k' := 1) (by decide), e, nm_mk, nI_1, nm_mk, nm_mk, mset_at]
    · show f_X8_tell_53 a0 _ = _
      have e54 : mset (mset σ 20 n a0) 1 7 (nI (n + 1)) 54 = σ 54 := by rw [mset_ne (by decide), mset_ne (by decide)]
      rw [f_X8_tell_53, g10_386, nm_mk, c_10, e54, h10, if_neg (fun q => by have := (nI_eq (b := 24) (by omega) (by omega)).mp q; omega), g10_386, nm_mk, nm_mk, i_120, gin (by omega), nm_mk, cln (by omega), g10_386, nm_mk, mset_row _ (120 + n) _, e54, mrow_eq, upd_no (by omega), h10, nm_mk, nI_1, g10_386, nm_mk, mrow_set, g10_386, nm_mk, mrow_eq, upd_at]
  · obtain rfl : n = 24 := by omega
    refine Call_of (Call_e4 w) ?_ (fun τ ht => ?_)
    · show f_X7_tell_0 a0 σ = _
      rw [f_X7_tell_0, nm_mk, e, if_neg (by decide), bd_et]
    · show f_X8_tell_53 a0 τ = _
      rw [f_X8_tell_53, g10_386, nm_mk, c_10, ht.r, h10, if_pos (show nI 24 = 24 from rfl), bd_et]
theorem m_isR' {S : Mem} (w : WF S) {τ : Mem} (h : RM (τ 54) S) (a : Int32) : f_X8_isRunner_53 a τ = some (if 0 ≤ a ∧ a < S 7 5 then 1 else 0, τ) := by
  obtain ⟨n, hn, e⟩ := w.1.2
  rw [m_isRunner, h.r8, e]
  simp only [lt_pred (show n < 2147483648 by omega)]
theorem check_l {S : Mem} (w : WF S) {n : Nat} (hn : n ≤ 24) (fu : Nat) : ∀ (i : Nat), i ≤ n → n - i < fu → ∃ v, f_X7_check_0_L18 fu (nI n) (nI i) S = some (v, S) ∧ ∀ τ, RM (τ 54) S → f_X8_check_53_L18 fu (nI n) (nI i) τ = some (v, τ) := by
  obtain ⟨nr, hr, h75⟩ := w.1.2
  induction fu with
  | zero => intro i h1 h2; omega
  | succ fu ih =>
    intro i h1 h2
    show ∃ v, fb_X7_check_0_L18 (f_X7_check_0_L18 fu) (nI n) (nI i) S = some (v, S) ∧ ∀ τ, RM (τ 54) S → fb_X8_check_53_L18 (f_X8_check_53_L18 fu) (nI n) (nI i) τ = some (v, τ)
    by_cases hi : i = n
    · subst hi
      exact ⟨0, by rw [fb_X7_check_0_L18, if_pos (Int32.le_refl _)], fun τ _ => by rw [fb_X8_check_53_L18, if_pos (Int32.le_refl _)]⟩
    · have q : ¬ nI n ≤ nI i := fun q => absurd ((nI_leI (by omega) (by omega)).mp q) (by omega)
      by_cases hir : i < nr
      · have q2 : ¬ nI nr ≤ nI i := fun q => absurd ((nI_leI (by omega) (by omega)).mp q) (by omega)
        have q3 : (0 : Int32) ≤ nI i ∧ nI i < S 7 5 := ⟨nI_pos' (by omega), by rw [h75]; exact nI_lt hir (by omega)⟩
        by_cases he : S 20 i = S 10 i
        · obtain ⟨v, e1, e2⟩ := ih (i + 1) (by omega) (by omega)
          refine ⟨v, ?_, fun τ h => ?_⟩
          · rw [fb_X7_check_0_L18, if_neg q, nm_mk, h75, if_neg q2, gin (by omega), nm_mk, gin (by omega), nm_mk, cln (by omega), if_pos he, nm_mk, nI_1]
            exact e1
          · rw [fb_X8_check_53_L18, if_neg q, m_isR' w h, bd_mk, ifz, if_pos q3, nm_mk, i_120, gin (by omega), nm_mk, cln (by omega), h.wt i (by omega), m_ab2 h (by omega), bd_mk, if_pos he, nm_mk, nI_1]
            exact e2 τ h
        · refine ⟨1 + nI i, ?_, fun τ h => ?_⟩
          · rw [fb_X7_check_0_L18, if_neg q, nm_mk, h75, if_neg q2, gin (by omega), nm_mk, gin (by omega), nm_mk, cln (by omega), if_neg he, nm_mk]
          · rw [fb_X8_check_53_L18, if_neg q, m_isR' w h, bd_mk, ifz, if_pos q3, nm_mk, i_120, gin (by omega), nm_mk, cln (by omega), h.wt i (by omega), m_ab2 h (by omega), bd_mk, if_neg he, nm_mk]
      · have q2 : nI nr ≤ nI i := (nI_leI (by omega) (by omega)).mpr (by omega)
        refine ⟨1 + nI i, ?_, fun τ h => ?_⟩
        · rw [fb_X7_check_0_L18, if_neg q, nm_mk, h75, if_pos q2, nm_mk]
        · rw [fb_X8_check_53_L18, if_neg q, m_isR' w h, bd_mk, ifz, if_neg (fun q => absurd q.2 (by rw [h75]; exact Int32.not_lt.mpr q2)), nm_mk]
theorem call_check {c : Nat} {σ : Mem} (w : Rel c σ) : Call c (fun σ => f_X7_check_0 σ) (fun σ => f_X8_check_53 σ) σ := by
  obtain ⟨n, hn, e⟩ := w.1.2.2.2.2.1.2
  have h10 : σ 54 10 = nI n := w.2.1.r10.trans e
  have A2 : AD 1 7 10 := by unfold AD; omega
  have wA := WF.set w.1 (k := 1) (j := 7) (v := 0) (by omega) (fun _ => ⟨0, by omega, rfl⟩)
  have mA := w.2.1.set A2 0
  obtain ⟨v, e1, e2⟩ := check_l wA hn 1000 0 (by omega) (by omega)
  have e54 : mset σ 1 7 0 54 = σ 54 := mset_ne (by decide)
  refine Call_chg w (r := v) (σ1 := mset σ 1 7 0) (ρ := upd (σ 54) 10 0) ?_ (fun q hq => by rw [mset_ne (by omega)]) wA mA ?_
  · show f_X7_check_0 σ = _
    rw [f_X7_check_0, nm_mk, e, nm_mk]
    exact e1
  · show f_X8_check_53 _ = _
    rw [f_X8_check_53, g10_386, nm_mk, c_10, g10_386, nm_mk, e54, h10, mset_row, e54]
    exact e2 _ (by rw [mrow_eq]; exact mA)
/-- one TEXT alone has changed -/
theorem WF.tx {S S' : Mem} (w : WF S) (hk : ∀ k, (1 ≤ k ∧ k ≤ 12) ∨ k = 19 → S' k = S k) (h0 : TX S' 13 14) (h1 : TX S' 16 17) : WF S' := by
  obtain ⟨a, b, d, e, f, g, _, _⟩ := w
  unfold WF
  rw [hk 1 (by omega), hk 2 (by omega), hk 3 (by omega), hk 4 (by omega), hk 5 (by omega), hk 6 (by omega), hk 7 (by omega), hk 8 (by omega), hk 9 (by omega), hk 10 (by omega), hk 11 (by omega), hk 12 (by omega), hk 19 (by omega)]
  exact ⟨a, b, d, e, f, g, h0, h1⟩
theorem RM.tx {ρ ρ' : Nat → Int32} {S S' : Mem} (m : RM ρ S) (hk : ∀ k, (1 ≤ k ∧ k ≤ 12) ∨ k = 19 ∨ k = 20 → S' k = S k) (hr : ∀ x, x < 144 → ρ' x = ρ x) (h0 : MT ρ' 144 S' 13 14) (h1 : MT ρ' 265 S' 16 17) : RM ρ' S' := by
  obtain ⟨a, b, d, e, f, g, _, _⟩ := m
  unfold RM
  rw [hk 1 (by omega), hk 2 (by omega), hk 3 (by omega), hk 4 (by omega), hk 5 (by omega), hk 6 (by omega), hk 7 (by omega), hk 8 (by omega), hk 9 (by omega), hk 10 (by omega), hk 11 (by omega), hk 12 (by omega), hk 19 (by omega), hk 20 (by omega), hr 0 (by omega), hr 1 (by omega), hr 2 (by omega), hr 3 (by omega), hr 4 (by omega), hr 5 (by omega), hr 6 (by omega), hr 7 (by omega), hr 8 (by omega), hr 9 (by omega), hr 10 (by omega)]
  refine ⟨a, b, fun i hi => ?_, fun i hi => ?_, fun i hi => ?_, fun i hi => ?_, h0, h1⟩
  · rw [hr _ (by omega), hr _ (by omega), hr _ (by omega), hr _ (by omega)]; exact d i hi
  · rw [hr _ (by omega), hr _ (by omega), hr _ (by omega), hr _ (by omega), hr _ (by omega)]; exact e i hi
  · rw [hr _ (by omega)]; exact f i hi
  · rw [hr _ (by omega)]; exact g i hi
theorem TX.ext {S S' : Mem} {o s : Nat} (h : TX S o s) (ho : S' o = S o) (hs : S' s = S s) : TX S' o s := by
  unfold TX
  rw [ho, hs]
  exact h
theorem MT.ext2 {ρ ρ' : Nat → Int32} {a : Nat} {S S' : Mem} {o s : Nat} (h : MT ρ a S o s) (hr : ∀ x, a ≤ x → x ≤ a + 120 → ρ' x = ρ x) (ho : S' o = S o) (hs : S' s = S s) : MT ρ' a S' o s := by
  unfold MT at *
  rw [ho, hs, hr a (by omega) (by omega)]
  rcases h with h | ⟨h1, L, h2, h3, h4, h5⟩
  · exact Or.inl h
  · have := h3.2.1
    exact Or.inr ⟨h1, L, h2, h3, h4, fun i hi => by rw [hr _ (by omega) (by omega), hr _ (by omega) (by omega)]; exact h5 i hi⟩
theorem MT.le0 {ρ : Nat → Int32} {a : Nat} {S : Mem} {o s : Nat} (h : MT ρ a S o s) : (ρ a ≤ 0) = (S o 3 = 0) := by
  apply propext
  rcases h with ⟨h1, h2⟩ | ⟨h1, L, h2, h3, h4, h5⟩
  · rw [h1, h2]
    exact ⟨fun _ => rfl, fun _ => Int32.le_refl _⟩
  · rw [h1, h4]
    exact ⟨fun q => absurd q (ltpos h3.1 h3.2.1), fun q => absurd q n01⟩
theorem cut01n {a : Int32} (h : 0 ≤ a ∧ a ≤ 1) : a = nI 0 ∨ a = nI 1 := cut01 h
theorem call_untell {c : Nat} {σ : Mem} (w : Rel c σ) (a0 : Int32) : Call c (fun σ => f_X7_untell_0 a0 σ) (fun σ => f_X8_untell_53 a0 σ) σ := by
  unfold f_X7_untell_0 f_X8_untell_53
  refine guard w (x_isUse a0 σ) (fun τ _ => in_eq a0 0 1 τ) (fun hp => ?_)
  rcases cut01n hp with rfl | rfl
  · have e54 : mset σ 13 3 0 54 = σ 54 := mset_ne (by decide)
    have A : (144 + 121 * nI 0 : Int32) = nI 144 := rfl
    refine Call_chg w (r := if σ 13 3 = 0 then 0 else 1) (σ1 := mset σ 13 3 0) (ρ := upd (σ 54) 144 0) ?_ (fun q hq => by rw [mset_ne (by omega)]) (w.1.tx (fun k hk => mset_ne (by omega)) (Or.inl mset_at) (w.1.t16.ext (mset_ne (by decide)) (mset_ne (by decide)))) (w.2.1.tx (fun k hk => mset_ne (by omega)) (fun x hx => upd_no (by omega)) (Or.inl ⟨mset_at, upd_at _ _ _⟩) (w.2.1.t1.ext2 (fun x hx _ => upd_no (by omega)) (mset_ne (by decide)) (mset_ne (by decide)))) ?_
    · show ite _ _ _ = _
      rw [if_pos (show nI 0 = 0 from rfl), nm_mk]
      by_cases h : σ 13 3 = 0
      · rw [if_pos h, if_pos h, gb_0, nm_mk]
      · rw [if_neg h, if_neg h, gb_0, nm_mk]
    · show nm _ _ = _
      rw [nm_mk, nm_mk, A, m_become (by omega), bd_mk, ite_some, e54, mset_row, e54]
      simp only [w.2.1.t0.le0]
  · have e54 : mset σ 16 3 0 54 = σ 54 := mset_ne (by decide)
    have A : (144 + 121 * nI 1 : Int32) = nI 265 := rfl
    refine Call_chg w (r := if σ 16 3 = 0 then 0 else 1) (σ1 := mset σ 16 3 0) (ρ := upd (σ 54) 265 0) ?_ (fun q hq => by rw [mset_ne (by omega)]) (w.1.tx (fun k hk => mset_ne (by omega)) (w.1.t13.ext (mset_ne (by decide)) (mset_ne (by decide))) (Or.inl mset_at)) (w.2.1.tx (fun k hk => mset_ne (by omega)) (fun x hx => upd_no (by omega)) (w.2.1.t0.ext2 (fun x hx _ => upd_no (by omega)) (mset_ne (by decide)) (mset_ne (by decide))) (Or.inl ⟨mset_at, upd_at _ _ _⟩)) ?_
    · show ite _ _ _ = _
      rw [if_neg (by decide), nm_mk]
      by_cases h : σ 16 3 = 0
      · rw [if_pos h, if_pos h, gb_0, nm_mk]
      · rw [if_neg h, if_neg h, gb_0, nm_mk]
    · show nm _ _ = _
      rw [nm_mk, nm_mk, A, m_become (by omega), bd_mk, ite_some, e54, mset_row, e54]
      simp only [w.2.1.t1.le0]
