/-! the call text -/
theorem Rel.chg2 {c : Nat} {σ τ : Mem} (w : Rel c σ) (hk : ∀ k, (k = 0 ∨ 21 ≤ k) → ¬ (41 ≤ k ∧ k ≤ 46) → ¬ k = 53 → ¬ k = 54 → ¬ (60 ≤ k ∧ k ≤ 63) → τ k = σ k) (h2 : τ 53 2 = σ 53 2) (h17 : τ 53 17 = σ 53 17) (hw : WF τ) (hm : RM (τ 54) τ) : Rel (c + 1) τ := by
  obtain ⟨a, b, ⟨n, hn, i1, i2, i3⟩, e, s, t⟩ := w
  have q : ∀ k, decide ((k = 0 ∨ 21 ≤ k) ∧ ¬ (41 ≤ k ∧ k ≤ 46) ∧ ¬ k = 53 ∧ ¬ k = 54 ∧ ¬ (60 ≤ k ∧ k ≤ 63)) = true → τ k = σ k := fun k hk' => by
    obtain ⟨a, b, c, d, e⟩ := of_decide_eq_true hk'
    exact hk k a b c d e
  have sk : Sc (KP τ) (KP σ) := fun k h1 h2 h3 h4 => hk (k + 20) (by omega) (by omega) (by omega) (by omega) (by omega)
  refine ⟨hw, hm, ⟨n, by omega, ?_, ?_, ?_⟩, ?_, ?_, ?_⟩
  · rw [q 0 rfl]; exact i1
  · rw [h2]; exact i2
  · rcases i3 with i3 | ⟨i3, i4⟩
    · exact Or.inl i3
    · exact Or.inr ⟨i3.ext sk, by rw [q 55 rfl]; exact i4.ext sk⟩
  · rw [q 52 rfl, q 56 rfl]; exact e
  · unfold SR at *
    simp only [q 47 rfl, q 48 rfl, q 49 rfl, q 57 rfl, q 58 rfl, q 59 rfl]
    exact s
  · unfold TR at *
    simp only [q 50 rfl, q 51 rfl, h17, q 64 rfl]
    exact t
theorem tk5_13_42 (σ : Mem) (hb : σ 42 3 = 0 ∨ σ 42 3 = 1) : ∃ σ', f_X5_takes_13_42 σ = some (0, σ') ∧ (∀ k, ¬ k = 13 → ¬ k = 14 → σ' k = σ k) ∧ σ' 13 2 = σ 42 2 ∧ σ' 13 3 = σ 42 3 ∧ ∀ i, i < 60 → σ' 14 i = σ 43 i := by
  refine ⟨mset (mset (mrow σ 14 (va_cpy (σ 43) (σ 14) 0 0 60)) 13 2 (σ 42 2)) 13 3 (σ 42 3), ?_, fun k h1 h2 => ?_, ?_, mset_at, fun i hi => ?_⟩
  · rw [f_X5_takes_13_42, gt_of (ok_60 _), nm_mk, nm_mk, nm_mk, nm_mk, mset_ne (k' := 42) (by decide), mrow_ne (k' := 42) (by decide), gb_of hb, nm_mk]
    rfl
  · rw [mset_ne h1, mset_ne h1, mrow_ne h2]
  · rw [mset_eq, upd_no (by decide), mset_at]
  · rw [mset_ne (by decide), mset_ne (by decide), mrow_eq]
    exact cpy_lt hi
theorem tk5_16_42 (σ : Mem) (hb : σ 42 3 = 0 ∨ σ 42 3 = 1) : ∃ σ', f_X5_takes_16_42 σ = some (0, σ') ∧ (∀ k, ¬ k = 16 → ¬ k = 17 → σ' k = σ k) ∧ σ' 16 2 = σ 42 2 ∧ σ' 16 3 = σ 42 3 ∧ ∀ i, i < 60 → σ' 17 i = σ 43 i := by
  refine ⟨mset (mset (mrow σ 17 (va_cpy (σ 43) (σ 17) 0 0 60)) 16 2 (σ 42 2)) 16 3 (σ 42 3), ?_, fun k h1 h2 => ?_, ?_, mset_at, fun i hi => ?_⟩
  · rw [f_X5_takes_16_42, gt_of (ok_60 _), nm_mk, nm_mk, nm_mk, nm_mk, mset_ne (k' := 42) (by decide), mrow_ne (k' := 42) (by decide), gb_of hb, nm_mk]
    rfl
  · rw [mset_ne h1, mset_ne h1, mrow_ne h2]
  · rw [mset_eq, upd_no (by decide), mset_at]
  · rw [mset_ne (by decide), mset_ne (by decide), mrow_eq]
    exact cpy_lt hi
theorem tx_new {τ : Mem} {o s : Nat} {D : LI} (h3 : τ o 3 = 1) (h2 : τ o 2 = nI D.length) (hl : LSt (τ s) D) (h1 : hdL D = 1) (ok : okL D) (hL : D.length ≤ 60) : TX τ o s := Or.inr ⟨h3, D.length, h2, okp_LSt hl ok h1 hL⟩
theorem mt_new {τ : Mem} {o s A : Nat} {D : LI} {g h : Nat → Int32} (h3 : τ o 3 = 1) (h2 : τ o 2 = nI D.length) (hl : LSt (τ s) D) (h1 : hdL D = 1) (ok : okL D) (hL : D.length ≤ 60) (le : LE2 g h D) (ha : τ 54 A = nI D.length) (hi : ∀ i, i < D.length → τ 54 (A + 1 + i) = g i ∧ τ 54 (A + 61 + i) = h i) : MT (τ 54) A τ o s := Or.inr ⟨h3, D.length, h2, okp_LSt hl ok h1 hL, ha, fun i hil => by rw [(hi i hil).1, (hi i hil).2]; exact enc_LSt hl le i hil⟩
theorem call_text {c : Nat} {σ : Mem} (w : Rel c σ) (a0 : Int32) : Call c (fun σ => f_X7_text_0 a0 σ) (fun σ => f_X8_text_53 a0 σ) σ := by
  by_cases hp : 0 ≤ a0 ∧ a0 ≤ 1
  · obtain ⟨n, hn, h5⟩ := w.1.2.2.2.2.1.1
    have h9 : σ 54 9 = nI n := w.2.1.r9.trans h5
    have hf := w.1.2.2.2.2.2.1
    obtain ⟨u, hu1, rfl⟩ := nI_of2 (M := 1) (n := 1) (by decide) (Int32.not_lt.mpr hp.1) hp.2
    have hu : nI u = 0 ∨ nI u = 1 := by
      match u, hu1 with
      | 0, _ => exact Or.inl rfl
      | 1, _ => exact Or.inr rfl
    obtain ⟨σa, ea, fa, f42, hD⟩ := x_fault hu hn σ
    have ym : mrun (nI u, (fun j => σ 19 j &&& 255), n) 0 ([], 0, true, []) = xr (nI u) (σ 19) n 0 ([], 0, true, []) := xr_mask n 0 _ (fun j hj => hf j (by omega))
    have mt := fun (τ : Mem) (ht : τ 54 = σ 54) => m_text (e := (nI u, (fun j => σ 19 j &&& 255), n)) hn hu1 rfl (τ := τ) (by rw [ht]; exact h9) (fun j hj => by rw [ht]; exact w.2.1.tp j (Nat.lt_of_lt_of_le hj hn))
    rw [ym] at mt
    have cx : f_X7_text_0 (nI u) σ = (if xans n (xr (nI u) (σ 19) n 0 ([], 0, true, [])) < 0 then (if nI u = 0 then (bd (f_X5_takes_13_42 (mset σa 1 5 0)) fun _ μ => some (1, μ)) else (bd (f_X5_takes_16_42 (mset σa 1 5 0)) fun _ μ => some (1, μ))) else some (-10 - xans n (xr (nI u) (σ 19) n 0 ([], 0, true, [])), mset σa 1 5 0)) := by
      rw [f_X7_text_0, x_isUse, if_pos hp, bd_mk, if_neg (by decide), nm_mk, h5, ea, bd_mk, nm_mk, nm_mk]
    have s1 : ∀ k, k ≤ 40 → mset σa 1 5 0 k = mset σ 1 5 0 k := fun k hk => by
      by_cases q : k = 1
      · subst q
        rw [mset_eq, mset_eq, fa 1 (by decide) (by decide) (by decide) (by decide)]
      · rw [mset_ne q, mset_ne q, fa k (by omega) (by omega) (by omega) (by omega)]
    have wS : WF (mset σ 1 5 0) := WF.set w.1 (Or.inl ⟨rfl, by decide⟩) (fun _ => ⟨0, Nat.zero_le _, rfl⟩)
    have mS : RM (upd (σ 54) 9 0) (mset σ 1 5 0) := RM.set w.2.1 (k := 1) (j := 5) (a := 9) (by unfold AD; omega) 0
    generalize xr (nI u) (σ 19) n 0 ([], 0, true, []) = y at *
    cases hx : xfin n y with
    | none =>
      have h54 : mset σa 1 5 0 54 = σ 54 := by rw [mset_ne (by decide), fa 54 (by decide) (by decide) (by decide) (by decide)]
      rcases mt (mset σa 1 5 0) h54 with ⟨x1, x2, τ, e2, fx, e54⟩ | ⟨D, x1, _⟩
      · have x2 : y.1 ≤ n := x2
        have sc : Sc τ (mset σ 1 5 0) := fun k k1 k2 _ _ => by rw [fx.1 k (by omega) (by omega) (by omega) (by omega)]; exact s1 k (by omega)
        refine ⟨-10 - nI y.1, mset σa 1 5 0, ?_, fun k k1 k2 k3 => ?_, τ, e2, Rel.chg2 w (fun k k1 k2 k3 k4 k5 => ?_) ?_ ?_ (wS.ext sc) ?_⟩
        · show f_X7_text_0 (nI u) σ = _
          rw [cx, xans_no hx, if_neg (nI_pos (by omega))]
        · rw [mset_ne (by omega), fa k (by omega) (by omega) (by omega) (by omega)]
        · rw [fx.1 k (by omega) (by omega) (by omega) (by omega), mset_ne (by omega), fa k (by omega) (by omega) (by omega) (by omega)]
        · rw [fx.2.1, mset_ne (by omega), fa 53 (by omega) (by omega) (by omega) (by omega)]
        · rw [fx.2.2, mset_ne (by omega), fa 53 (by omega) (by omega) (by omega) (by omega)]
        · rw [e54, h54]; exact mS.ext sc
      · have x1 : xfin n y = some D := x1
        rw [hx] at x1; cases x1
    | some D =>
      obtain ⟨hd2, hd43⟩ := hD D hx
      have ea2 : mset σa 1 5 0 42 2 = nI D.length := by rw [mset_ne (by decide)]; exact hd2
      have ea3 : mset σa 1 5 0 42 3 = 1 := by rw [mset_ne (by decide)]; exact f42
      have ea43 : mset σa 1 5 0 43 = σa 43 := mset_ne (by decide)
      rcases (show u = 0 ∨ u = 1 by omega) with eu | eu
      · subst eu
        obtain ⟨σ1, e1, k1, a2, a3, a14⟩ := tk5_13_42 (mset σa 1 5 0) (Or.inr ea3)
        have h54 : σ1 54 = σ 54 := by rw [k1 54 (by decide) (by decide), mset_ne (by decide), fa 54 (by decide) (by decide) (by decide) (by decide)]
        rcases mt σ1 h54 with ⟨x1, _⟩ | ⟨D', x1, x6, x7, x8, τ, g, h, e2, fx, le, b1, b2, b3⟩
        · have x1 : xfin n y = none := x1
          rw [hx] at x1; cases x1
        · have x1 : xfin n y = some D' := x1
          rw [hx] at x1
          cases x1
          have t13 : τ 13 = σ1 13 := fx.1 13 (by decide) (by decide) (by decide) (by decide)
          have t14 : τ 14 = σ1 14 := fx.1 14 (by decide) (by decide) (by decide) (by decide)
          have l14 : LSt (τ 14) D := by
            rw [t14]
            exact hd43.ag (fun i hi => by rw [a14 i (by omega), ea43])
          have c3 : τ 13 3 = 1 := by rw [t13, a3]; exact ea3
          have c2 : τ 13 2 = nI D.length := by rw [t13, a2]; exact ea2
          have kk : ∀ k, k ≤ 40 → ¬ k = 13 → ¬ k = 14 → τ k = mset σ 1 5 0 k := fun k q1 q2 q3 => by rw [fx.1 k (by omega) (by omega) (by omega) (by omega), k1 k q2 q3]; exact s1 k q1
          refine ⟨1, σ1, ?_, fun k q1 q2 q3 => ?_, τ, e2, Rel.chg2 w (fun k q1 q2 q3 q4 q5 => ?_) ?_ ?_ (wS.tx (fun k hk => kk k (by omega) (by omega) (by omega)) (tx_new c3 c2 l14 x6 x7 x8) (wS.t16.ext (kk 16 (by decide) (by decide) (by decide)) (kk 17 (by decide) (by decide) (by decide)))) (mS.tx (fun k hk => kk k (by omega) (by omega) (by omega)) (fun x hx => ?_) (mt_new c3 c2 l14 x6 x7 x8 le b1 b2) (mS.t1.ext2 (fun x q1 q2 => ?_) (kk 16 (by decide) (by decide) (by decide)) (kk 17 (by decide) (by decide) (by decide))))⟩
          · show f_X7_text_0 (nI 0) σ = _
            rw [cx, xans_so hx, if_pos (by decide), if_pos (show nI 0 = 0 from rfl), e1, bd_mk]
          · rw [k1 k (by omega) (by omega), mset_ne (by omega), fa k (by omega) (by omega) (by omega) (by omega)]
          · rw [fx.1 k (by omega) (by omega) (by omega) (by omega), k1 k (by omega) (by omega), mset_ne (by omega), fa k (by omega) (by omega) (by omega) (by omega)]
          · rw [fx.2.1, k1 53 (by decide) (by decide), mset_ne (by omega), fa 53 (by omega) (by omega) (by omega) (by omega)]
          · rw [fx.2.2, k1 53 (by decide) (by decide), mset_ne (by omega), fa 53 (by omega) (by omega) (by omega) (by omega)]
          · rw [b3 x (by omega), h54]
          · rw [b3 x (by omega), h54]
      · subst eu
        obtain ⟨σ1, e1, k1, a2, a3, a14⟩ := tk5_16_42 (mset σa 1 5 0) (Or.inr ea3)
        have h54 : σ1 54 = σ 54 := by rw [k1 54 (by decide) (by decide), mset_ne (by decide), fa 54 (by decide) (by decide) (by decide) (by decide)]
        rcases mt σ1 h54 with ⟨x1, _⟩ | ⟨D', x1, x6, x7, x8, τ, g, h, e2, fx, le, b1, b2, b3⟩
        · have x1 : xfin n y = none := x1
          rw [hx] at x1; cases x1
        · have x1 : xfin n y = some D' := x1
          rw [hx] at x1
          cases x1
          have t13 : τ 16 = σ1 16 := fx.1 16 (by decide) (by decide) (by decide) (by decide)
          have t14 : τ 17 = σ1 17 := fx.1 17 (by decide) (by decide) (by decide) (by decide)
          have l14 : LSt (τ 17) D := by
            rw [t14]
            exact hd43.ag (fun i hi => by rw [a14 i (by omega), ea43])
          have c3 : τ 16 3 = 1 := by rw [t13, a3]; exact ea3
          have c2 : τ 16 2 = nI D.length := by rw [t13, a2]; exact ea2
          have kk : ∀ k, k ≤ 40 → ¬ k = 16 → ¬ k = 17 → τ k = mset σ 1 5 0 k := fun k q1 q2 q3 => by rw [fx.1 k (by omega) (by omega) (by omega) (by omega), k1 k q2 q3]; exact s1 k q1
          refine ⟨1, σ1, ?_, fun k q1 q2 q3 => ?_, τ, e2, Rel.chg2 w (fun k q1 q2 q3 q4 q5 => ?_) ?_ ?_ (wS.tx (fun k hk => kk k (by omega) (by omega) (by omega)) (wS.t13.ext (kk 13 (by decide) (by decide) (by decide)) (kk 14 (by decide) (by decide) (by decide))) (tx_new c3 c2 l14 x6 x7 x8)) (mS.tx (fun k hk => kk k (by omega) (by omega) (by omega)) (fun x hx => ?_) (mS.t0.ext2 (fun x q1 q2 => ?_) (kk 13 (by decide) (by decide) (by decide)) (kk 14 (by decide) (by decide) (by decide))) (mt_new c3 c2 l14 x6 x7 x8 le b1 b2))⟩
          · show f_X7_text_0 (nI 1) σ = _
            rw [cx, xans_so hx, if_pos (by decide), if_neg (show ¬ nI 1 = 0 by decide), e1, bd_mk]
          · rw [k1 k (by omega) (by omega), mset_ne (by omega), fa k (by omega) (by omega) (by omega) (by omega)]
          · rw [fx.1 k (by omega) (by omega) (by omega) (by omega), k1 k (by omega) (by omega), mset_ne (by omega), fa k (by omega) (by omega) (by omega) (by omega)]
          · rw [fx.2.1, k1 53 (by decide) (by decide), mset_ne (by omega), fa 53 (by omega) (by omega) (by omega) (by omega)]
          · rw [fx.2.2, k1 53 (by decide) (by decide), mset_ne (by omega), fa 53 (by omega) (by omega) (by omega) (by omega)]
          · rw [b3 x (by omega), h54]
          · rw [b3 x (by omega), h54]
  · refine Call_of (Call_e1 w) ?_ (fun τ _ => ?_)
    · show f_X7_text_0 a0 σ = _
      rw [f_X7_text_0, x_isUse, if_neg hp, bd_mk, if_pos rfl, bd_et]
    · show f_X8_text_53 a0 τ = _
      rw [f_X8_text_53, in_eq, if_neg hp, bd_mk, if_pos rfl, bd_et]
