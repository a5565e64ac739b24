/-! text: bytes with a sign and without; both sides together -/
theorem byt_m : ∀ y : Fin 256, (Int32.ofInt ((y.val : Int) - 128) < 0 → 128 ≤ Int32.ofInt ((y.val : Int) - 128) &&& 255) ∧ (0 ≤ Int32.ofInt ((y.val : Int) - 128) → Int32.ofInt ((y.val : Int) - 128) &&& 255 = Int32.ofInt ((y.val : Int) - 128)) := by decide +kernel
theorem byt_c {c : Int32} (h : fits .byte (.int c) = true) : (c < 0 → 128 ≤ c &&& 255) ∧ (0 ≤ c → c &&& 255 = c) := by
  have h : (decide (-128 ≤ c) && decide (c ≤ 127)) = true := h
  rw [Bool.and_eq_true, decide_eq_true_eq, decide_eq_true_eq] at h
  have a : -128 ≤ c.toInt := Int32.le_iff_toInt_le.mp h.1
  have b : c.toInt ≤ 127 := Int32.le_iff_toInt_le.mp h.2
  have e : Int32.ofInt ((((c.toInt + 128).toNat : Nat) : Int) - 128) = c := by
    rw [show (((c.toInt + 128).toNat : Nat) : Int) - 128 = c.toInt by omega, Int32.ofInt_toInt]
  have := byt_m ⟨(c.toInt + 128).toNat, by omega⟩
  rw [e] at this
  exact this
theorem xs_bad {use u : Int32} (h : u < 0 ∨ 128 ≤ u) (st : XS) : xstep use u st = none := by
  have ne : ∀ k : Int32, 0 ≤ k → k < 128 → ¬ u = k := fun k h0 h1 e => by
    subst e
    rcases h with q | q
    · exact absurd h0 (Int32.not_le.mpr q)
    · exact absurd h1 (Int32.not_lt.mpr q)
  have nd : ¬ (48 ≤ u ∧ u ≤ 57) := fun z => by
    rcases h with q | q
    · exact absurd (Int32.lt_of_le_of_lt z.1 q) (by decide)
    · exact absurd (Int32.le_trans q z.2) (by decide)
  obtain ⟨H, d, w, D⟩ := st
  cases w with
  | true =>
    show xbeg use u H d D = none
    unfold xbeg
    rw [if_neg (fun z => z.elim (ne 33 (by decide) (by decide)) (ne 40 (by decide) (by decide))), if_neg nd, if_pos]
    rcases Decidable.em (nameI use u < 0) with q | q
    · exact q
    · rcases (nam_in q).1 with z | z | z | z | z
      · exact absurd z (ne 97 (by decide) (by decide))
      · exact absurd z (ne 109 (by decide) (by decide))
      · exact absurd z (ne 111 (by decide) (by decide))
      · exact absurd z (ne 115 (by decide) (by decide))
      · exact absurd z (ne 119 (by decide) (by decide))
  | false =>
    show xcon u H d D = none
    refine xcon_no (fun z => absurd z nd) (ne 41 (by decide) (by decide)) (Or.inl ?_)
    rcases Nat.eq_zero_or_pos (rk u) with q | q
    · exact q
    · rcases rk_in q with z | z | z | z | z | z | z | z | z | z | z
      · exact absurd z (ne 33 (by decide) (by decide))
      · exact absurd z (ne 37 (by decide) (by decide))
      · exact absurd z (ne 38 (by decide) (by decide))
      · exact absurd z (ne 42 (by decide) (by decide))
      · exact absurd z (ne 43 (by decide) (by decide))
      · exact absurd z (ne 45 (by decide) (by decide))
      · exact absurd z (ne 47 (by decide) (by decide))
      · exact absurd z (ne 60 (by decide) (by decide))
      · exact absurd z (ne 61 (by decide) (by decide))
      · exact absurd z (ne 62 (by decide) (by decide))
      · exact absurd z (ne 124 (by decide) (by decide))
theorem xs_mask {use c : Int32} (h : fits .byte (.int c) = true) (st : XS) : xstep use (c &&& 255) st = xstep use c st := by
  obtain ⟨a, b⟩ := byt_c h
  by_cases q : c < 0
  · rw [xs_bad (Or.inr (a q)), xs_bad (Or.inl q)]
  · rw [b (Int32.not_lt.mp q)]
theorem xr_mask {use : Int32} {c : Nat → Int32} : ∀ (k i : Nat) (st : XS), (∀ j, j < i + k → fits .byte (.int (c j)) = true) → xr use (fun j => c j &&& 255) k i st = xr use c k i st
  | 0, _, _, _ => rfl
  | k + 1, i, st, h => by
    show (match xstep use (c i &&& 255) st with | none => (i, st) | some st' => xr use (fun j => c j &&& 255) k (i + 1) st') = (match xstep use (c i) st with | none => (i, st) | some st' => xr use c k (i + 1) st')
    rw [xs_mask (h i (by omega))]
    cases xstep use (c i) st with
    | none => rfl
    | some st' => exact xr_mask k (i + 1) st' (fun j hj => h j (by omega))
theorem hd_LSt {f : Nat → Int32} : ∀ {D : LI}, LSt f D → hd f D.length = hdL D
  | [], _ => rfl
  | s :: D, h => by
    show (if f D.length < -3 then (if f D.length = -33 then hd f D.length else hd f D.length - 1) else hd f D.length + 1) = (if s < -3 then (if s = -33 then hdL D else hdL D - 1) else hdL D + 1)
    rw [h.1, hd_LSt h.2]
theorem ok_LSt {f : Nat → Int32} : ∀ {D : LI}, LSt f D → okL D → ∀ n, n < D.length → f n < -3 → (f n = -33 ∧ 1 ≤ hd f n) ∨ (¬ f n = -33 ∧ isSg (-(f n)) ∧ 2 ≤ hd f n)
  | [], _, _, n, h => absurd h (Nat.not_lt_zero n)
  | s :: D, h, o, n, hn => by
    have hn : n < D.length + 1 := hn
    by_cases e : n = D.length
    · subst e
      rw [h.1, hd_LSt h.2]
      exact o.1
    · exact ok_LSt h.2 o.2 n (by omega)
theorem okp_LSt {f : Nat → Int32} {D : LI} (h : LSt f D) (o : okL D) (h1 : hdL D = 1) (hl : D.length ≤ 60) : okp f D.length := by
  refine ⟨?_, hl, (hd_LSt h).trans h1, ok_LSt h o⟩
  match D, h1 with
  | [], h1 => cases h1
  | s :: D, _ => show 1 ≤ D.length + 1; omega
theorem LSt.ag {f g : Nat → Int32} : ∀ {D : LI}, (∀ i, i < D.length → g i = f i) → LSt f D → LSt g D
  | [], _, _ => trivial
  | s :: D, h, w => ⟨(h D.length (Nat.lt_succ_self _)).trans w.1, LSt.ag (fun i hi => h i (Nat.lt_succ_of_lt hi)) w.2⟩
theorem enc_LSt {f g h : Nat → Int32} : ∀ {D : LI}, LSt f D → LE2 g h D → ∀ i, i < D.length → enc (f i) (g i) (h i)
  | [], _, _, i, hi => absurd hi (Nat.not_lt_zero i)
  | s :: D, a, b, i, hi => by
    have hi : i < D.length + 1 := hi
    by_cases e : i = D.length
    · subst e
      rw [a.1]; exact b.1
    · exact enc_LSt a.2 b.2 i (by omega)
theorem m_copy {A L : Nat} (hA : A ≤ 265) (hL : L ≤ 60) : ∀ (fu k : Nat) (σ : Mem), L - k < fu → k ≤ L → σ 53 11 = nI L → (∀ i, i < k → σ 54 (A + 1 + i) = σ 60 i ∧ σ 54 (A + 61 + i) = σ 61 i) → ∃ σ', f_X8_text_53_L119 fu (nI A) (nI k) σ = some (1, σ') ∧ (∀ q, ¬ q = 54 → σ' q = σ q) ∧ (∀ i, i < L → σ' 54 (A + 1 + i) = σ 60 i ∧ σ' 54 (A + 61 + i) = σ 61 i) ∧ ∀ x, ¬ (A + 1 ≤ x ∧ x ≤ A + 120) → σ' 54 x = σ 54 x := by
  intro fu
  induction fu with
  | zero => intro k σ h; omega
  | succ fu ih =>
    intro k σ h hk h11 hi
    show ∃ σ', fb_X8_text_53_L119 (f_X8_text_53_L119 fu) (nI A) (nI k) σ = some (1, σ') ∧ _
    rw [fb_X8_text_53_L119, nm_mk, h11]
    by_cases q : L ≤ k
    · have e : k = L := by omega
      subst e
      rw [if_pos (nI_le q (by omega))]
      exact ⟨σ, rfl, fun _ _ => rfl, hi, fun _ _ => rfl⟩
    · rw [if_neg (nI_ge (by omega) (by omega)), nm_mk, nI_1, nm_mk, nI_add, gin (by omega), nm_mk, cln (by omega), gin (by omega), nm_mk, cln (by omega), nm_mk, i_a61, nm_mk, nI_add, gin (by omega), nm_mk, mset_ne (k' := 61) (by decide), gin (by omega), nm_mk, cln (by omega), nm_mk, nI_1]
      obtain ⟨σ', e1, a, b, d⟩ := ih (k + 1) (mset (mset σ 54 (A + 1 + k) (σ 60 k)) 54 (A + 61 + k) (σ 61 k)) (by omega) (by omega) (by rw [mset_ne (by decide), mset_ne (by decide)]; exact h11) (fun i hik => by
        rw [mset_ne (k' := 60) (by decide), mset_ne (k' := 60) (by decide), mset_ne (k' := 61) (by decide), mset_ne (k' := 61) (by decide), mset_eq, mset_eq]
        by_cases e : i = k
        · subst e
          exact ⟨by rw [upd_no (by omega), upd_at], upd_at _ _ _⟩
        · rw [upd_no (by omega), upd_no (by omega), upd_no (by omega), upd_no (by omega)]
          exact hi i (by omega))
      refine ⟨σ', e1, fun q hq => by rw [a q hq, mset_ne hq, mset_ne hq], fun i hil => ?_, fun x hx => ?_⟩
      · obtain ⟨b1, b2⟩ := b i hil
        rw [mset_ne (by decide), mset_ne (by decide)] at b1 b2
        exact ⟨b1, b2⟩
      · rw [d x hx, mset_eq, mset_eq, upd_no (by omega), upd_no (by omega)]
/-- all but what a reading uses as it was -/
def Fx (τ τ' : Mem) : Prop := (∀ k, ¬ k = 53 → ¬ k = 54 → ¬ k = 60 → ¬ k = 61 → τ' k = τ k) ∧ τ' 53 2 = τ 53 2 ∧ τ' 53 17 = τ 53 17
theorem m_text {e : Ev} (he : e.2.2 ≤ 60) {u : Nat} (hu : u ≤ 1) (eu : e.1 = nI u) {τ : Mem} (h9 : τ 54 9 = nI e.2.2) (hb : ∀ j, j < e.2.2 → τ 54 (60 + j) = e.2.1 j) : (xfin e.2.2 (mrun e 0 ([], 0, true, [])) = none ∧ (mrun e 0 ([], 0, true, [])).1 ≤ e.2.2 ∧ ∃ τ', f_X8_text_53 e.1 τ = some (-10 - nI (mrun e 0 ([], 0, true, [])).1, τ') ∧ Fx τ τ' ∧ τ' 54 = upd (τ 54) 9 0) ∨ ∃ D : LI, xfin e.2.2 (mrun e 0 ([], 0, true, [])) = some D ∧ hdL D = 1 ∧ okL D ∧ D.length ≤ 60 ∧ ∃ τ' g h, f_X8_text_53 e.1 τ = some (1, τ') ∧ Fx τ τ' ∧ LE2 g h D ∧ τ' 54 (144 + 121 * u) = nI D.length ∧ (∀ i, i < D.length → τ' 54 (144 + 121 * u + 1 + i) = g i ∧ τ' 54 (144 + 121 * u + 61 + i) = h i) ∧ ∀ x, ¬ (144 + 121 * u ≤ x ∧ x ≤ 144 + 121 * u + 120) → τ' 54 x = upd (τ 54) 9 0 x := by
  have hp : 0 ≤ e.1 ∧ e.1 ≤ 1 := by rw [eu]; exact ⟨nI_pos' (by omega), nI_le (b := 1) hu (by omega)⟩
  have k53 : ∀ q, ¬ q = 53 → mset (mset (mset (mset (mset τ 53 15 e.1) 53 11 0) 53 12 0) 53 13 0) 53 14 0 q = τ q := fun q hq => by rw [mset_ne hq, mset_ne hq, mset_ne hq, mset_ne hq, mset_ne hq]
  have k2 : ∀ j, ¬ j = 11 → ¬ j = 12 → ¬ j = 13 → ¬ j = 14 → ¬ j = 15 → mset (mset (mset (mset (mset τ 53 15 e.1) 53 11 0) 53 12 0) 53 13 0) 53 14 0 53 j = τ 53 j := fun j h1 h2 h3 h4 h5 => by rw [mset_eq, upd_no h4, mset_eq, upd_no h3, mset_eq, upd_no h2, mset_eq, upd_no h1, mset_eq, upd_no h5]
  have rs : RS e (mset (mset (mset (mset (mset τ 53 15 e.1) 53 11 0) 53 12 0) 53 13 0) 53 14 0) 0 0 [] := by
    refine ⟨⟨by rw [k53 54 (by decide)]; exact h9, fun j hj => by rw [k53 54 (by decide)]; exact hb j hj, ?_⟩, ?_, ?_, mset_at, ?_, trivial⟩
    · rw [mset_eq, upd_no (by decide), mset_eq, upd_no (by decide), mset_eq, upd_no (by decide), mset_eq, upd_no (by decide), mset_at]
    · rw [mset_eq, upd_no (by decide), mset_eq, upd_no (by decide), mset_at]; rfl
    · rw [mset_eq, upd_no (by decide), mset_at]; rfl
    · rw [mset_eq, upd_no (by decide), mset_eq, upd_no (by decide), mset_eq, upd_no (by decide), mset_at]; rfl
  obtain ⟨σ1, e1, f1, p1⟩ := m_reads he rs
  have r9 : σ1 54 9 = nI e.2.2 := by rw [f1.1 54 (by decide) (by decide) (by decide), k53 54 (by decide)]; exact h9
  have r54 : σ1 54 = τ 54 := by rw [f1.1 54 (by decide) (by decide) (by decide), k53 54 (by decide)]
  have fk : ∀ q, ¬ q = 53 → ¬ q = 60 → ¬ q = 61 → σ1 q = τ q := fun q h1 h2 h3 => by rw [f1.1 q h1 h2 h3, k53 q h1]
  have fj : ∀ j, ¬ j = 11 → ¬ j = 12 → ¬ j = 13 → ¬ j = 14 → ¬ j = 15 → σ1 53 j = τ 53 j := fun j h1 h2 h3 h4 h5 => by rw [f1.2 j h1 h2 h3 h4, k2 j h1 h2 h3 h4 h5]
  rw [f_X8_text_53, in_eq, if_pos hp, bd_mk, if_neg (by decide), nm_mk, nm_mk, nm_mk, nm_mk, gb_0, nm_mk, e1, bd_mk, nm_mk]
  rcases p1 with ⟨x1, x2, x3, x4⟩ | ⟨D, x1, x2, x3, x4, x5, x6, x7, x8⟩
  · refine Or.inl ⟨x1, x2, mset (mset σ1 53 14 1) 54 9 0, ?_, ⟨fun q h1 h2 h3 h4 => by rw [mset_ne h2, mset_ne h1]; exact fk q h1 h3 h4, ?_, ?_⟩, ?_⟩
    · have tl : (nm (mset (mset σ1 53 14 1) 54 9 0 53 14) fun v13 => if v13 = 0 then (nm (121 * e.1) fun (v14 : Int32) => nm (144 + v14) fun (v15 : Int32) => nm (mset (mset σ1 53 14 1) 54 9 0 53 11) fun (v16 : Int32) => gi v15 386 <| nm (mset (mset (mset σ1 53 14 1) 54 9 0) 54 v15.toNatClampNeg v16) fun (μ17 : Mem) => f_X8_text_53_L119 1000 v15 0 μ17) else (nm (mset (mset σ1 53 14 1) 54 9 0 53 12) fun (v28 : Int32) => nm ((-10) - v28) fun (v29 : Int32) => some (v29, mset (mset σ1 53 14 1) 54 9 0))) = some (-10 - nI (mrun e 0 ([], 0, true, [])).1, mset (mset σ1 53 14 1) 54 9 0) := by
        rw [nm_mk, mset_ne (k' := 53) (by decide), mset_at, if_neg (by decide), nm_mk, mset_eq, upd_no (by decide), x3, nm_mk]
      rcases x4 with z | ⟨z, z2⟩
      · rw [z, if_neg (by decide), gb_1, nm_mk, g9_386, nm_mk, c_9]
        exact tl
      · rw [z, if_pos rfl, nm_mk, g9_386, nm_mk, c_9, r9, x3, if_neg (nI_ge z2 (by omega)), gb_1, nm_mk, g9_386, nm_mk]
        exact tl
    · rw [mset_ne (by decide), mset_eq, upd_no (by decide)]; exact fj 2 (by decide) (by decide) (by decide) (by decide) (by decide)
    · rw [mset_ne (by decide), mset_eq, upd_no (by decide)]; exact fj 17 (by decide) (by decide) (by decide) (by decide) (by decide)
    · rw [mset_eq, mset_ne (by decide), r54]
  · have hA : (144 : Int32) + 121 * e.1 = nI (144 + 121 * u) := by
      rw [eu, show (121 : Int32) * nI u = nI (121 * u) from mulI 121 u]
      exact nI_add 144 _
    have d14 : mset σ1 53 14 0 = σ1 := mset_self x3
    obtain ⟨σ2, e2, a, b, d⟩ := m_copy (A := 144 + 121 * u) (L := D.length) (by omega) (by omega) 1000 0 (mset (mset σ1 54 9 0) 54 (144 + 121 * u) (nI D.length)) (by omega) (by omega) (by rw [mset_ne (by decide), mset_ne (by decide)]; exact x4) (fun i hi => absurd hi (Nat.not_lt_zero i))
    rw [mset_ne (k' := 60) (by decide), mset_ne (k' := 60) (by decide), mset_ne (k' := 61) (by decide), mset_ne (k' := 61) (by decide)] at b
    refine Or.inr ⟨D, x1, x6, x7, by omega, σ2, σ1 60, σ1 61, ?_, ⟨fun q h1 h2 h3 h4 => by rw [a q h2, mset_ne h2, mset_ne h2]; exact fk q h1 h3 h4, ?_, ?_⟩, x5, ?_, b, fun x hx => ?_⟩
    · rw [x3, if_pos rfl, nm_mk, g9_386, nm_mk, c_9, r9, x2, if_pos (Int32.le_refl _), gb_0, nm_mk, d14, g9_386, nm_mk, nm_mk, mset_ne (k' := 53) (by decide), x3, if_pos rfl, nm_mk, hA, nm_mk, nm_mk, x4, gin (by omega), nm_mk, cln (by omega)]
      exact e2
    · rw [a 53 (by decide), mset_ne (by decide), mset_ne (by decide)]; exact fj 2 (by decide) (by decide) (by decide) (by decide) (by decide)
    · rw [a 53 (by decide), mset_ne (by decide), mset_ne (by decide)]; exact fj 17 (by decide) (by decide) (by decide) (by decide) (by decide)
    · rw [d _ (by omega), mset_at]
    · rw [d x (by omega), mset_eq, upd_no (by omega), mset_eq, r54]
