/-! a NUMBER, a NAME, signs between -/
theorem RS.at {e : Ev} {σ : Mem} {i o : Nat} {D : LI} (h : RS e σ i o D) (i' : Nat) : RS e (mset σ 53 12 (nI i')) i' o D := by
  obtain ⟨h1, h2, h3, h4, h5, h6⟩ := h
  refine ⟨h1.fm ((Fm.rf σ).set (by omega)), mset_at, ?_, ?_, ?_, ?_⟩
  · rw [mset_eq, upd_no (by decide)]; exact h3
  · rw [mset_eq, upd_no (by decide)]; exact h4
  · rw [mset_eq, upd_no (by decide)]; exact h5
  · rw [mset_ne (by decide), mset_ne (by decide)]; exact h6
theorem RS.op {e : Ev} {σ : Mem} {i o : Nat} {D : LI} (h : RS e σ i o D) (o' : Nat) : RS e (mset σ 53 13 (nI o')) i o' D := by
  obtain ⟨h1, h2, h3, h4, h5, h6⟩ := h
  refine ⟨h1.fm ((Fm.rf σ).set (by omega)), ?_, mset_at, ?_, ?_, ?_⟩
  · rw [mset_eq, upd_no (by decide)]; exact h2
  · rw [mset_eq, upd_no (by decide)]; exact h4
  · rw [mset_eq, upd_no (by decide)]; exact h5
  · rw [mset_ne (by decide), mset_ne (by decide)]; exact h6
theorem dig {c : Int32} (h : 48 ≤ c ∧ c ≤ 57) : ∃ y : Nat, 48 ≤ y ∧ y ≤ 57 ∧ c = nI y := by
  obtain ⟨j, hj, e⟩ := nI_of2 (x := c) (M := 57) (n := 57) rfl (Int32.not_lt.mpr (Int32.le_trans (by decide) h.1)) h.2
  refine ⟨j, ?_, hj, e⟩
  rw [e] at h
  exact (nI_leI (a := 48) (by omega) (by omega)).mp h.1
theorem nlt3 {x : Nat} (h : x < 2147483648) : ¬ nI x < -3 := fun q => nI_pos h (Int32.lt_trans q (by decide))
theorem enc_n {x : Nat} (h : x < 2147483648) : enc (nI x) 1 (nI x) := ⟨fun _ q => absurd q (nI_pos h), fun _ => ⟨rfl, rfl⟩, fun q => absurd q (nlt3 h), fun q => absurd q (nlt3 h)⟩
theorem enc_s {u : Int32} (h : -u < -3) (h2 : ¬ -u = -33) : enc (-u) u 0 := ⟨fun q => absurd h q, fun q => absurd (Int32.lt_trans h (by decide)) q, fun _ q => absurd q h2, fun _ _ => (Int32.neg_neg).symm⟩
theorem xcon_dig {u : Int32} {H : LI} {k x y : Nat} {D : LI} (hu : u = nI y) (h1 : 48 ≤ y) (h2 : y ≤ 57) (k1 : 1 ≤ k) (k4 : k < 4) : xcon u H k (nI x :: D) = some (H, k + 1, false, nI (10 * x + y - 48) :: D) := by
  subst hu
  unfold xcon
  rw [if_pos (show 48 ≤ nI y ∧ nI y ≤ 57 from ⟨nI_le (a := 48) h1 (by omega), nI_le (b := 57) h2 (by omega)⟩), if_neg (by omega)]
  show some (H, k + 1, false, (nI x * 10 + (nI y - 48)) :: D) = _
  rw [show nI x * 10 = nI (x * 10) from mulI x 10, show nI y - 48 = nI (y - 48) from nI_sub (b := 48) h1, nI_add, show x * 10 + (y - 48) = 10 * x + y - 48 by omega]
theorem m_numS {e : Ev} {σ : Mem} {j o k x : Nat} {D : LI} (hs : RS e σ j o D) (hD : D.length < 60) (k1 : 1 ≤ k) (k4 : k ≤ 4) (hx : x < 2147483648) : ∃ σ', f_X8_number_53_L52 (nI x) (nI k) σ = some (0, σ') ∧ Fm σ σ' ∧ RS e σ' j o (nI x :: D) := by
  obtain ⟨σ', e1, r1, f1⟩ := hs.lay hD (enc_n hx)
  exact ⟨σ', by rw [f_X8_number_53_L52, if_neg (nI_ne0 (by omega) (by omega)), gb_0, nm_mk, mset_self hs.2.2.2.1, e1, bd_mk], f1, r1⟩
theorem pw4 {k : Nat} (h : k ≤ 4) : 10 ^ k ≤ 10000 := Nat.le_trans (Nat.pow_le_pow_right (by omega) h) (by decide)
theorem m_numL {e : Ev} (he : e.2.2 ≤ 60) {H D : LI} {o : Nat} (hD : D.length < 60) : ∀ (fu k x j : Nat) (σ : Mem), 4 - k < fu → 1 ≤ k → k ≤ 4 → x < 10 ^ k → RS e σ j o D → j ≤ e.2.2 → ∃ (k' x' j' : Nat) (σ' : Mem), f_X8_number_53_L4 fu (nI x) (nI k) σ = some (0, σ') ∧ Fm σ σ' ∧ RS e σ' j' o (nI x' :: D) ∧ j ≤ j' ∧ j' ≤ e.2.2 ∧ mrun e j (H, k, false, nI x :: D) = mrun e j' (H, k', false, nI x' :: D) ∧ x' < 2147483648 ∧ (j' < e.2.2 → 48 ≤ e.2.1 j' ∧ e.2.1 j' ≤ 57 → k' < 1 ∨ 4 ≤ k') := by
  intro fu
  induction fu with
  | zero => intro k x j σ h; omega
  | succ fu ih =>
    intro k x j σ h k1 k4 hx hs hj
    have p4 := pw4 k4
    show ∃ (k' x' j' : Nat) (σ' : Mem), fb_X8_number_53_L4 (f_X8_number_53_L4 fu) (nI x) (nI k) σ = some (0, σ') ∧ _
    rw [fb_X8_number_53_L4]
    by_cases q4 : 4 ≤ k
    · obtain ⟨σ', e1, f1, r1⟩ := m_numS hs hD k1 k4 (x := x) (by omega)
      rw [if_pos (show 4 ≤ nI k from nI_le (a := 4) q4 (by omega))]
      exact ⟨k, x, j, σ', e1, f1, r1, Nat.le_refl _, hj, rfl, by omega, fun _ _ => Or.inr q4⟩
    rw [if_neg (show ¬ 4 ≤ nI k from nI_ge (b := 4) (by omega) (by omega)), m_look he hs.1 hs.2.1 hj, bd_mk, in_eq, bd_mk, ifz]
    by_cases q : 48 ≤ lk e j ∧ lk e j ≤ 57
    · have hjn : j < e.2.2 := by
        rcases Nat.lt_or_ge j e.2.2 with h | h
        · exact h
        · rw [show lk e j = -1 from if_neg (by omega)] at q
          exact absurd q (by decide)
      have el : lk e j = e.2.1 j := if_pos hjn
      obtain ⟨y, y1, y2, ey⟩ := dig q
      rw [if_pos q, nm_mk, m_look he hs.1 hs.2.1 hj, bd_mk, nm_mk, nm_mk, nm_mk, hs.2.1, nm_mk, nI_1, nm_mk, nm_mk, nI_1, ey, show (10 : Int32) * nI x = nI (10 * x) from mulI 10 x, nI_add, show nI (10 * x + y) - 48 = nI (10 * x + y - 48) from nI_sub (b := 48) (by omega)]
      have pk : 10 ^ (k + 1) = 10 ^ k * 10 := Nat.pow_succ ..
      have p5 := pw4 (k := k + 1) (by omega)
      obtain ⟨k', x', j', σ', e1, f1, r1, b1, b2, b3, b4, b5⟩ := ih (k + 1) (10 * x + y - 48) (j + 1) _ (by omega) (by omega) (by omega) (by omega) (hs.at (j + 1)) hjn
      refine ⟨k', x', j', σ', e1, ((Fm.rf σ).set (by omega)).tr f1, r1, by omega, b2, ?_, b4, b5⟩
      rw [← b3]
      exact mrun_some hjn (xcon_dig (el.symm.trans ey) y1 y2 k1 (show k < 4 by omega))
    · obtain ⟨σ', e1, f1, r1⟩ := m_numS hs hD k1 k4 (x := x) (by omega)
      rw [if_neg q]
      refine ⟨k, x, j, σ', e1, f1, r1, Nat.le_refl _, hj, rfl, by omega, fun hjn qq => absurd ?_ q⟩
      rw [show lk e j = e.2.1 j from if_pos hjn]; exact qq
theorem m_number {e : Ev} (he : e.2.2 ≤ 60) {H : LI} {d : Nat} {D : LI} {i : Nat} {σ : Mem} (hs : RS e σ i (opn H) D) (hl : H.length + D.length ≤ i) (hi : i ≤ e.2.2) (hno : i < e.2.2 → nameI e.1 (e.2.1 i) < 0 ∧ ¬ e.2.1 i = 33 ∧ ¬ e.2.1 i = 40) : ∃ σ', f_X8_number_53 σ = some (0, σ') ∧ Fm σ σ' ∧ (Pb e (mrun e i (H, d, true, D)) σ' ∨ Pg e 6 6 i (mrun e i (H, d, true, D)) H D σ') := by
  show ∃ σ', fb_X8_number_53_L4 (f_X8_number_53_L4 999) 0 0 σ = some (0, σ') ∧ _
  rw [fb_X8_number_53_L4, if_neg (by decide), m_look he hs.1 hs.2.1 hi, bd_mk, in_eq, bd_mk, ifz]
  by_cases q : 48 ≤ lk e i ∧ lk e i ≤ 57
  · have hin : i < e.2.2 := by
      rcases Nat.lt_or_ge i e.2.2 with h | h
      · exact h
      · rw [show lk e i = -1 from if_neg (by omega)] at q
        exact absurd q (by decide)
    have el : lk e i = e.2.1 i := if_pos hin
    obtain ⟨y, y1, y2, ey⟩ := dig q
    rw [if_pos q, nm_mk, m_look he hs.1 hs.2.1 hi, bd_mk, nm_mk, nm_mk, nm_mk, hs.2.1, nm_mk, nI_1, nm_mk, nm_mk, ey, show (10 : Int32) * 0 = nI 0 from rfl, nI_add, show nI (0 + y) - 48 = nI (0 + y - 48) from nI_sub (b := 48) (by omega), show (0 : Int32) + 1 = nI 1 from rfl]
    obtain ⟨k', x', j', σ', e1, f1, r1, b1, b2, b3, b4, b5⟩ := m_numL (H := H) he (by omega) 999 1 (0 + y - 48) (i + 1) _ (by omega) (by omega) (by omega) (by omega) (hs.at (i + 1)) hin
    refine ⟨σ', e1, ((Fm.rf σ).set (by omega)).tr f1, Or.inr ⟨j', [], k', nI x' :: D, by omega, b2, r1, ?_, (fun p hp => absurd hp (List.not_mem_nil)), NX6 b5, GD.push D (nlt3 b4), ?_⟩⟩
    · refine (mrun_some hin ?_).trans b3
      show xbeg e.1 (e.2.1 i) H d D = _
      unfold xbeg
      rw [if_neg (fun w => w.elim (hno hin).2.1 (hno hin).2.2), ← el, if_pos q, ey, show nI y - 48 = nI (y - 48) from nI_sub (b := 48) y1, show 0 + y - 48 = y - 48 by omega]
    · show H.length + (D.length + 1) ≤ j'
      omega
  · rw [if_neg q, f_X8_number_53_L52, if_pos rfl, gb_1, nm_mk]
    have fm : Fm σ (mset σ 53 14 1) := (Fm.rf σ).set (by omega)
    have ey : mrun e i (H, d, true, D) = (i, H, d, true, D) := by
      refine mrun_none (fun hin => ?_)
      show xbeg e.1 (e.2.1 i) H d D = _
      unfold xbeg
      rw [if_neg (fun w => w.elim (hno hin).2.1 (hno hin).2.2), if_neg (fun w => q (by rw [show lk e i = e.2.1 i from if_pos hin]; exact w)), if_pos (hno hin).1]
    have pb : Pb e (mrun e i (H, d, true, D)) (mset σ 53 14 1) := by
      rw [ey]
      refine ⟨hs.1.fm fm, hi, ?_, mset_at, ⟨D.length, by omega, ?_⟩, ?_⟩
      · rw [mset_eq, upd_no (by decide)]; exact hs.2.1
      · rw [mset_eq, upd_no (by decide)]; exact hs.2.2.2.2.1
      · unfold xfin
        by_cases h : i < e.2.2
        · rw [if_pos h]
        · rw [if_neg h, if_pos (Or.inl rfl)]
    obtain ⟨σ', e1, f1, p1⟩ := pb.lay 1 0
    exact ⟨σ', by rw [e1, bd_mk], fm.tr f1, Or.inl p1⟩
theorem nam_in {use u : Int32} (h : ¬ nameI use u < 0) : (u = 97 ∨ u = 109 ∨ u = 111 ∨ u = 115 ∨ u = 119) ∧ (nameI use u = 0 ∨ nameI use u = 1 ∨ nameI use u = 2) := by
  unfold nameI at h ⊢
  by_cases a : u = 97
  · rw [if_pos a] at h ⊢
    refine ⟨Or.inl a, ?_⟩
    by_cases b : use = 0
    · rw [if_pos b]; exact Or.inl rfl
    · rw [if_neg b] at h; exact absurd (by decide) h
  rw [if_neg a] at h ⊢
  by_cases a2 : u = 109
  · rw [if_pos a2] at h ⊢
    refine ⟨Or.inr (Or.inl a2), ?_⟩
    by_cases b : use = 1
    · rw [if_pos b]; exact Or.inr (Or.inl rfl)
    · rw [if_neg b] at h; exact absurd (by decide) h
  rw [if_neg a2] at h ⊢
  by_cases a3 : u = 111
  · rw [if_pos a3]
    exact ⟨Or.inr (Or.inr (Or.inl a3)), Or.inr (Or.inr rfl)⟩
  rw [if_neg a3] at h ⊢
  by_cases a4 : u = 115
  · rw [if_pos a4] at h ⊢
    refine ⟨Or.inr (Or.inr (Or.inr (Or.inl a4))), ?_⟩
    by_cases b : use = 1
    · rw [if_pos b]; exact Or.inl rfl
    · rw [if_neg b] at h; exact absurd (by decide) h
  rw [if_neg a4] at h ⊢
  by_cases a5 : u = 119
  · rw [if_pos a5] at h ⊢
    refine ⟨Or.inr (Or.inr (Or.inr (Or.inr a5))), ?_⟩
    by_cases b : use = 0
    · rw [if_pos b]; exact Or.inr (Or.inl rfl)
    · rw [if_neg b] at h; exact absurd (by decide) h
  rw [if_neg a5] at h
  exact absurd (by decide) h
theorem nam_x {use u : Int32} (h : ¬ nameI use u < 0) : ¬ (u = 33 ∨ u = 40) ∧ ¬ (48 ≤ u ∧ u ≤ 57) := by
  rcases (nam_in h).1 with q | q | q | q | q <;> subst q <;> exact ⟨by decide, by decide⟩
theorem enc_nm {s : Int32} (h : s = 0 ∨ s = 1 ∨ s = 2) : enc (-1 - s) 2 s ∧ ¬ (-1 - s) < -3 := by
  rcases h with q | q | q <;> subst q <;> exact ⟨⟨fun _ _ => ⟨rfl, by decide⟩, fun w => absurd (by decide) w, fun w => absurd w (by decide), fun w => absurd w (by decide)⟩, by decide⟩
theorem m_one {e : Ev} (he : e.2.2 ≤ 60) {m : Nat} {rc : Int32 → Mem → Res} (hr : SO e m rc) : SP e 6 7 m (f_X8_one_53 rc) := by
  intro H d D i σ hs ht hm ho hl hi
  rw [f_X8_one_53, m_look he hs.1 hs.2.1 hi, bd_mk, m_name, bd_mk, hs.1.2.2]
  by_cases hin : i < e.2.2
  · rw [show lk e i = e.2.1 i from if_pos hin]
    by_cases hn : nameI e.1 (e.2.1 i) < 0
    · rw [if_pos hn]
      by_cases h33 : e.2.1 i = 33
      · obtain ⟨σ', e1, f1, p1⟩ := hr (e.2.1 i) H d D i σ (Or.inl h33) hin rfl hs hm ho hl
        exact ⟨σ', by rw [if_pos h33, e1, bd_mk], f1, p1⟩
      by_cases h40 : e.2.1 i = 40
      · obtain ⟨σ', e1, f1, p1⟩ := hr (e.2.1 i) H d D i σ (Or.inr h40) hin rfl hs hm ho hl
        exact ⟨σ', by rw [if_neg h33, if_pos h40, e1, bd_mk], f1, p1⟩
      · obtain ⟨σ', e1, f1, p1⟩ := m_number (d := d) he hs hl hi (fun _ => ⟨hn, h33, h40⟩)
        exact ⟨σ', by rw [if_neg h33, if_neg h40, e1, bd_mk], f1, p1⟩
    · obtain ⟨nx1, nx2⟩ := nam_x hn
      obtain ⟨en, ng⟩ := enc_nm (nam_in hn).2
      obtain ⟨σ', e1, r1, f1⟩ := (hs.at (i + 1)).lay (by omega) en
      refine ⟨σ', by rw [if_neg hn, nm_mk, hs.2.1, nm_mk, nI_1, nm_mk, e1, bd_mk], ((Fm.rf σ).set (by omega)).tr f1, Or.inr ⟨i + 1, [], 0, (-1 - nameI e.1 (e.2.1 i)) :: D, by omega, hin, r1, ?_, (fun p hp => absurd hp (List.not_mem_nil)), NX6 (fun _ _ => Or.inl (by omega)), GD.push D ng, ?_⟩⟩
      · refine mrun_some hin ?_
        show xbeg e.1 (e.2.1 i) H d D = _
        unfold xbeg
        rw [if_neg nx1, if_neg nx2, if_neg hn]; rfl
      · show H.length + (D.length + 1) ≤ i + 1
        omega
  · have hnn : nameI e.1 (-1) < 0 := by
      rcases Decidable.em (nameI e.1 (-1) < 0) with h | h
      · exact h
      · have := (nam_in h).1
        exact absurd this (by decide)
    obtain ⟨σ', e1, f1, p1⟩ := m_number (d := d) he hs hl hi (fun h => absurd h hin)
    rw [show lk e i = -1 from if_neg hin, if_pos hnn, if_neg (by decide), if_neg (by decide)]
    exact ⟨σ', by rw [e1, bd_mk], f1, p1⟩
