/-! signs between values, ! and ( -/
def Pt (e : Ev) (r i : Nat) (y : Nat × XS) (u : Int32) (H D : LI) (σ : Mem) : Prop := ∃ (j : Nat) (P : LI) (d : Nat) (Dm : LI), i ≤ j ∧ j ≤ e.2.2 ∧ RS e σ j (opn H) (-u :: push P Dm) ∧ y = mrun e j (P ++ u :: H, d, false, Dm) ∧ (∀ p ∈ P, r + 1 ≤ rk p) ∧ NX e (r + 1) j (P ++ u :: H, d, false, Dm) ∧ GD D (-u :: push P Dm) ∧ H.length + (push P Dm).length + 1 ≤ j
theorem app1 (P : LI) (u : Int32) (H : LI) : (P ++ [u]) ++ H = P ++ u :: H := by rw [List.append_assoc]; rfl
theorem all1 {P : LI} {u : Int32} {r : Nat} (h : ∀ p ∈ P, r ≤ rk p) (hu : r ≤ rk u) : ∀ p ∈ P ++ [u], r ≤ rk p := by
  intro p hp
  rcases List.mem_append.mp hp with q | q
  · exact h p q
  · rw [List.mem_singleton.mp q]; exact hu
theorem Pt.pg {e : Ev} {r i : Nat} {y : Nat × XS} {u : Int32} {H D : LI} {σ : Mem} (hu : rk u = r) (h : Pt e r i y u H D σ) : Pg e r (r + 1) i y H D σ := by
  obtain ⟨j, P, d, Dm, a1, a2, a3, a4, a5, a6, a7, a8⟩ := h
  refine ⟨j, P ++ [u], d, Dm, a1, a2, ?_, ?_, all1 (fun p hp => by have := a5 p hp; omega) (by omega), ?_, ?_, ?_⟩
  · rw [push_app]; exact a3
  · rw [app1]; exact a4
  · rw [app1]; exact a6
  · rw [push_app]; exact a7
  · rw [push_app]
    show H.length + ((push P Dm).length + 1) ≤ j
    omega
theorem Pg.lo {e : Ev} {rp rp' rn i i' : Nat} {y : Nat × XS} {H D : LI} {σ : Mem} (hi : i' ≤ i) (hr : rp' ≤ rp) (h : Pg e rp rn i y H D σ) : Pg e rp' rn i' y H D σ := by
  obtain ⟨j, P, d, Dm, a1, a2, a3, a4, a5, a6, a7, a8⟩ := h
  exact ⟨j, P, d, Dm, by omega, a2, a3, a4, fun p hp => by have := a5 p hp; omega, a6, a7, a8⟩
theorem m_turn {e : Ev} (he : e.2.2 ≤ 60) {r t m j : Nat} {F : Mem → Res} (hF : SP e (r + 1) t m F) {H P D0 : LI} {d : Nat} {Dm : LI} {σ : Mem} {y : Nat × XS} (hr : rk (e.2.1 j) = r) (h1 : 1 ≤ r) (h5 : r ≤ 5) (hrt : r < t) (htop : top H < r) (hm : m ≤ opn H) (ho : opn H ≤ 5) (hj : j < e.2.2) (hs : RS e σ j (opn H) (push P Dm)) (hy : y = mrun e j (P ++ H, d, false, Dm)) (hP : ∀ p ∈ P, (if r = 3 then 4 else r) ≤ rk p) (hg : GD D0 (push P Dm)) (hl : H.length + (push P Dm).length ≤ j) : ∃ σ3, (∀ K : Mem → Res, bd (F (mset σ 53 12 (nI (j + 1)))) (fun _ μ => bd (f_X8_lays_53 (e.2.1 j) 0 μ) fun _ μ' => K μ') = K σ3) ∧ Fm σ σ3 ∧ (Pb e y σ3 ∨ Pt e r (j + 1) y (e.2.1 j) H D0 σ3) := by
  have n6 : ¬ rk (e.2.1 j) = 6 := by omega
  obtain ⟨_, n33, n40, n41, ndig, nlt, nm33, _⟩ := rk_sg (by omega) n6
  have step : xstep e.1 (e.2.1 j) (P ++ H, d, false, Dm) = some (e.2.1 j :: H, 0, true, push P Dm) := by
    show xcon (e.2.1 j) (P ++ H) d Dm = _
    unfold xcon
    rw [if_neg ndig, if_neg n41, if_neg (by omega), hr]
    by_cases r3 : r = 3
    · rw [if_pos r3] at hP
      rw [if_pos r3, settle_app hP (by omega), if_neg (by show ¬ (r = 3 ∧ top H = 3); omega)]
    · rw [if_neg r3] at hP
      rw [if_neg r3, if_neg (fun q => r3 q.1), settle_app hP htop]
  have hy2 := hy.trans (mrun_some hj step)
  have ou : opn (e.2.1 j :: H) = opn H := by rw [opn, if_neg (fun q => q.elim n33 n40)]
  obtain ⟨σ1, e1, f1, h1⟩ := hF (e.2.1 j :: H) 0 (push P Dm) (j + 1) (mset σ 53 12 (nI (j + 1))) (by rw [ou]; exact hs.at _) (by show rk (e.2.1 j) < t; omega) (by omega) (by omega) (by show H.length + 1 + (push P Dm).length ≤ j + 1; omega) (by omega)
  have f0 : Fm σ (mset σ 53 12 (nI (j + 1))) := (Fm.rf σ).set (by omega)
  rcases h1 with hb | ⟨j2, P2, d2, Dm2, a1, a2, a3, a4, a5, a6, a7, a8⟩
  · rw [← hy2] at hb
    obtain ⟨σ3, e3, f3, hb3⟩ := hb.lay (e.2.1 j) 0
    exact ⟨σ3, fun K => by rw [e1, bd_mk, e3, bd_mk], (f0.tr f1).tr f3, Or.inl hb3⟩
  · rw [ou] at a3
    rw [← hy2] at a4
    have a8 : H.length + 1 + (push P2 Dm2).length ≤ j2 := a8
    obtain ⟨σ3, e3, r3, f3⟩ := a3.lay (by omega) (enc_s nlt nm33)
    exact ⟨σ3, fun K => by rw [e1, bd_mk, e3, bd_mk], (f0.tr f1).tr f3, Or.inr ⟨j2, P2, d2, Dm2, a1, a2, r3, a4, a5, a6, hg.two a7 (by omega) n6, by omega⟩⟩
def BD (e : Ev) (r : Nat) (F : Mem → Res) (B : (Mem → Res) → Mem → Res) : Prop := (∀ bk σ, σ 53 14 = 1 → B bk σ = some (0, σ)) ∧ ∀ bk σ j, ENV e σ → σ 53 12 = nI j → j ≤ e.2.2 → σ 53 14 = 0 → B bk σ = if j < e.2.2 ∧ rk (e.2.1 j) = r then bd (F (mset σ 53 12 (nI (j + 1)))) (fun _ μ => bd (f_X8_lays_53 (e.2.1 j) 0 μ) fun _ μ' => bk μ') else some (0, σ)
theorem m_loop {e : Ev} (he : e.2.2 ≤ 60) {r t m : Nat} {F : Mem → Res} {B : (Mem → Res) → Mem → Res} (hF : SP e (r + 1) t m F) (hB : BD e r F B) (h1 : 1 ≤ r) (h5 : r ≤ 5) (h3 : ¬ r = 3) (hrt : r < t) {L : Nat → Mem → Res} (hL : ∀ fu σ, L (fu + 1) σ = B (L fu) σ) {H D0 : LI} {y : Nat × XS} (htop : top H < r) (hm : m ≤ opn H) (ho : opn H ≤ 5) : ∀ (fu i : Nat) (σ : Mem), e.2.2 - i < fu → (Pb e y σ ∨ Pg e r (r + 1) i y H D0 σ) → ∃ σ', L fu σ = some (0, σ') ∧ Fm σ σ' ∧ (Pb e y σ' ∨ Pg e r r i y H D0 σ') := by
  intro fu
  induction fu with
  | zero => intro i σ h; omega
  | succ fu ih =>
    intro i σ h hp
    rcases hp with hb | ⟨j, P, d, Dm, a1, a2, a3, a4, a5, a6, a7, a8⟩
    · exact ⟨σ, by rw [hL, hB.1 _ _ hb.2.2.2.1], Fm.rf σ, Or.inl hb⟩
    · have eq := hB.2 (L fu) σ j a3.1 a3.2.1 a2 a3.2.2.2.1
      by_cases q : j < e.2.2 ∧ rk (e.2.1 j) = r
      · obtain ⟨σ3, k, f3, p3⟩ := m_turn he hF (D0 := D0) q.2 h1 h5 hrt htop hm ho q.1 a3 a4 (by rw [if_neg h3]; exact a5) a7 a8
        have p4 : Pb e y σ3 ∨ Pg e r (r + 1) (j + 1) y H D0 σ3 := p3.imp id (fun z => z.pg q.2)
        obtain ⟨σ4, e4, f4, p5⟩ := ih (j + 1) σ3 (by omega) p4
        exact ⟨σ4, by rw [hL, eq, if_pos q, k]; exact e4, f3.tr f4, p5.imp id (fun z => z.lo (by omega) (Nat.le_refl _))⟩
      · refine ⟨σ, by rw [hL, eq, if_neg q], Fm.rf σ, Or.inr ⟨j, P, d, Dm, a1, a2, a3, a4, a5, fun hj => ?_, a7, a8⟩⟩
        rcases a6 hj with w | w | w
        · exact Or.inl w
        · exact Or.inr (Or.inl w)
        · have nr : ¬ rk (e.2.1 j) = r := fun z => q ⟨hj, z⟩
          exact Or.inr (Or.inr ⟨w.1, by omega⟩)
theorem m_level {e : Ev} (he : e.2.2 ≤ 60) {r t m : Nat} {F : Mem → Res} {B : (Mem → Res) → Mem → Res} (hF : SP e (r + 1) t m F) (hB : BD e r F B) (h1 : 1 ≤ r) (h5 : r ≤ 5) (h3 : ¬ r = 3) (hrt : r < t) {L : Nat → Mem → Res} (hL : ∀ fu σ, L (fu + 1) σ = B (L fu) σ) : SP e r r m (fun σ => bd (F σ) fun _ μ => L 1000 μ) := by
  intro H d D i σ hs ht hm ho hl hi
  obtain ⟨σ1, e1, f1, p1⟩ := hF H d D i σ hs (by omega) hm ho hl hi
  obtain ⟨σ2, e2, f2, p2⟩ := m_loop he hF hB h1 h5 h3 hrt hL ht hm ho 1000 i σ1 (by omega) (p1.imp id (fun z => z.lo (Nat.le_refl _) (by omega)))
  exact ⟨σ2, by show bd (F σ) _ = _; rw [e1]; exact e2, f1.tr f2, p2⟩
theorem rk5 {u : Int32} (h : rk u = 5) : u = 42 ∨ u = 47 ∨ u = 37 := by
  rcases rk_in (a := u) (by omega) with q | q | q | q | q | q | q | q | q | q | q <;> subst q <;> first | exact absurd h (by decide) | decide
theorem rk4 {u : Int32} (h : rk u = 4) : u = 43 ∨ u = 45 := by
  rcases rk_in (a := u) (by omega) with q | q | q | q | q | q | q | q | q | q | q <;> subst q <;> first | exact absurd h (by decide) | decide
theorem rk3 {u : Int32} (h : rk u = 3) : u = 60 ∨ u = 61 ∨ u = 62 := by
  rcases rk_in (a := u) (by omega) with q | q | q | q | q | q | q | q | q | q | q <;> subst q <;> first | exact absurd h (by decide) | decide
theorem rk2 {u : Int32} (h : rk u = 2) : u = 38 := by
  rcases rk_in (a := u) (by omega) with q | q | q | q | q | q | q | q | q | q | q <;> subst q <;> first | exact absurd h (by decide) | decide
theorem rk1 {u : Int32} (h : rk u = 1) : u = 124 := by
  rcases rk_in (a := u) (by omega) with q | q | q | q | q | q | q | q | q | q | q <;> subst q <;> first | exact absurd h (by decide) | decide
theorem b_times {e : Ev} (he : e.2.2 ≤ 60) (rc : Int32 → Mem → Res) : BD e 5 (f_X8_one_53 rc) (fb_X8_times_53_L4 rc) := by
  refine ⟨fun bk σ h => by rw [fb_X8_times_53_L4, nm_mk, h, if_neg (by decide)], fun bk σ j hv h12 hj h14 => ?_⟩
  have hl := m_look he hv h12 hj
  rw [fb_X8_times_53_L4, nm_mk, h14, if_pos rfl]
  simp only [hl, bd_mk, nm_mk, h12, nI_1]
  by_cases hjn : j < e.2.2
  · rw [show lk e j = e.2.1 j from if_pos hjn]
    by_cases q1 : e.2.1 j = 42
    · rw [if_pos q1, if_pos ⟨hjn, by rw [q1]; rfl⟩]
    by_cases q2 : e.2.1 j = 47
    · rw [if_neg q1, if_pos q2, if_pos ⟨hjn, by rw [q2]; rfl⟩]
    by_cases q3 : e.2.1 j = 37
    · rw [if_neg q1, if_neg q2, if_pos q3, if_pos ⟨hjn, by rw [q3]; rfl⟩]
    · rw [if_neg q1, if_neg q2, if_neg q3, if_neg (fun z => by rcases rk5 z.2 with w | w | w; exact q1 w; exact q2 w; exact q3 w)]
  · rw [show lk e j = -1 from if_neg hjn, if_neg (by decide), if_neg (by decide), if_neg (by decide), if_neg (fun z => hjn z.1)]
theorem b_sum {e : Ev} (he : e.2.2 ≤ 60) (rc : Int32 → Mem → Res) : BD e 4 (f_X8_times_53 rc) (fb_X8_sum_53_L4 rc) := by
  refine ⟨fun bk σ h => by rw [fb_X8_sum_53_L4, nm_mk, h, if_neg (by decide)], fun bk σ j hv h12 hj h14 => ?_⟩
  have hl := m_look he hv h12 hj
  rw [fb_X8_sum_53_L4, nm_mk, h14, if_pos rfl]
  simp only [hl, bd_mk, nm_mk, h12, nI_1]
  by_cases hjn : j < e.2.2
  · rw [show lk e j = e.2.1 j from if_pos hjn]
    by_cases q1 : e.2.1 j = 43
    · rw [if_pos q1, if_pos ⟨hjn, by rw [q1]; rfl⟩]
    by_cases q2 : e.2.1 j = 45
    · rw [if_neg q1, if_pos q2, if_pos ⟨hjn, by rw [q2]; rfl⟩]
    · rw [if_neg q1, if_neg q2, if_neg (fun z => by rcases rk4 z.2 with w | w; exact q1 w; exact q2 w)]
  · rw [show lk e j = -1 from if_neg hjn, if_neg (by decide), if_neg (by decide), if_neg (fun z => hjn z.1)]
theorem b_all {e : Ev} (he : e.2.2 ≤ 60) (rc : Int32 → Mem → Res) : BD e 2 (f_X8_compares_53 rc) (fb_X8_all_53_L4 rc) := by
  refine ⟨fun bk σ h => by rw [fb_X8_all_53_L4, nm_mk, h, if_neg (by decide)], fun bk σ j hv h12 hj h14 => ?_⟩
  have hl := m_look he hv h12 hj
  rw [fb_X8_all_53_L4, nm_mk, h14, if_pos rfl]
  simp only [hl, bd_mk, nm_mk, h12, nI_1]
  by_cases hjn : j < e.2.2
  · rw [show lk e j = e.2.1 j from if_pos hjn]
    by_cases q1 : e.2.1 j = 38
    · rw [if_pos q1, if_pos ⟨hjn, by rw [q1]; rfl⟩, q1]
    · rw [if_neg q1, if_neg (fun z => q1 (rk2 z.2))]
  · rw [show lk e j = -1 from if_neg hjn, if_neg (by decide), if_neg (fun z => hjn z.1)]
theorem b_any {e : Ev} (he : e.2.2 ≤ 60) (rc : Int32 → Mem → Res) : BD e 1 (f_X8_all_53 rc) (fb_X8_any_53_L4 rc) := by
  refine ⟨fun bk σ h => by rw [fb_X8_any_53_L4, nm_mk, h, if_neg (by decide)], fun bk σ j hv h12 hj h14 => ?_⟩
  have hl := m_look he hv h12 hj
  rw [fb_X8_any_53_L4, nm_mk, h14, if_pos rfl]
  simp only [hl, bd_mk, nm_mk, h12, nI_1]
  by_cases hjn : j < e.2.2
  · rw [show lk e j = e.2.1 j from if_pos hjn]
    by_cases q1 : e.2.1 j = 124
    · rw [if_pos q1, if_pos ⟨hjn, by rw [q1]; rfl⟩, q1]
    · rw [if_neg q1, if_neg (fun z => q1 (rk1 z.2))]
  · rw [show lk e j = -1 from if_neg hjn, if_neg (by decide), if_neg (fun z => hjn z.1)]
theorem m_times {e : Ev} (he : e.2.2 ≤ 60) {m : Nat} {rc : Int32 → Mem → Res} (hF : SP e 6 7 m (f_X8_one_53 rc)) : SP e 5 5 m (f_X8_times_53 rc) :=
  m_level he hF (b_times he rc) (by omega) (by omega) (by omega) (by omega) (L := f_X8_times_53_L4 rc) (fun _ _ => rfl)
theorem m_sum {e : Ev} (he : e.2.2 ≤ 60) {m : Nat} {rc : Int32 → Mem → Res} (hF : SP e 5 5 m (f_X8_times_53 rc)) : SP e 4 4 m (f_X8_sum_53 rc) :=
  m_level he hF (b_sum he rc) (by omega) (by omega) (by omega) (by omega) (L := f_X8_sum_53_L4 rc) (fun _ _ => rfl)
theorem m_all {e : Ev} (he : e.2.2 ≤ 60) {m : Nat} {rc : Int32 → Mem → Res} (hF : SP e 3 3 m (f_X8_compares_53 rc)) : SP e 2 2 m (f_X8_all_53 rc) :=
  m_level he hF (b_all he rc) (by omega) (by omega) (by omega) (by omega) (L := f_X8_all_53_L4 rc) (fun _ _ => rfl)
theorem m_any {e : Ev} (he : e.2.2 ≤ 60) {m : Nat} {rc : Int32 → Mem → Res} (hF : SP e 2 2 m (f_X8_all_53 rc)) : SP e 1 1 m (f_X8_any_53 rc) :=
  m_level he hF (b_any he rc) (by omega) (by omega) (by omega) (by omega) (L := f_X8_any_53_L4 rc) (fun _ _ => rfl)
theorem m_compares {e : Ev} (he : e.2.2 ≤ 60) {m : Nat} {rc : Int32 → Mem → Res} (hF : SP e 4 4 m (f_X8_sum_53 rc)) : SP e 3 3 m (f_X8_compares_53 rc) := by
  intro H d D i σ hs ht hm ho hl hi
  obtain ⟨σ1, e1, f1, p1⟩ := hF H d D i σ hs (by omega) hm ho hl hi
  rw [f_X8_compares_53, e1, bd_mk]
  rcases p1 with hb | ⟨j, P, d2, Dm, a1, a2, a3, a4, a5, a6, a7, a8⟩
  · rw [m_look he hb.1 hb.2.2.1 hb.2.1, bd_mk, nm_mk, hb.2.2.2.1, if_neg (by decide)]
    exact ⟨σ1, rfl, f1, Or.inl hb⟩
  · rw [m_look he a3.1 a3.2.1 a2, bd_mk, nm_mk, a3.2.2.2.1, if_pos rfl]
    by_cases q : j < e.2.2 ∧ rk (e.2.1 j) = 3
    · rw [show lk e j = e.2.1 j from if_pos q.1]
      obtain ⟨σ3, k, f3, p3⟩ := m_turn he hF (D0 := D) q.2 (by omega) (by omega) (by omega) ht hm ho q.1 a3 a4 (by rw [if_pos rfl]; exact a5) a7 a8
      have e3 : f_X8_compares_53_L34 rc (e.2.1 j) σ1 = some (0, σ3) := by
        rw [f_X8_compares_53_L34, nm_mk, a3.2.1, nm_mk, nI_1, nm_mk]
        exact k (fun μ => some (0, μ))
      have p4 : Pb e (mrun e i (H, d, true, D)) σ3 ∨ Pg e 3 3 i (mrun e i (H, d, true, D)) H D σ3 := by
        rcases p3 with hb | hp
        · exact Or.inl hb
        · refine Or.inr ?_
          obtain ⟨j2, P2, d3, Dm2, b1, b2, b3, b4, b5, b6, b7, b8⟩ := hp
          have r3 := q.2
          refine ⟨j2, P2 ++ [e.2.1 j], d3, Dm2, by omega, b2, ?_, ?_, all1 (fun p hp => by have := b5 p hp; omega) (by omega), ?_, ?_, ?_⟩
          · rw [push_app]; exact b3
          · rw [app1]; exact b4
          · rw [app1]
            intro hj2
            rcases b6 hj2 with w | w | w
            · exact Or.inl w
            · exact Or.inr (Or.inl w)
            · by_cases z : rk (e.2.1 j2) = 3
              · refine Or.inl ?_
                obtain ⟨_, _, _, n41, ndig, _⟩ := rk_sg (a := e.2.1 j2) (by omega) (by omega)
                show xcon (e.2.1 j2) (P2 ++ e.2.1 j :: H) d3 Dm2 = none
                unfold xcon
                rw [if_neg ndig, if_neg n41, if_neg (by omega), settle_app (H := e.2.1 j :: H) b5 (show rk (e.2.1 j) < 3 + 1 by omega), if_pos ⟨z, r3⟩]
              · exact Or.inr (Or.inr ⟨w.1, by omega⟩)
          · rw [push_app]; exact b7
          · rw [push_app]
            show H.length + ((push P2 Dm2).length + 1) ≤ j2
            omega
      refine ⟨σ3, ?_, f1.tr f3, p4⟩
      rcases rk3 q.2 with w | w | w
      · rw [if_pos w, e3]
      · rw [if_neg (by rw [w]; decide), if_pos w, e3]
      · rw [if_neg (by rw [w]; decide), if_neg (by rw [w]; decide), if_pos w, e3]
    · have en : (if lk e j = 60 then f_X8_compares_53_L34 rc (lk e j) σ1 else if lk e j = 61 then f_X8_compares_53_L34 rc (lk e j) σ1 else if lk e j = 62 then f_X8_compares_53_L34 rc (lk e j) σ1 else some (0, σ1)) = some (0, σ1) := by
        by_cases hjn : j < e.2.2
        · rw [show lk e j = e.2.1 j from if_pos hjn, if_neg (fun w => q ⟨hjn, by rw [w]; rfl⟩), if_neg (fun w => q ⟨hjn, by rw [w]; rfl⟩), if_neg (fun w => q ⟨hjn, by rw [w]; rfl⟩)]
        · rw [show lk e j = -1 from if_neg hjn, if_neg (by decide), if_neg (by decide), if_neg (by decide)]
      refine ⟨σ1, en, f1, Or.inr ⟨j, P, d2, Dm, a1, a2, a3, a4, fun p hp => by have := a5 p hp; omega, fun hj => ?_, a7, a8⟩⟩
      rcases a6 hj with w | w | w
      · exact Or.inl w
      · exact Or.inr (Or.inl w)
      · have nr : ¬ rk (e.2.1 j) = 3 := fun z => q ⟨hj, z⟩
        exact Or.inr (Or.inr ⟨w.1, by omega⟩)
