/-! ! and (, and the whole TEXT -/
theorem enc_33 : enc (-33) 3 0 := ⟨fun q => absurd (by decide) q, fun q => absurd (by decide) q, fun _ _ => rfl, fun _ q => absurd rfl q⟩
theorem m_opens {e : Ev} (he : e.2.2 ≤ 60) {m : Nat} {rc : Int32 → Mem → Res} (hr : SO e (m + 1) rc) : SO e m (fb_X8_opens_53 rc) := by
  have h1 := m_one he hr
  have hA := m_any he (m_all he (m_compares he (m_sum he (m_times he h1))))
  intro a H d D i σ ha0 hin hc hs hm ho hl
  have ex : xstep e.1 (e.2.1 i) (H, d, true, D) = if opn H < 5 then some (a :: H, d, true, D) else none := by
    show xbeg e.1 (e.2.1 i) H d D = _
    unfold xbeg
    rw [hc, if_pos ha0]
  rw [fb_X8_opens_53, nm_mk, hs.2.2.1]
  by_cases h5 : opn H = 5
  · have ey : mrun e i (H, d, true, D) = (i, H, d, true, D) := mrun_none (fun _ => by rw [ex, if_neg (by omega)])
    have fm : Fm σ (mset σ 53 14 1) := (Fm.rf σ).set (by omega)
    rw [if_pos (show nI (opn H) = 5 by rw [h5]; rfl), gb_1, nm_mk]
    refine ⟨_, rfl, fm, Or.inl ?_⟩
    rw [ey]
    refine ⟨hs.1.fm fm, Nat.le_of_lt hin, ?_, mset_at, ⟨D.length, by omega, ?_⟩, by unfold xfin; rw [if_pos hin]⟩
    · rw [mset_eq, upd_no (by decide)]; exact hs.2.1
    · rw [mset_eq, upd_no (by decide)]; exact hs.2.2.2.2.1
  have r4 := hs.op (opn H + 1)
  have r7 := r4.at (i + 1)
  have oa : opn (a :: H) = opn H + 1 := by rw [opn, if_pos ha0]
  have hy : mrun e i (H, d, true, D) = mrun e (i + 1) (a :: H, d, true, D) := mrun_some hin (by rw [ex, if_pos (by omega)])
  have f0 : Fm σ (mset (mset σ 53 13 (nI (opn H + 1))) 53 12 (nI (i + 1))) := ((Fm.rf σ).set (by omega)).set (by omega)
  rw [if_neg (show ¬ nI (opn H) = 5 from fun q => h5 ((nI_eq (b := 5) (by omega) (by omega)).mp q)), nm_mk, nm_mk, nI_1, nm_mk, nm_mk, r4.2.1, nm_mk, nI_1, nm_mk]
  by_cases h33 : a = 33
  · obtain ⟨σ1, e1, f1, p1⟩ := h1 (a :: H) d D (i + 1) _ (by rw [oa]; exact r7) (by show rk a < 7; have := rk_le a; omega) (by omega) (by omega) (by show H.length + 1 + D.length ≤ i + 1; omega) (by omega)
    rw [if_pos h33, e1, bd_mk]
    rcases p1 with hb | ⟨j, P, d2, Dm, a1, a2, a3, a4, a5, a6, a7, a8⟩
    · obtain ⟨σ3, e3, f3, hb3⟩ := hb.lay 3 0
      rw [e3, bd_mk, nm_mk, nm_mk, nm_mk]
      exact ⟨_, rfl, ((f0.tr f1).tr f3).set (by omega), Or.inl (by rw [hy]; exact hb3.op _)⟩
    · have a8 : H.length + 1 + (push P Dm).length ≤ j := a8
      obtain ⟨σ3, e3, r3, f3⟩ := a3.lay (by omega) enc_33
      rw [e3, bd_mk, nm_mk, r3.2.2.1, oa, nm_mk, nI_pred, nm_mk]
      refine ⟨_, rfl, ((f0.tr f1).tr f3).set (by omega), Or.inr ⟨j, P ++ [33], d2, Dm, by omega, a2, ?_, ?_, all1 a5 (by decide), ?_, ?_, ?_⟩⟩
      · rw [push_app]; exact r3.op (opn H)
      · rw [app1, ← h33]; exact hy.trans a4
      · rw [app1, ← h33]; exact a6
      · rw [push_app]; exact a7.neg
      · rw [push_app]
        show H.length + ((push P Dm).length + 1) ≤ j
        omega
  · have h40 : a = 40 := ha0.resolve_left h33
    obtain ⟨σ1, e1, f1, p1⟩ := hA (a :: H) d D (i + 1) _ (by rw [oa]; exact r7) (by show rk a < 1; rw [h40]; decide) (by omega) (by omega) (by show H.length + 1 + D.length ≤ i + 1; omega) (by omega)
    rw [if_neg h33, e1, bd_mk, nm_mk]
    rcases p1 with hb | ⟨j, P, d2, Dm, a1, a2, a3, a4, a5, a6, a7, a8⟩
    · rw [hb.2.2.2.1, if_neg (by decide), gb_1, nm_mk, mset_self hb.2.2.2.1, nm_mk, hb.2.2.1, nm_mk, hb.2.2.2.1, if_neg (by decide), nm_mk, i_a0, nm_mk, mset_self hb.2.2.1, nm_mk, nm_mk, nm_mk]
      exact ⟨_, rfl, (f0.tr f1).set (by omega), Or.inl (by rw [hy]; exact hb.op _)⟩
    · have a8 : H.length + 1 + (push P Dm).length ≤ j := a8
      have b14 := a3.2.2.2.1
      rw [b14, if_pos rfl, m_look he a3.1 a3.2.1 a2, bd_mk]
      by_cases q : lk e j = 41
      · have hjn : j < e.2.2 := by
          rcases Nat.lt_or_ge j e.2.2 with h | h
          · exact h
          · rw [show lk e j = -1 from if_neg (by omega)] at q
            exact absurd q (by decide)
        have c41 : e.2.1 j = 41 := (if_pos hjn).symm.trans q
        have r9 := a3.at (j + 1)
        rw [if_pos q, gb_0, nm_mk, mset_self b14, nm_mk, a3.2.1, nm_mk, b14, if_pos rfl, nm_mk, nI_1, nm_mk, nm_mk, r9.2.2.1, oa, nm_mk, nI_pred, nm_mk]
        refine ⟨_, rfl, ((f0.tr f1).set (by omega)).set (by omega), Or.inr ⟨j + 1, [], 0, push P Dm, by omega, hjn, r9.op (opn H), ?_, (fun p hp => absurd hp (List.not_mem_nil)), NX6 (fun _ _ => Or.inl (by omega)), a7, by show H.length + (push P Dm).length ≤ j + 1; omega⟩⟩
        refine (hy.trans a4).trans (mrun_some hjn ?_)
        show xcon (e.2.1 j) (P ++ a :: H) d2 Dm = some (H, 0, false, push P Dm)
        unfold xcon
        rw [c41, if_neg (by decide), if_pos rfl, settle_app (H := a :: H) a5 (show rk a < 1 by rw [h40]; decide)]
        rfl
      · have fm : Fm σ1 (mset σ1 53 14 1) := (Fm.rf σ1).set (by omega)
        have ey : mrun e (i + 1) (a :: H, d, true, D) = (j, P ++ a :: H, d2, false, Dm) := by
          rw [a4]
          refine mrun_none (fun hjn => ?_)
          rcases a6 hjn with w | w | w
          · exact w
          · exact absurd ((if_pos hjn).trans w) q
          · omega
        have pb : Pb e (mrun e i (H, d, true, D)) (mset σ1 53 14 1) := by
          rw [hy, ey]
          refine ⟨a3.1.fm fm, a2, ?_, mset_at, ⟨(push P Dm).length, by omega, ?_⟩, ?_⟩
          · rw [mset_eq, upd_no (by decide)]; exact a3.2.1
          · rw [mset_eq, upd_no (by decide)]; exact a3.2.2.2.2.1
          · unfold xfin
            by_cases h : j < e.2.2
            · rw [if_pos h]
            · rw [if_neg h, if_pos (Or.inr ?_)]
              show 0 < grp (P ++ a :: H)
              rw [grp_app a5, grp, if_pos h40]
              omega
        rw [if_neg q, gb_1, nm_mk]
        generalize mset σ1 53 14 1 = μ at pb fm
        rw [nm_mk, pb.2.2.1, nm_mk, pb.2.2.2.1, if_neg (by decide), nm_mk, i_a0, nm_mk, mset_self pb.2.2.1, nm_mk, nm_mk, nm_mk]
        exact ⟨_, rfl, ((f0.tr f1).tr fm).set (by omega), Or.inl (pb.op _)⟩
theorem SO.up {e : Ev} {m m' : Nat} (h : m ≤ m') {rc : Int32 → Mem → Res} (w : SO e m rc) : SO e m' rc := fun a H d D i σ a1 a2 a3 a4 a5 a6 a7 => w a H d D i σ a1 a2 a3 a4 (by omega) a6 a7
theorem m_opF {e : Ev} (he : e.2.2 ≤ 60) : ∀ fu, SO e (6 - fu) (f_X8_opens_53 fu)
  | 0 => fun a H d D i σ a1 a2 a3 a4 a5 a6 a7 => by omega
  | fu + 1 => m_opens he (SO.up (by omega) (m_opF he fu))
/-- the reading as a whole -/
theorem m_reads {e : Ev} (he : e.2.2 ≤ 60) {σ : Mem} (hs : RS e σ 0 0 []) : ∃ σ', f_X8_any_53 (f_X8_opens_53 8) σ = some (0, σ') ∧ Fm σ σ' ∧ ((xfin e.2.2 (mrun e 0 ([], 0, true, [])) = none ∧ (mrun e 0 ([], 0, true, [])).1 ≤ e.2.2 ∧ σ' 53 12 = nI (mrun e 0 ([], 0, true, [])).1 ∧ (σ' 53 14 = 1 ∨ (σ' 53 14 = 0 ∧ (mrun e 0 ([], 0, true, [])).1 < e.2.2))) ∨ ∃ D : LI, xfin e.2.2 (mrun e 0 ([], 0, true, [])) = some D ∧ σ' 53 12 = nI e.2.2 ∧ σ' 53 14 = 0 ∧ σ' 53 11 = nI D.length ∧ LE2 (σ' 60) (σ' 61) D ∧ hdL D = 1 ∧ okL D ∧ D.length ≤ e.2.2) := by
  have hA := m_any he (m_all he (m_compares he (m_sum he (m_times he (m_one he (m_opF he 8))))))
  obtain ⟨σ1, e1, f1, p1⟩ := hA [] 0 [] 0 σ hs (by decide) (by decide) (by decide) (Nat.le_refl _) (by omega)
  refine ⟨σ1, e1, f1, ?_⟩
  rcases p1 with hb | ⟨j, P, d2, Dm, a1, a2, a3, a4, a5, a6, a7, a8⟩
  · exact Or.inl ⟨hb.2.2.2.2.2, hb.2.1, hb.2.2.1, Or.inl hb.2.2.2.1⟩
  · have a8 : 0 + (push P Dm).length ≤ j := a8
    have ey : mrun e 0 ([], 0, true, []) = (j, P ++ [], d2, false, Dm) := by
      rw [a4]
      refine mrun_none (fun hjn => ?_)
      rcases a6 hjn with w | w | w
      · exact w
      · show xcon (e.2.1 j) (P ++ []) d2 Dm = none
        unfold xcon
        rw [w, if_neg (by decide), if_pos rfl, settle_app (H := []) a5 (by decide)]
        rfl
      · omega
    by_cases h : j < e.2.2
    · refine Or.inl ?_
      rw [ey]
      exact ⟨by unfold xfin; rw [if_pos h], a2, a3.2.1, Or.inr ⟨a3.2.2.2.1, h⟩⟩
    · refine Or.inr ⟨push P Dm, ?_, ?_, a3.2.2.2.1, a3.2.2.2.2.1, a3.2.2.2.2.2, a7.1, a7.2 trivial, by omega⟩
      · rw [ey]
        unfold xfin
        rw [if_neg h, if_neg (fun q => q.elim (fun z => by cases z) (fun z => by rw [show grp (P ++ []) = grp [] from grp_app a5] at z; exact absurd z (by decide)))]
        show some (settle 1 (P ++ []) Dm).2 = _
        rw [settle_app (H := []) a5 (by decide)]
      · rw [show e.2.2 = j by omega]; exact a3.2.1
