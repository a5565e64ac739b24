/-! both sides change the scene: the class's cells 1 .. 20, the reference's row; steal, over, loose -/
def Kc (σ σ1 : Mem) : Prop := ∀ k, (k = 0 ∨ 21 ≤ k) → ¬ k = 62 → ¬ k = 63 → σ1 k = σ k
def Km (τ τ1 : Mem) : Prop := ∀ k, ¬ k = 15 → ¬ k = 18 → ¬ k = 54 → ¬ k = 62 → ¬ k = 63 → τ1 k = τ k
theorem Kc.rf (a : Mem) : Kc a a := fun _ _ _ _ => rfl
theorem Km.rf (a : Mem) : Km a a := fun _ _ _ _ _ _ => rfl
theorem Kc.tr {a b c : Mem} (h : Kc a b) (g : Kc b c) : Kc a c := fun k h1 h2 h3 => (g k h1 h2 h3).trans (h k h1 h2 h3)
theorem Km.tr {a b c : Mem} (h : Km a b) (g : Km b c) : Km a c := fun k h1 h2 h3 h4 h5 => (g k h1 h2 h3 h4 h5).trans (h k h1 h2 h3 h4 h5)
theorem Kc.same {a b : Mem} (h : Same a b) : Kc a b := fun k h1 h2 h3 => h k (by omega) (by omega) h2 h3
theorem Km.same {a b : Mem} (h : Same a b) : Km a b := fun k h1 h2 h3 h4 h5 => h k h1 h2 h4 h5
theorem Kc.set {a b : Mem} (h : Kc a b) {k j : Nat} {v : Int32} (hk : 1 ≤ k ∧ k ≤ 20) : Kc a (mset b k j v) := fun q h1 h2 h3 => by rw [mset_ne (by omega)]; exact h q h1 h2 h3
theorem Km.row {a b : Mem} (h : Km a b) (ρ : Nat → Int32) : Km a (mrow b 54 ρ) := fun q h1 h2 h3 h4 h5 => by rw [mrow_ne h3]; exact h q h1 h2 h3 h4 h5
theorem mrow_self {τ : Mem} {k : Nat} {ρ : Nat → Int32} (h : τ k = ρ) : mrow τ k ρ = τ := by
  funext q
  by_cases e : q = k
  · subst e; rw [mrow_eq, h]
  · rw [mrow_ne e]
theorem mset_at {σ : Mem} {k j : Nat} {v : Int32} : mset σ k j v k j = v := by rw [mset_eq, upd, if_pos rfl]
theorem upd_upd (f : Nat → Int32) (a : Nat) (x y : Int32) : upd (upd f a x) a y = upd f a y := by
  funext q
  unfold upd
  by_cases h : q = a
  · rw [if_pos h, if_pos h]
  · rw [if_neg h, if_neg h, if_neg h]
theorem upd_at (f : Nat → Int32) (a : Nat) (x : Int32) : upd f a x a = x := if_pos rfl
theorem upd_no {f : Nat → Int32} {a b : Nat} {x : Int32} (h : ¬ b = a) : upd f a x b = f b := if_neg h
theorem mset_mset (σ : Mem) (k j : Nat) (x y : Int32) : mset (mset σ k j x) k j y = mset σ k j y := by
  funext q
  by_cases h : q = k
  · subst h; rw [mset_eq, mset_eq, mset_eq, upd_upd]
  · rw [mset_ne h, mset_ne h, mset_ne h]
/-- from a scene and a row that tells it, both sides answer alike, and stand so again -/
def Bo (F G : Mem → Res) (σ : Mem) (ρ : Nat → Int32) (Q : Int32 → Prop) : Prop := ∃ v σ1 ρ1, F σ = some (v, σ1) ∧ Kc σ σ1 ∧ WF σ1 ∧ RM ρ1 σ1 ∧ Q v ∧ ∀ τ, τ 54 = ρ → ∃ τ1, G τ = some (v, τ1) ∧ τ1 54 = ρ1 ∧ Km τ τ1
theorem Bo.call {c : Nat} {F G : Mem → Res} {σ : Mem} {Q : Int32 → Prop} (w : Rel c σ) (h : Bo F G σ (σ 54) Q) : Call c F G σ := by
  obtain ⟨v, σ1, ρ1, a, k, wf, rm, _, g⟩ := h
  obtain ⟨τ1, b, e, km⟩ := g σ1 (k 54 (by omega) (by omega) (by omega))
  have sc : Sc τ1 σ1 := fun k h1 h2 h3 h4 => km k h3 h4 (by omega) (by omega) (by omega)
  refine ⟨v, σ1, a, fun q h1 h2 h3 => k q (by omega) h2 h3, τ1, b, w.chg (fun q h1 h2 h3 h4 => ?_) (wf.ext sc) (by rw [e]; exact rm.ext sc)⟩
  rw [km q (by omega) (by omega) h2 h3 h4, k q h1 h3 h4]
theorem Bo.step {F F' G G' : Mem → Res} {σ σa : Mem} {ρ ρa : Nat → Int32} {Q : Int32 → Prop} (h : Bo F' G' σa ρa Q) (hF : F σ = F' σa) (hk : Kc σ σa) (hG : ∀ τ, τ 54 = ρ → ∃ τa, G τ = G' τa ∧ τa 54 = ρa ∧ Km τ τa) : Bo F G σ ρ Q := by
  obtain ⟨v, σ1, ρ1, a, k, wf, rm, q, g⟩ := h
  refine ⟨v, σ1, ρ1, hF.trans a, hk.tr k, wf, rm, q, fun τ ht => ?_⟩
  obtain ⟨τa, e1, e2, e3⟩ := hG τ ht
  obtain ⟨τ1, f1, f2, f3⟩ := g τa e2
  exact ⟨τ1, e1.trans f1, f2, e3.tr f3⟩
theorem Bo.same {F F' G G' : Mem → Res} {σ : Mem} {ρ : Nat → Int32} {Q : Int32 → Prop} (h : Bo F' G' σ ρ Q) (hF : F σ = F' σ) (hG : ∀ τ, τ 54 = ρ → G τ = G' τ) : Bo F G σ ρ Q :=
  h.step hF (Kc.rf σ) (fun τ ht => ⟨τ, hG τ ht, ht, Km.rf τ⟩)
theorem Bo.then {F G : Mem → Res} {K J : Int32 → Mem → Res} {σ : Mem} {ρ : Nat → Int32} {Q Q' : Int32 → Prop} (h : Bo F G σ ρ Q) (k : ∀ v σ1 ρ1, Q v → Kc σ σ1 → WF σ1 → RM ρ1 σ1 → Bo (K v) (J v) σ1 ρ1 Q') : Bo (fun σ => bd (F σ) K) (fun τ => bd (G τ) J) σ ρ Q' := by
  obtain ⟨v, σ1, ρ1, a, h1, wf, rm, q, g⟩ := h
  obtain ⟨v', σ2, ρ2, a', h1', wf', rm', q', g'⟩ := k v σ1 ρ1 q h1 wf rm
  refine ⟨v', σ2, ρ2, by show bd (F σ) K = _; rw [a]; exact a', h1.tr h1', wf', rm', q', fun τ ht => ?_⟩
  obtain ⟨τ1, e1, e2, e3⟩ := g τ ht
  obtain ⟨τ2, f1, f2, f3⟩ := g' τ1 e2
  exact ⟨τ2, by show bd (G τ) J = _; rw [e1]; exact f1, f2, e3.tr f3⟩
theorem Bo.of {F G : Mem → Res} {σ σ1 : Mem} {ρ ρ1 : Nat → Int32} {Q : Int32 → Prop} {v : Int32} (hF : F σ = some (v, σ1)) (hk : Kc σ σ1) (wf : WF σ1) (rm : RM ρ1 σ1) (q : Q v) (hG : ∀ τ, G (mrow τ 54 ρ) = some (v, mrow τ 54 ρ1)) : Bo F G σ ρ Q :=
  ⟨v, σ1, ρ1, hF, hk, wf, rm, q, fun τ ht => ⟨mrow τ 54 ρ1, by rw [← hG τ, mrow_self ht], mrow_eq, (Km.rf τ).row ρ1⟩⟩
theorem Bo_ret {σ : Mem} {ρ : Nat → Int32} {Q : Int32 → Prop} {v : Int32} (wf : WF σ) (rm : RM ρ σ) (q : Q v) : Bo (fun σ => some (v, σ)) (fun τ => some (v, τ)) σ ρ Q :=
  ⟨v, σ, ρ, rfl, Kc.rf σ, wf, rm, q, fun τ ht => ⟨τ, rfl, ht, Km.rf τ⟩⟩
theorem WF.same {σ σ' : Mem} (w : WF σ) (h : Same σ σ') : WF σ' := w.ext ((Sc.rf σ).same h)
theorem RM.same {ρ : Nat → Int32} {σ σ' : Mem} (w : RM ρ σ) (h : Same σ σ') : RM ρ σ' := w.ext ((Sc.rf σ).same h)
theorem WF.set13 {S : Mem} (w : WF S) {v : Int32} (h : -9999 ≤ v ∧ v ≤ 9999) : WF (mset S 1 13 v) := by
  have q : ∀ k, decide (¬ k = 1) = true → mset S 1 13 v k = S k := fun k hk => mset_ne (of_decide_eq_true hk)
  have j : ∀ k, decide (¬ k = 13) = true → mset S 1 13 v 1 k = S 1 k := fun k hk => by rw [mset_eq, upd, if_neg (of_decide_eq_true hk)]
  unfold WF TX at *
  simp only [q 2 rfl, q 3 rfl, q 4 rfl, q 5 rfl, q 6 rfl, q 7 rfl, q 8 rfl, q 9 rfl, q 10 rfl, q 11 rfl, q 12 rfl, q 13 rfl, q 14 rfl, q 16 rfl, q 17 rfl, q 19 rfl, j 5 rfl, j 7 rfl, j 8 rfl, j 9 rfl, j 10 rfl, j 11 rfl, j 12 rfl, mset_at]
  obtain ⟨a, b, c, ⟨d1, d2, d3, d4, d5, _⟩, e⟩ := w
  exact ⟨a, b, c, ⟨d1, d2, d3, d4, d5, h⟩, e⟩
/-- one more, held at 9999 -/
def on1 (v : Int32) : Int32 := if v + 1 < 9999 then v + 1 else 9999
theorem x_one (v : Int32) (σ : Mem) : f_X3_oneMore v σ = some (on1 v, σ) := rfl
theorem on1_bn {v : Int32} (h : bn v 9999) : bn (on1 v) 9999 := by
  obtain ⟨n, hn, rfl⟩ := h
  unfold on1
  rw [nI_1]
  by_cases q : nI (n + 1) < 9999
  · rw [if_pos q]
    have := (nI_ltI (b := 9999) (by omega) (by omega)).mp q
    exact ⟨n + 1, by omega, rfl⟩
  · rw [if_neg q]
    exact ⟨9999, by omega, rfl⟩
theorem on1_cl {v : Int32} (h : bn v 9999) : cl 0 9999 (v + 1) = on1 v := by
  obtain ⟨n, hn, rfl⟩ := h
  unfold on1 cl
  rw [nI_1, if_pos (nI_pos' (by omega))]
  by_cases q : nI (n + 1) < 9999
  · rw [if_pos q, if_pos (Int32.le_of_lt q)]
  · rw [if_neg q]
    have h1 : ¬ n + 1 < 9999 := fun h => q ((nI_ltI (b := 9999) (by omega) (by omega)).mpr h)
    by_cases q2 : nI (n + 1) ≤ 9999
    · rw [if_pos q2]
      have := (nI_leI (b := 9999) (by omega) (by omega)).mp q2
      have e : n + 1 = 9999 := by omega
      rw [e]; rfl
    · rw [if_neg q2]
theorem m_mor {a : Nat} (ha : a < 386) {ρ : Nat → Int32} {τ : Mem} {v : Int32} (hv : ρ a = v) (hb : bn v 9999) : f_X8_more_53 (nI a) (mrow τ 54 ρ) = some (0, mrow τ 54 (upd ρ a (on1 v))) := by
  subst hv
  rw [f_X8_more_53, gin (by omega), nm_mk, cln (by omega), mrow_eq, nm_mk, mh, bd_mk, on1_cl hb, gin (by omega), nm_mk, mrow_set]
theorem m_lt2 {r : Nat} (hr : r < 5) (v : Int32) {ρ : Nat → Int32} {τ : Mem} : f_X8_lets_53 (nI r) 2 v (mrow τ 54 ρ) = some (0, mrow τ 54 (upd ρ (35 + 5 * r + 2) v)) :=
  (m_let (a := 35 + 5 * r + 2) (n := r) (k := 2) rfl (by omega) v _).trans (by rw [mrow_set])
theorem bo_isOut {σ : Mem} {ρ : Nat → Int32} (w : WF σ) (m : RM ρ σ) {r : Nat} (hr : r < 5) : Bo (fun σ => f_X3_isOut_1 (nI r) σ) (fun τ => f_X8_isOut_53 (nI r) τ) σ ρ (fun v => v = 0) := by
  obtain ⟨n, hn, e11⟩ := w.2.2.2.1.2.2.2.1
  have b12 := (w.2.2.1 r hr).2.2.2.2
  have bI := w.2.2.2.1.2.2.2.2.1
  have q12 : ρ (35 + 5 * r + 4) = σ 12 r := (m.rn r hr).2.2.2.2
  have A1 : AD 12 r (35 + 5 * r + 4) := by unfold AD; omega
  have A2 : AD 10 r (35 + 5 * r + 2) := by unfold AD; omega
  have A3 : AD 1 11 3 := by unfold AD; omega
  have A4 : AD 1 12 4 := by unfold AD; omega
  have m2 := (m.set A1 (on1 (σ 12 r))).set A2 0
  have w2 := WF.set (WF.set w (k := 12) (j := r) (v := on1 (σ 12 r)) (by omega) (fun _ => on1_bn b12)) (k := 10) (j := r) (v := 0) (by omega) (fun _ => ⟨0, by omega, rfl⟩)
  have e11' : mset (mset σ 12 r (on1 (σ 12 r))) 10 r 0 1 11 = nI n := by rw [mset_ne (by decide), mset_ne (by decide), e11]
  have e12' : mset (mset σ 12 r (on1 (σ 12 r))) 10 r 0 1 12 = σ 1 12 := by rw [mset_ne (by decide), mset_ne (by decide)]
  have k2 : Kc σ (mset (mset σ 12 r (on1 (σ 12 r))) 10 r 0) := ((Kc.rf σ).set (by omega)).set (by omega)
  have r3 : upd (upd ρ (35 + 5 * r + 4) (on1 (σ 12 r))) (35 + 5 * r + 2) 0 3 = nI n := by rw [upd_no (by omega), upd_no (by omega), m.r3, e11]
  have r4 : upd (upd ρ (35 + 5 * r + 4) (on1 (σ 12 r))) (35 + 5 * r + 2) 0 4 = σ 1 12 := by rw [upd_no (by omega), upd_no (by omega), m.r4]
  have hx : f_X3_isOut_1 (nI r) σ = nm (mset (mset (mset σ 12 r (on1 (σ 12 r))) 10 r 0) 1 11 (nI (n + 1))) fun (μ8 : Mem) => if nI (n + 1) < 3 then (some (0, μ8)) else (nm (mset μ8 1 11 0) fun (μ10 : Mem) => nm (μ10 1 12) fun (v11 : Int32) => bd (f_X3_oneMore v11 μ10) fun v12 μ13 => nm (mset μ13 1 12 v12) fun (μ14 : Mem) => some (0, μ14)) := by
    rw [f_X3_isOut_1, gin (by omega), cln (by omega), nm_mk, x_one, bd_mk, gin (by omega), nm_mk, gin (by omega), nm_mk, nm_mk, e11', nm_mk, nI_1, nm_mk, nm_mk, nm_mk, mset_at]
    rfl
  have hm : ∀ τ, f_X8_isOut_53 (nI r) (mrow τ 54 ρ) = nm (mrow τ 54 (upd (upd (upd ρ (35 + 5 * r + 4) (on1 (σ 12 r))) (35 + 5 * r + 2) 0) 3 (nI (n + 1)))) fun (μ10 : Mem) => if nI (n + 1) = 3 then (gi 3 386 <| nm (mset μ10 54 (3 : Int32).toNatClampNeg 0) fun (μ12 : Mem) => bd (f_X8_more_53 4 μ12) fun v13 μ14 => some (0, μ14)) else (some (0, μ10)) := fun τ => by
    rw [f_X8_isOut_53, nm_mk, i_5, nm_mk, i_35, nm_mk, i_a4, m_mor (by omega) q12 b12, bd_mk, m_lt2 hr, bd_mk, g3_386, nm_mk, c_3, mrow_eq, r3, nm_mk, nI_1, g3_386, nm_mk, g3_386, mrow_set, nm_mk, mrow_eq, upd_at, nm_mk]
    simp only [nm_mk, g3_386]
  by_cases h3 : n + 1 < 3
  · refine Bo.of (v := 0) (σ1 := mset (mset (mset σ 12 r (on1 (σ 12 r))) 10 r 0) 1 11 (nI (n + 1))) (ρ1 := upd (upd (upd ρ (35 + 5 * r + 4) (on1 (σ 12 r))) (35 + 5 * r + 2) 0) 3 (nI (n + 1))) ?_ (k2.set (by omega)) (WF.set w2 (by omega) (fun _ => ⟨n + 1, by show n + 1 ≤ 2; omega, rfl⟩)) (m2.set A3 _) rfl (fun τ => ?_)
    · show f_X3_isOut_1 (nI r) σ = _
      rw [hx, nm_mk, if_pos (show nI (n + 1) < 3 from (nI_ltI (b := 3) (by omega) (by omega)).mpr h3)]
    · show f_X8_isOut_53 (nI r) _ = _
      rw [hm, nm_mk, if_neg (fun q => by have := (nI_eq (b := 3) (by omega) (by omega)).mp q; omega)]
  · obtain rfl : n = 2 := by omega
    refine Bo.of (v := 0) (σ1 := mset (mset (mset (mset σ 12 r (on1 (σ 12 r))) 10 r 0) 1 11 0) 1 12 (on1 (σ 1 12))) (ρ1 := upd (upd (upd (upd ρ (35 + 5 * r + 4) (on1 (σ 12 r))) (35 + 5 * r + 2) 0) 3 0) 4 (on1 (σ 1 12))) ?_ ((k2.set (by omega)).set (by omega)) (WF.set (WF.set w2 (by omega) (fun _ => ⟨0, by omega, rfl⟩)) (by omega) (fun _ => on1_bn bI)) ((m2.set A3 _).set A4 _) rfl (fun τ => ?_)
    · show f_X3_isOut_1 (nI r) σ = _
      rw [hx, nm_mk, if_neg (by decide), nm_mk, mset_mset, nm_mk, show mset (mset (mset σ 12 r (on1 (σ 12 r))) 10 r 0) 1 11 0 1 12 = σ 1 12 by rw [mset_eq, upd_no (by omega), e12'], x_one, bd_mk, nm_mk]
    · show f_X8_isOut_53 (nI r) _ = _
      rw [hm, nm_mk, if_pos (by decide), g3_386, nm_mk, c_3, mrow_set, upd_upd, show (4 : Int32) = nI 4 from rfl, m_mor (by omega) (show upd (upd (upd ρ (35 + 5 * r + 4) (on1 (σ 12 r))) (35 + 5 * r + 2) 0) 3 0 4 = σ 1 12 by rw [upd_no (by omega), r4]) bI, bd_mk]
theorem call_over {c : Nat} {σ : Mem} (w : Rel c σ) (a0 : Int32) : Call c (fun σ => f_X7_over_0 a0 σ) (fun σ => f_X8_over_53 a0 σ) σ := by
  unfold f_X7_over_0 f_X8_over_53
  refine guardR w a0 (fun r hr e => ?_)
  subst e
  by_cases hp : pk σ r (σ 10 r) = 0
  · refine Call_ro w (v := 0) (RO.mk ?_) (fun τ ht => RO.mk ?_)
    · rw [gin (by omega), nm_mk, cln (by omega), x_pick (Sc.rf σ) hr, bd_mk, if_pos hp]
    · have rm := w.rm (Mo.of ht)
      rw [m_ab2 rm hr, bd_mk, m_pick rm hr, bd_mk, if_pos hp, if_pos hp]
  · refine Bo.call w (Q := fun v => v = 1) (Bo.same (Bo.then (K := fun _ μ => some (1, μ)) (J := fun _ μ => some (1, μ)) (bo_isOut w.1 w.2.1 hr) (fun v σ1 ρ1 q _ wf rm => Bo_ret wf rm rfl)) ?_ (fun τ ht => ?_))
    · show gi _ _ _ = _
      rw [gin (by omega), nm_mk, cln (by omega), x_pick (Sc.rf σ) hr, bd_mk, if_neg hp]
    · have rm : RM (τ 54) σ := by rw [ht]; exact w.2.1
      show bd _ _ = _
      rw [m_ab2 rm hr, bd_mk, m_pick rm hr, bd_mk, if_neg hp]
      simp only [if_neg hp]
