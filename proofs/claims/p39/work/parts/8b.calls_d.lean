/-! calls that change the scene: one place of the class's, one of the reference's row -/
def AD (k j a : Nat) : Prop := (k = 1 ∧ ((8 ≤ j ∧ j ≤ 14 ∧ j = a + 8) ∨ (j = 5 ∧ a = 9) ∨ (j = 7 ∧ a = 10))) ∨ (k = 2 ∧ j = 4 ∧ a = 7) ∨ (k = 7 ∧ j = 5 ∧ a = 8) ∨ (3 ≤ k ∧ k ≤ 6 ∧ j < 6 ∧ a + 3 = 11 + 4 * j + k) ∨ (8 ≤ k ∧ k ≤ 12 ∧ j < 5 ∧ a + 8 = 35 + 5 * j + k) ∨ (k = 20 ∧ j < 24 ∧ a = 120 + j)
theorem upd_pt {ρ : Nat → Int32} {S : Mem} {k j a k' j' a' : Nat} {v : Int32} (e : ρ a' = S k' j') (h : a' = a ↔ (k' = k ∧ j' = j)) : upd ρ a v a' = mset S k j v k' j' := by
  by_cases ha : a' = a
  · obtain ⟨h1, h2⟩ := h.mp ha
    subst ha h1 h2
    rw [mset_eq, upd, upd, if_pos rfl, if_pos rfl]
  · rw [upd, if_neg ha, e]
    by_cases hk : k' = k
    · subst hk
      have hj : ¬ j' = j := fun q => ha (h.mpr ⟨rfl, q⟩)
      rw [mset_eq, upd, if_neg hj]
    · rw [mset_ne hk]
theorem MT.ext {ρ ρ' : Nat → Int32} {a : Nat} {S S' : Mem} {o s : Nat} (h : MT ρ a S o s) (hr : ∀ x, a ≤ x → ρ' x = ρ x) (ho : S' o = S o) (hs : S' s = S s) : MT ρ' a S' o s := by
  unfold MT at *
  rw [ho, hs, hr a (by omega)]
  rcases h with h | ⟨h1, L, h2, h3, h4, h5⟩
  · exact Or.inl h
  · exact Or.inr ⟨h1, L, h2, h3, h4, fun i hi => by rw [hr _ (by omega), hr _ (by omega)]; exact h5 i hi⟩
theorem RM.set {ρ : Nat → Int32} {S : Mem} (h : RM ρ S) {k j a : Nat} (ad : AD k j a) (v : Int32) : RM (upd ρ a v) (mset S k j v) := by
  have hi : ∀ x, 144 ≤ x → upd ρ a v x = ρ x := fun x hx => by
    rw [upd, if_neg (by unfold AD at ad; omega)]
  have hk : ∀ q, (q = 13 ∨ q = 14 ∨ q = 16 ∨ q = 17 ∨ q = 19) → mset S k j v q = S q := fun q hq => mset_ne (by unfold AD at ad; omega)
  refine ⟨⟨upd_pt h.r0 ?_, upd_pt h.r1 ?_, upd_pt h.r2 ?_, upd_pt h.r3 ?_, upd_pt h.r4 ?_, upd_pt h.r5 ?_, upd_pt h.r6 ?_⟩, ⟨upd_pt h.r7 ?_, upd_pt h.r8 ?_, upd_pt h.r9 ?_, upd_pt h.r10 ?_⟩, fun i hi => ⟨upd_pt (h.pt i hi).1 ?_, upd_pt (h.pt i hi).2.1 ?_, upd_pt (h.pt i hi).2.2.1 ?_, upd_pt (h.pt i hi).2.2.2 ?_⟩, fun i hi => ⟨upd_pt (h.rn i hi).1 ?_, upd_pt (h.rn i hi).2.1 ?_, upd_pt (h.rn i hi).2.2.1 ?_, upd_pt (h.rn i hi).2.2.2.1 ?_, upd_pt (h.rn i hi).2.2.2.2 ?_⟩, fun i hi => ?_, fun i hi => upd_pt (h.wt i hi) ?_, h.t0.ext (fun x hx => hi x (by omega)) (hk 13 (by omega)) (hk 14 (by omega)), h.t1.ext (fun x hx => hi x (by omega)) (hk 16 (by omega)) (hk 17 (by omega))⟩
  all_goals first
    | (unfold AD at ad; omega)
    | (rw [upd, if_neg (by unfold AD at ad; omega), hk 19 (by omega)]; exact h.tp i hi)
/-- the bound of a place -/
def WB (k j : Nat) : Nat := match k with
  | 1 => (match j with
    | 8 => 200
    | 9 => 200
    | 10 => 9
    | 11 => 2
    | 12 => 9999
    | 5 => 60
    | 7 => 24
    | _ => 0)
  | 2 => 6
  | 3 => 6
  | 4 => 9
  | 5 => 9
  | 6 => 9999
  | 7 => 5
  | 8 => 99
  | 9 => 60
  | 10 => 20
  | 11 => 9999
  | 12 => 9999
  | _ => 0
def BV (k j : Nat) : Prop := ¬ k = 20 ∧ ¬ (k = 1 ∧ j = 14)
theorem mset_bn {S : Mem} {k j k' j' n : Nat} {v : Int32} (h : bn (S k' j') n) (hv : k' = k → j' = j → bn v n) : bn (mset S k j v k' j') n := by
  by_cases hk : k' = k
  · subst hk
    rw [mset_eq, upd]
    split
    · exact hv rfl (by assumption)
    · exact h
  · rw [mset_ne hk]; exact h
theorem WF.set {S : Mem} (w : WF S) {k j : Nat} {v : Int32} (hk : (k = 1 ∧ ¬ j = 13) ∨ (2 ≤ k ∧ k ≤ 12) ∨ k = 20) (hv : BV k j → bn v (WB k j)) : WF (mset S k j v) := by
  have q : ∀ {k' j' n}, bn (S k' j') n → n = WB k' j' → BV k' j' → bn (mset S k j v k' j') n := fun h hn hb => mset_bn h (fun e1 e2 => by subst e1 e2; rw [hn]; exact hv hb)
  have hs : ∀ q, (q = 13 ∨ q = 14 ∨ q = 16 ∨ q = 17 ∨ q = 19) → mset S k j v q = S q := fun q hq => mset_ne (by omega)
  refine ⟨⟨q w.1.1 rfl ?_, q w.1.2 rfl ?_⟩, fun i hi => ⟨q (w.2.1 i hi).1 rfl ?_, q (w.2.1 i hi).2.1 rfl ?_, q (w.2.1 i hi).2.2.1 rfl ?_, q (w.2.1 i hi).2.2.2 rfl ?_⟩, fun i hi => ⟨q (w.2.2.1 i hi).1 rfl ?_, q (w.2.2.1 i hi).2.1 rfl ?_, q (w.2.2.1 i hi).2.2.1 rfl ?_, q (w.2.2.1 i hi).2.2.2.1 rfl ?_, q (w.2.2.1 i hi).2.2.2.2 rfl ?_⟩, ⟨q w.2.2.2.1.1 rfl ?_, q w.2.2.2.1.2.1 rfl ?_, q w.2.2.2.1.2.2.1 rfl ?_, q w.2.2.2.1.2.2.2.1 rfl ?_, q w.2.2.2.1.2.2.2.2.1 rfl ?_, ?_⟩, ⟨q w.2.2.2.2.1.1 rfl ?_, q w.2.2.2.2.1.2 rfl ?_⟩, fun i hi => ?_, ?_, ?_⟩
  all_goals first
    | exact ⟨by omega, by omega⟩
    | (rw [show mset S k j v 1 13 = S 1 13 by
        by_cases h1 : 1 = k
        · subst h1
          rw [mset_eq, upd, if_neg (by omega)]
        · rw [mset_ne h1]]
       exact w.2.2.2.1.2.2.2.2.2)
    | (rw [hs 19 (by omega)]; exact w.2.2.2.2.2.1 i hi)
    | (unfold TX; rw [hs 13 (by omega), hs 14 (by omega)]; exact w.t13)
    | (unfold TX; rw [hs 16 (by omega), hs 17 (by omega)]; exact w.t16)
theorem mset_row (σ : Mem) (a : Nat) (v : Int32) : mset σ 54 a v = mrow σ 54 (upd (σ 54) a v) := rfl
theorem mrow_set (σ : Mem) (ρ : Nat → Int32) (a : Nat) (v : Int32) : mset (mrow σ 54 ρ) 54 a v = mrow σ 54 (upd ρ a v) := by
  funext q
  by_cases h : q = 54
  · subst h
    rw [mset_eq, mrow_eq, mrow_eq]
  · rw [mset_ne h, mrow_ne h, mrow_ne h]
/-- cells 1 .. 20 and the row of the reference have changed -/
theorem Rel.chg {c : Nat} {σ τ : Mem} (w : Rel c σ) (hk : ∀ k, (k = 0 ∨ 21 ≤ k) → ¬ k = 54 → ¬ k = 62 → ¬ k = 63 → τ k = σ k) (hw : WF τ) (hm : RM (τ 54) τ) : Rel (c + 1) τ := by
  obtain ⟨a, b, ⟨n, hn, i1, i2, i3⟩, e, s, t⟩ := w
  have q : ∀ k, decide ((k = 0 ∨ 21 ≤ k) ∧ ¬ k = 54 ∧ ¬ k = 62 ∧ ¬ k = 63) = true → τ k = σ k := fun k hk' => by
    obtain ⟨a, b, c, d⟩ := of_decide_eq_true hk'
    exact hk k a b c d
  have sk : Sc (KP τ) (KP σ) := fun k h1 h2 h3 h4 => hk (k + 20) (by omega) (by omega) (by omega) (by omega)
  refine ⟨hw, hm, ⟨n, by omega, ?_, ?_, ?_⟩, ?_, ?_, ?_⟩
  · rw [q 0 rfl]; exact i1
  · rw [q 53 rfl]; exact i2
  · rcases i3 with i3 | ⟨i3, i4⟩
    · exact Or.inl i3
    · exact Or.inr ⟨i3.ext sk, by rw [q 55 rfl]; exact i4.ext sk⟩
  · rw [q 52 rfl, q 56 rfl]; exact e
  · unfold SR at *
    simp only [q 47 rfl, q 48 rfl, q 49 rfl, q 57 rfl, q 58 rfl, q 59 rfl]
    exact s
  · unfold TR at *
    simp only [q 50 rfl, q 51 rfl, q 53 rfl, q 64 rfl]
    exact t
theorem Call_chg {c : Nat} {F G : Mem → Res} {σ σ1 : Mem} {r : Int32} {ρ : Nat → Int32} (w : Rel c σ) (hF : F σ = some (r, σ1)) (hk : ∀ k, (k = 0 ∨ 21 ≤ k) → σ1 k = σ k) (hw : WF σ1) (hm : RM ρ σ1) (hG : G σ1 = some (r, mrow σ1 54 ρ)) : Call c F G σ := by
  have sc : Sc (mrow σ1 54 ρ) σ1 := fun k h1 h2 _ _ => mrow_ne (by omega)
  refine ⟨r, σ1, hF, fun k h1 _ _ => hk k (by omega), _, hG, w.chg (fun k h1 h2 _ _ => ?_) (hw.ext sc) ?_⟩
  · rw [mrow_ne h2]; exact hk k h1
  · rw [mrow_eq]; exact hm.ext sc
/-- one place of each -/
theorem Call_set {c : Nat} {F G : Mem → Res} {σ : Mem} (w : Rel c σ) {k j a : Nat} (ad : AD k j a) (hj : ¬ (k = 1 ∧ j = 13)) (v : Int32) (hv : BV k j → bn v (WB k j)) (hF : F σ = some (σ k j, mset σ k j v)) (hG : ∀ τ, τ 54 = σ 54 → G τ = some (τ 54 a, mset τ 54 a v)) (e : σ 54 a = σ k j) : Call c F G σ := by
  have h54 : mset σ k j v 54 = σ 54 := mset_ne (by unfold AD at ad; omega)
  refine Call_chg w (ρ := upd (σ 54) a v) hF (fun q hq => mset_ne (by unfold AD at ad; omega)) (WF.set w.1 (by unfold AD at ad; omega) hv) (RM.set w.2.1 ad v) ?_
  rw [hG _ h54, mset_row, h54, e]
theorem m_become {a : Nat} (ha : a < 386) (v : Int32) (τ : Mem) : f_X8_becomes_53 (nI a) v τ = some (τ 54 a, mset τ 54 a v) := by
  rw [f_X8_becomes_53, gin (by omega), nm_mk, gin (by omega), nm_mk, cln (by omega)]
theorem bn_of {a : Int32} {n : Nat} (hn : n < 2147483648) {M : Int32} (hM : M = nI n) (h : 0 ≤ a ∧ a ≤ M) : bn a n := by
  subst hM
  obtain ⟨j, hj, rfl⟩ := nI_of (Int32.not_lt.mpr h.1)
  exact ⟨j, (nI_leI hj (by omega)).mp h.2, rfl⟩
theorem call_seed {c : Nat} {σ : Mem} (w : Rel c σ) (a0 : Int32) : Call c (fun σ => f_X7_seed_0 a0 σ) (fun σ => f_X8_seed_53 a0 σ) σ :=
  Call_set w (k := 1) (j := 14) (a := 6) (by unfold AD; omega) (by omega) a0 (fun hn => absurd ⟨rfl, rfl⟩ hn.2) rfl (fun τ _ => by show bd (f_X8_becomes_53 (nI 6) a0 τ) _ = _; rw [bd_et, m_become (by omega)]) w.2.1.r6
theorem call_weighs {c : Nat} {σ : Mem} (w : Rel c σ) (a0 a1 : Int32) : Call c (fun σ => f_X7_weighs_0 a0 a1 σ) (fun σ => f_X8_weighs_53 a0 a1 σ) σ := by
  unfold f_X7_weighs_0 f_X8_weighs_53
  refine guardP w a0 (fun i hi e => guard w (x_isDigit a1 σ) (fun τ _ => in_eq a1 0 9 τ) (fun hp => ?_))
  subst e
  refine Call_set w (k := 5) (j := i) (a := 11 + 4 * i + 2) (by unfold AD; omega) (by omega) a1 (fun _ => ?_) ?_ (fun τ _ => ?_) (w.2.1.pt i hi).2.2.1
  · show bn a1 9
    exact bn_of (by decide) rfl hp
  · show gi _ _ _ = _
    rw [gin (by omega), nm_mk, gin (by omega), nm_mk, cln (by omega)]
  · show nm _ _ = _
    rw [nm_mk, i_4, nm_mk, i_11, nm_mk, i_a2, m_become (by omega), bd_mk]
theorem call_leads {c : Nat} {σ : Mem} (w : Rel c σ) (a0 a1 : Int32) : Call c (fun σ => f_X7_leads_0 a0 a1 σ) (fun σ => f_X8_leads_53 a0 a1 σ) σ := by
  unfold f_X7_leads_0 f_X8_leads_53
  refine guardR w a0 (fun i hi e => guard w (x_isFeet a1 σ) (fun τ _ => m_isLead a1 τ) (fun hp => ?_))
  subst e
  refine Call_set w (k := 10) (j := i) (a := 35 + 5 * i + 2) (by unfold AD; omega) (by omega) a1 (fun _ => ?_) ?_ (fun τ _ => ?_) (w.2.1.rn i hi).2.2.1
  · show bn a1 20
    exact bn_of (by decide) rfl hp
  · show gi _ _ _ = _
    rw [gin (by omega), nm_mk, gin (by omega), nm_mk, cln (by omega)]
  · show nm _ _ = _
    rw [nm_mk, i_5, nm_mk, i_35, nm_mk, i_a2, m_become (by omega), bd_mk]
