/-! image, restore -/
/-- all that the bounds and the row speak of is the same -/
def Ag (S' S : Mem) : Prop := (S' 2 4 = S 2 4 ∧ S' 7 5 = S 7 5) ∧ (∀ i, i < 6 → S' 3 i = S 3 i ∧ S' 4 i = S 4 i ∧ S' 5 i = S 5 i ∧ S' 6 i = S 6 i) ∧ (∀ i, i < 5 → S' 8 i = S 8 i ∧ S' 9 i = S 9 i ∧ S' 10 i = S 10 i ∧ S' 11 i = S 11 i ∧ S' 12 i = S 12 i) ∧ (S' 1 5 = S 1 5 ∧ S' 1 7 = S 1 7 ∧ S' 1 8 = S 1 8 ∧ S' 1 9 = S 1 9 ∧ S' 1 10 = S 1 10 ∧ S' 1 11 = S 1 11 ∧ S' 1 12 = S 1 12 ∧ S' 1 13 = S 1 13 ∧ S' 1 14 = S 1 14) ∧ (∀ i, i < 60 → S' 19 i = S 19 i) ∧ (∀ i, i < 24 → S' 20 i = S 20 i) ∧ (S' 13 2 = S 13 2 ∧ S' 13 3 = S 13 3 ∧ ∀ i, i < 60 → S' 14 i = S 14 i) ∧ (S' 16 2 = S 16 2 ∧ S' 16 3 = S 16 3 ∧ ∀ i, i < 60 → S' 17 i = S 17 i)
theorem hd_ag {st st' : Nat → Int32} (h : ∀ i, i < 60 → st' i = st i) : ∀ n, n ≤ 60 → hd st' n = hd st n
  | 0, _ => rfl
  | n + 1, q => by
    unfold hd
    rw [h n (by omega), hd_ag h n (by omega)]
theorem okp_ag {st st' : Nat → Int32} {L : Nat} (h : ∀ i, i < 60 → st' i = st i) (w : okp st L) : okp st' L := by
  obtain ⟨a, b, d, e⟩ := w
  refine ⟨a, b, (hd_ag h L b).trans d, fun n hn => ?_⟩
  rw [h n (by omega), hd_ag h n (by omega)]
  exact e n hn
theorem TX.ag {S S' : Mem} {o s : Nat} (h : TX S o s) (h2 : S' o 2 = S o 2) (h3 : S' o 3 = S o 3) (hs : ∀ i, i < 60 → S' s i = S s i) : TX S' o s := by
  unfold TX
  rw [h2, h3]
  rcases h with h | ⟨h, L, e, k⟩
  · exact Or.inl h
  · exact Or.inr ⟨h, L, e, okp_ag hs k⟩
theorem MT.ag {ρ ρ' : Nat → Int32} {a : Nat} (ha : a ≤ 265) {S S' : Mem} {o s : Nat} (h : MT ρ a S o s) (hr : ∀ x, x < 386 → ρ' x = ρ x) (h2 : S' o 2 = S o 2) (h3 : S' o 3 = S o 3) (hs : ∀ i, i < 60 → S' s i = S s i) : MT ρ' a S' o s := by
  unfold MT
  rw [h2, h3, hr a (by omega)]
  rcases h with h | ⟨h, L, e, k, f, g⟩
  · exact Or.inl h
  · have hL := k.2.1
    exact Or.inr ⟨h, L, e, okp_ag hs k, f, fun i hi => by rw [hs i (by omega), hr _ (by omega), hr _ (by omega)]; exact g i hi⟩
theorem WF.ag {S S' : Mem} (w : WF S) (h : Ag S' S) : WF S' := by
  obtain ⟨a, b, d, e, f, g, i, j⟩ := w
  obtain ⟨⟨a1, a2⟩, b1, d1, ⟨e1, e2, e3, e4, e5, e6, e7, e8, e9⟩, f1, g1, ⟨i1, i2, i3⟩, ⟨j1, j2, j3⟩⟩ := h
  unfold WF
  rw [a1, a2, e1, e2, e3, e4, e5, e6, e7, e8]
  refine ⟨a, fun i hi => ?_, fun i hi => ?_, e, f, fun i hi => ?_, i.ag i1 i2 i3, j.ag j1 j2 j3⟩
  · obtain ⟨p, q, r, s⟩ := b1 i hi
    rw [p, q, r, s]; exact b i hi
  · obtain ⟨p, q, r, s, t⟩ := d1 i hi
    rw [p, q, r, s, t]; exact d i hi
  · rw [f1 i hi]; exact g i hi
theorem RM.ag {ρ ρ' : Nat → Int32} {S S' : Mem} (m : RM ρ S) (hr : ∀ x, x < 386 → ρ' x = ρ x) (h : Ag S' S) : RM ρ' S' := by
  obtain ⟨a, b, d, e, f, g, i, j⟩ := m
  obtain ⟨⟨a1, a2⟩, b1, d1, ⟨e1, e2, e3, e4, e5, e6, e7, e8, e9⟩, f1, g1, ⟨i1, i2, i3⟩, ⟨j1, j2, j3⟩⟩ := h
  unfold RM
  rw [a1, a2, e1, e2, e3, e4, e5, e6, e7, e8, e9, hr 0 (by omega), hr 1 (by omega), hr 2 (by omega), hr 3 (by omega), hr 4 (by omega), hr 5 (by omega), hr 6 (by omega), hr 7 (by omega), hr 8 (by omega), hr 9 (by omega), hr 10 (by omega)]
  refine ⟨a, b, fun i hi => ?_, fun i hi => ?_, fun i hi => ?_, fun i hi => ?_, i.ag (by omega) hr i1 i2 i3, j.ag (by omega) hr j1 j2 j3⟩
  · obtain ⟨p, q, r, s⟩ := b1 i hi
    rw [p, q, r, s, hr _ (by omega), hr _ (by omega), hr _ (by omega), hr _ (by omega)]; exact d i hi
  · obtain ⟨p, q, r, s, t⟩ := d1 i hi
    rw [p, q, r, s, t, hr _ (by omega), hr _ (by omega), hr _ (by omega), hr _ (by omega), hr _ (by omega)]; exact e i hi
  · rw [f1 i hi, hr _ (by omega)]; exact f i hi
  · rw [g1 i hi, hr _ (by omega)]; exact g i hi
theorem ok_6 (f : Nat → Int32) : okc false 0 0 6 6 6 f = true := by
  unfold okc
  rw [Bool.and_eq_true]
  exact ⟨by decide, List.all_eq_true.mpr fun _ _ => rfl⟩
theorem ok_5 (f : Nat → Int32) : okc false 0 0 5 5 5 f = true := by
  unfold okc
  rw [Bool.and_eq_true]
  exact ⟨by decide, List.all_eq_true.mpr fun _ _ => rfl⟩
theorem ok_24 (f : Nat → Int32) : okc false 0 0 24 24 24 f = true := by
  unfold okc
  rw [Bool.and_eq_true]
  exact ⟨by decide, List.all_eq_true.mpr fun _ _ => rfl⟩
theorem ok_60 (f : Nat → Int32) : okc false 0 0 60 60 60 f = true := by
  unfold okc
  rw [Bool.and_eq_true]
  exact ⟨by decide, List.all_eq_true.mpr fun _ _ => rfl⟩
theorem ok_60b {f : Nat → Int32} (h : ∀ i, i < 60 → fits .byte (.int (f i)) = true) : okc true 0 0 60 60 60 f = true := by
  unfold okc
  rw [Bool.and_eq_true]
  refine ⟨by decide, List.all_eq_true.mpr fun i hi => ?_⟩
  have hi := List.mem_range.mp hi
  have e : (0 : Int32).toNatClampNeg + i = i := Nat.zero_add i
  rw [e]
  exact h i hi
theorem cpy_lt {f g : Nat → Int32} {n i : Nat} (h : i < n) : va_cpy f g 0 0 n i = f i := by
  unfold va_cpy
  rw [if_pos ⟨Nat.zero_le _, by omega⟩, Nat.sub_zero, Nat.zero_add]
theorem tk0_20 (σ : Mem) : ∃ σ', f_X0_takes_22_2 σ = some (0, σ') ∧ (∀ k, ¬ (22 ≤ k ∧ k ≤ 26) → σ' k = σ k) ∧ σ' 22 4 = σ 2 4 ∧ ∀ i, i < 6 → σ' 23 i = σ 3 i ∧ σ' 24 i = σ 4 i ∧ σ' 25 i = σ 5 i ∧ σ' 26 i = σ 6 i := by
  refine ⟨_, by rw [f_X0_takes_22_2, gt_of (ok_6 _), nm_mk, gt_of (ok_6 _), nm_mk, gt_of (ok_6 _), nm_mk, gt_of (ok_6 _), nm_mk, nm_mk, nm_mk], fun k hk => ?_, ?_, fun i hi => ?_⟩
  · rw [mset_ne (by omega), mrow_ne (by omega), mrow_ne (by omega), mrow_ne (by omega), mrow_ne (by omega)]
  · rw [mset_at, mrow_ne (by decide), mrow_ne (by decide), mrow_ne (by decide), mrow_ne (by decide)]
  · refine ⟨?_, ?_, ?_, ?_⟩
    · rw [mset_ne (by decide), mrow_ne (by decide), mrow_ne (by decide), mrow_ne (by decide), mrow_eq]
      exact cpy_lt hi
    · rw [mset_ne (by decide), mrow_ne (by decide), mrow_ne (by decide), mrow_eq, mrow_ne (k' := 4) (by decide)]
      exact cpy_lt hi
    · rw [mset_ne (by decide), mrow_ne (by decide), mrow_eq, mrow_ne (k' := 5) (by decide), mrow_ne (k' := 5) (by decide)]
      exact cpy_lt hi
    · rw [mset_ne (by decide), mrow_eq, mrow_ne (k' := 6) (by decide), mrow_ne (k' := 6) (by decide), mrow_ne (k' := 6) (by decide)]
      exact cpy_lt hi
theorem tk2_20 (σ : Mem) : ∃ σ', f_X2_takes_27_7 σ = some (0, σ') ∧ (∀ k, ¬ (27 ≤ k ∧ k ≤ 32) → σ' k = σ k) ∧ σ' 27 5 = σ 7 5 ∧ ∀ i, i < 5 → σ' 28 i = σ 8 i ∧ σ' 29 i = σ 9 i ∧ σ' 30 i = σ 10 i ∧ σ' 31 i = σ 11 i ∧ σ' 32 i = σ 12 i := by
  refine ⟨_, by rw [f_X2_takes_27_7, gt_of (ok_5 _), nm_mk, gt_of (ok_5 _), nm_mk, gt_of (ok_5 _), nm_mk, gt_of (ok_5 _), nm_mk, gt_of (ok_5 _), nm_mk, nm_mk, nm_mk], fun k hk => ?_, ?_, fun i hi => ?_⟩
  · rw [mset_ne (by omega), mrow_ne (by omega), mrow_ne (by omega), mrow_ne (by omega), mrow_ne (by omega), mrow_ne (by omega)]
  · rw [mset_at, mrow_ne (by decide), mrow_ne (by decide), mrow_ne (by decide), mrow_ne (by decide), mrow_ne (by decide)]
  · refine ⟨?_, ?_, ?_, ?_, ?_⟩
    · rw [mset_ne (by decide), mrow_ne (by decide), mrow_ne (by decide), mrow_ne (by decide), mrow_ne (by decide), mrow_eq]
      exact cpy_lt hi
    · rw [mset_ne (by decide), mrow_ne (by decide), mrow_ne (by decide), mrow_ne (by decide), mrow_eq, mrow_ne (k' := 9) (by decide)]
      exact cpy_lt hi
    · rw [mset_ne (by decide), mrow_ne (by decide), mrow_ne (by decide), mrow_eq, mrow_ne (k' := 10) (by decide), mrow_ne (k' := 10) (by decide)]
      exact cpy_lt hi
    · rw [mset_ne (by decide), mrow_ne (by decide), mrow_eq, mrow_ne (k' := 11) (by decide), mrow_ne (k' := 11) (by decide), mrow_ne (k' := 11) (by decide)]
      exact cpy_lt hi
    · rw [mset_ne (by decide), mrow_eq, mrow_ne (k' := 12) (by decide), mrow_ne (k' := 12) (by decide), mrow_ne (k' := 12) (by decide), mrow_ne (k' := 12) (by decide)]
      exact cpy_lt hi
theorem tk0_0 (σ : Mem) : ∃ σ', f_X0_takes_2_22 σ = some (0, σ') ∧ (∀ k, ¬ (2 ≤ k ∧ k ≤ 6) → σ' k = σ k) ∧ σ' 2 4 = σ 22 4 ∧ ∀ i, i < 6 → σ' 3 i = σ 23 i ∧ σ' 4 i = σ 24 i ∧ σ' 5 i = σ 25 i ∧ σ' 6 i = σ 26 i := by
  refine ⟨_, by rw [f_X0_takes_2_22, gt_of (ok_6 _), nm_mk, gt_of (ok_6 _), nm_mk, gt_of (ok_6 _), nm_mk, gt_of (ok_6 _), nm_mk, nm_mk, nm_mk], fun k hk => ?_, ?_, fun i hi => ?_⟩
  · rw [mset_ne (by omega), mrow_ne (by omega), mrow_ne (by omega), mrow_ne (by omega), mrow_ne (by omega)]
  · rw [mset_at, mrow_ne (by decide), mrow_ne (by decide), mrow_ne (by decide), mrow_ne (by decide)]
  · refine ⟨?_, ?_, ?_, ?_⟩
    · rw [mset_ne (by decide), mrow_ne (by decide), mrow_ne (by decide), mrow_ne (by decide), mrow_eq]
      exact cpy_lt hi
    · rw [mset_ne (by decide), mrow_ne (by decide), mrow_ne (by decide), mrow_eq, mrow_ne (k' := 24) (by decide)]
      exact cpy_lt hi
    · rw [mset_ne (by decide), mrow_ne (by decide), mrow_eq, mrow_ne (k' := 25) (by decide), mrow_ne (k' := 25) (by decide)]
      exact cpy_lt hi
    · rw [mset_ne (by decide), mrow_eq, mrow_ne (k' := 26) (by decide), mrow_ne (k' := 26) (by decide), mrow_ne (k' := 26) (by decide)]
      exact cpy_lt hi
theorem tk2_0 (σ : Mem) : ∃ σ', f_X2_takes_7_27 σ = some (0, σ') ∧ (∀ k, ¬ (7 ≤ k ∧ k ≤ 12) → σ' k = σ k) ∧ σ' 7 5 = σ 27 5 ∧ ∀ i, i < 5 → σ' 8 i = σ 28 i ∧ σ' 9 i = σ 29 i ∧ σ' 10 i = σ 30 i ∧ σ' 11 i = σ 31 i ∧ σ' 12 i = σ 32 i := by
  refine ⟨_, by rw [f_X2_takes_7_27, gt_of (ok_5 _), nm_mk, gt_of (ok_5 _), nm_mk, gt_of (ok_5 _), nm_mk, gt_of (ok_5 _), nm_mk, gt_of (ok_5 _), nm_mk, nm_mk, nm_mk], fun k hk => ?_, ?_, fun i hi => ?_⟩
  · rw [mset_ne (by omega), mrow_ne (by omega), mrow_ne (by omega), mrow_ne (by omega), mrow_ne (by omega), mrow_ne (by omega)]
  · rw [mset_at, mrow_ne (by decide), mrow_ne (by decide), mrow_ne (by decide), mrow_ne (by decide), mrow_ne (by decide)]
  · refine ⟨?_, ?_, ?_, ?_, ?_⟩
    · rw [mset_ne (by decide), mrow_ne (by decide), mrow_ne (by decide), mrow_ne (by decide), mrow_ne (by decide), mrow_eq]
      exact cpy_lt hi
    · rw [mset_ne (by decide), mrow_ne (by decide), mrow_ne (by decide), mrow_ne (by decide), mrow_eq, mrow_ne (k' := 29) (by decide)]
      exact cpy_lt hi
    · rw [mset_ne (by decide), mrow_ne (by decide), mrow_ne (by decide), mrow_eq, mrow_ne (k' := 30) (by decide), mrow_ne (k' := 30) (by decide)]
      exact cpy_lt hi
    · rw [mset_ne (by decide), mrow_ne (by decide), mrow_eq, mrow_ne (k' := 31) (by decide), mrow_ne (k' := 31) (by decide), mrow_ne (k' := 31) (by decide)]
      exact cpy_lt hi
    · rw [mset_ne (by decide), mrow_eq, mrow_ne (k' := 32) (by decide), mrow_ne (k' := 32) (by decide), mrow_ne (k' := 32) (by decide), mrow_ne (k' := 32) (by decide)]
      exact cpy_lt hi
theorem tk5_33_13 (σ : Mem) (hb : σ 13 3 = 0 ∨ σ 13 3 = 1) : ∃ σ', f_X5_takes_33_13 σ = some (0, σ') ∧ (∀ k, ¬ k = 33 → ¬ k = 34 → σ' k = σ k) ∧ σ' 33 2 = σ 13 2 ∧ σ' 33 3 = σ 13 3 ∧ ∀ i, i < 60 → σ' 34 i = σ 14 i := by
  refine ⟨mset (mset (mrow σ 34 (va_cpy (σ 14) (σ 34) 0 0 60)) 33 2 (σ 13 2)) 33 3 (σ 13 3), ?_, fun k h1 h2 => ?_, ?_, mset_at, fun i hi => ?_⟩
  · rw [f_X5_takes_33_13, gt_of (ok_60 _), nm_mk, nm_mk, nm_mk, nm_mk, mset_ne (k' := 13) (by decide), mrow_ne (k' := 13) (by decide), gb_of hb, nm_mk]
    rfl
  · rw [mset_ne h1, mset_ne h1, mrow_ne h2]
  · rw [mset_eq, upd_no (by decide), mset_at]
  · rw [mset_ne (by decide), mset_ne (by decide), mrow_eq]
    exact cpy_lt hi
theorem tk5_36_16 (σ : Mem) (hb : σ 16 3 = 0 ∨ σ 16 3 = 1) : ∃ σ', f_X5_takes_36_16 σ = some (0, σ') ∧ (∀ k, ¬ k = 36 → ¬ k = 37 → σ' k = σ k) ∧ σ' 36 2 = σ 16 2 ∧ σ' 36 3 = σ 16 3 ∧ ∀ i, i < 60 → σ' 37 i = σ 17 i := by
  refine ⟨mset (mset (mrow σ 37 (va_cpy (σ 17) (σ 37) 0 0 60)) 36 2 (σ 16 2)) 36 3 (σ 16 3), ?_, fun k h1 h2 => ?_, ?_, mset_at, fun i hi => ?_⟩
  · rw [f_X5_takes_36_16, gt_of (ok_60 _), nm_mk, nm_mk, nm_mk, nm_mk, mset_ne (k' := 16) (by decide), mrow_ne (k' := 16) (by decide), gb_of hb, nm_mk]
    rfl
  · rw [mset_ne h1, mset_ne h1, mrow_ne h2]
  · rw [mset_eq, upd_no (by decide), mset_at]
  · rw [mset_ne (by decide), mset_ne (by decide), mrow_eq]
    exact cpy_lt hi
theorem tk5_13_33 (σ : Mem) (hb : σ 33 3 = 0 ∨ σ 33 3 = 1) : ∃ σ', f_X5_takes_13_33 σ = some (0, σ') ∧ (∀ k, ¬ k = 13 → ¬ k = 14 → σ' k = σ k) ∧ σ' 13 2 = σ 33 2 ∧ σ' 13 3 = σ 33 3 ∧ ∀ i, i < 60 → σ' 14 i = σ 34 i := by
  refine ⟨mset (mset (mrow σ 14 (va_cpy (σ 34) (σ 14) 0 0 60)) 13 2 (σ 33 2)) 13 3 (σ 33 3), ?_, fun k h1 h2 => ?_, ?_, mset_at, fun i hi => ?_⟩
  · rw [f_X5_takes_13_33, gt_of (ok_60 _), nm_mk, nm_mk, nm_mk, nm_mk, mset_ne (k' := 33) (by decide), mrow_ne (k' := 33) (by decide), gb_of hb, nm_mk]
    rfl
  · rw [mset_ne h1, mset_ne h1, mrow_ne h2]
  · rw [mset_eq, upd_no (by decide), mset_at]
  · rw [mset_ne (by decide), mset_ne (by decide), mrow_eq]
    exact cpy_lt hi
theorem tk5_16_36 (σ : Mem) (hb : σ 36 3 = 0 ∨ σ 36 3 = 1) : ∃ σ', f_X5_takes_16_36 σ = some (0, σ') ∧ (∀ k, ¬ k = 16 → ¬ k = 17 → σ' k = σ k) ∧ σ' 16 2 = σ 36 2 ∧ σ' 16 3 = σ 36 3 ∧ ∀ i, i < 60 → σ' 17 i = σ 37 i := by
  refine ⟨mset (mset (mrow σ 17 (va_cpy (σ 37) (σ 17) 0 0 60)) 16 2 (σ 36 2)) 16 3 (σ 36 3), ?_, fun k h1 h2 => ?_, ?_, mset_at, fun i hi => ?_⟩
  · rw [f_X5_takes_16_36, gt_of (ok_60 _), nm_mk, nm_mk, nm_mk, nm_mk, mset_ne (k' := 36) (by decide), mrow_ne (k' := 36) (by decide), gb_of hb, nm_mk]
    rfl
  · rw [mset_ne h1, mset_ne h1, mrow_ne h2]
  · rw [mset_eq, upd_no (by decide), mset_at]
  · rw [mset_ne (by decide), mset_ne (by decide), mrow_eq]
    exact cpy_lt hi
theorem tk3_20 (σ : Mem) (hf : ∀ i, i < 60 → fits .byte (.int (σ 19 i)) = true) (h13 : σ 13 3 = 0 ∨ σ 13 3 = 1) (h16 : σ 16 3 = 0 ∨ σ 16 3 = 1) : ∃ σ', f_X3_takes_21_1 σ = some (0, σ') ∧ (∀ k, ¬ (21 ≤ k ∧ k ≤ 40) → σ' k = σ k) ∧ Ag (fun k => σ' (k + 20)) (fun k => σ (k + 0)) := by
  obtain ⟨μ2, r0, k0, p4, p⟩ := tk0_20 σ
  obtain ⟨μ4, r2, k2, q5, q⟩ := tk2_20 μ2
  obtain ⟨μ6, r5, k5, t2, t3, t⟩ := tk5_33_13 μ4 (by rw [k2 _ (by omega), k0 _ (by omega)]; exact h13)
  obtain ⟨μ8, r6, k6, u2, u3, u⟩ := tk5_36_16 μ6 (by rw [k5 _ (by omega) (by omega), k2 _ (by omega), k0 _ (by omega)]; exact h16)
  have e : ∀ k, ¬ (22 ≤ k ∧ k ≤ 37) → μ8 k = σ k := fun k hk => by rw [k6 k (by omega) (by omega), k5 k (by omega) (by omega), k2 k (by omega), k0 k (by omega)]
  refine ⟨mset (mset (mset (mset (mset (mset (mset (mset (mrow (mset (mrow μ8 39 (va_cpy (σ 19) (μ8 39) 0 0 60)) 21 5 (σ 1 5)) 40 (va_cpy (σ 20) (μ8 40) 0 0 24)) 21 7 (σ 1 7)) 21 8 (σ 1 8)) 21 9 (σ 1 9)) 21 10 (σ 1 10)) 21 11 (σ 1 11)) 21 12 (σ 1 12)) 21 13 (σ 1 13)) 21 14 (σ 1 14), ?_, fun k hk => ?_, ?_⟩
  · have e1 : μ8 1 = σ 1 := e _ (by omega)
    have e19 : μ8 19 = σ 19 := e _ (by omega)
    have e20 : μ8 20 = σ 20 := e _ (by omega)
    have a1 : ∀ (μ : Mem) j v, mset μ 21 j v 1 = μ 1 := fun μ j v => mset_ne (by decide)
    have a2 : ∀ (μ : Mem) f, mrow μ 39 f 1 = μ 1 := fun μ f => mrow_ne (by decide)
    have a3 : ∀ (μ : Mem) f, mrow μ 40 f 1 = μ 1 := fun μ f => mrow_ne (by decide)
    have a4 : ∀ (μ : Mem) j v, mset μ 21 j v 20 = μ 20 := fun μ j v => mset_ne (by decide)
    have a5 : ∀ (μ : Mem) f, mrow μ 39 f 20 = μ 20 := fun μ f => mrow_ne (by decide)
    have a6 : ∀ (μ : Mem) j v, mset μ 21 j v 40 = μ 40 := fun μ j v => mset_ne (by decide)
    have a7 : ∀ (μ : Mem) f, mrow μ 39 f 40 = μ 40 := fun μ f => mrow_ne (by decide)
    rw [f_X3_takes_21_1, r0, bd_mk, r2, bd_mk, r5, bd_mk, r6, bd_mk, gt_of (ok_60b (by rw [e19]; exact hf)), nm_mk, nm_mk, nm_mk, gt_of (ok_24 _)]
    simp only [nm_mk, a1, a2, a3, a4, a5, a6, a7, e1, e19, e20]
    rfl
  · rw [mset_ne (by omega), mset_ne (by omega), mset_ne (by omega), mset_ne (by omega), mset_ne (by omega), mset_ne (by omega), mset_ne (by omega), mset_ne (by omega), mrow_ne (by omega), mset_ne (by omega), mrow_ne (by omega), e k (by omega)]
  · have c : ∀ k, ¬ k = 21 → ¬ k = 39 → ¬ k = 40 → mset (mset (mset (mset (mset (mset (mset (mset (mrow (mset (mrow μ8 39 (va_cpy (σ 19) (μ8 39) 0 0 60)) 21 5 (σ 1 5)) 40 (va_cpy (σ 20) (μ8 40) 0 0 24)) 21 7 (σ 1 7)) 21 8 (σ 1 8)) 21 9 (σ 1 9)) 21 10 (σ 1 10)) 21 11 (σ 1 11)) 21 12 (σ 1 12)) 21 13 (σ 1 13)) 21 14 (σ 1 14) k = μ8 k := fun k h1 h2 h3 => by rw [mset_ne h1, mset_ne h1, mset_ne h1, mset_ne h1, mset_ne h1, mset_ne h1, mset_ne h1, mset_ne h1, mrow_ne h3, mset_ne h1, mrow_ne h2]
    have d : ∀ k, (22 ≤ k ∧ k ≤ 26) → μ8 k = μ2 k := fun k hk => by rw [k6 k (by omega) (by omega), k5 k (by omega) (by omega), k2 k (by omega)]
    have d2 : ∀ k, (27 ≤ k ∧ k ≤ 32) → μ8 k = μ4 k := fun k hk => by rw [k6 k (by omega) (by omega), k5 k (by omega) (by omega)]
    have f2 : ∀ k, ¬ (22 ≤ k ∧ k ≤ 26) → μ2 k = σ k := k0
    have f4 : ∀ k, ¬ (22 ≤ k ∧ k ≤ 32) → μ4 k = σ k := fun k hk => by rw [k2 k (by omega), k0 k (by omega)]
    have f6 : ∀ k, ¬ (22 ≤ k ∧ k ≤ 34) → μ6 k = σ k := fun k hk => by rw [k5 k (by omega) (by omega), f4 k (by omega)]
    refine ⟨⟨?_, ?_⟩, fun i hi => ⟨?_, ?_, ?_, ?_⟩, fun i hi => ⟨?_, ?_, ?_, ?_, ?_⟩, ⟨?_, ?_, ?_, ?_, ?_, ?_, ?_, ?_, ?_⟩, fun i hi => ?_, fun i hi => ?_, ⟨?_, ?_, fun i hi => ?_⟩, ⟨?_, ?_, fun i hi => ?_⟩⟩
    · show mset _ _ _ _ 22 4 = _
      rw [c _ (by decide) (by decide) (by decide), d _ (by omega), p4]
    · show mset _ _ _ _ 27 5 = _
      rw [c _ (by decide) (by decide) (by decide), d2 _ (by omega), q5, f2 _ (by omega)]
    · show mset _ _ _ _ 23 i = _
      rw [c _ (by decide) (by decide) (by decide), d _ (by omega), (p i hi).1]
    · show mset _ _ _ _ 24 i = _
      rw [c _ (by decide) (by decide) (by decide), d _ (by omega), (p i hi).2.1]
    · show mset _ _ _ _ 25 i = _
      rw [c _ (by decide) (by decide) (by decide), d _ (by omega), (p i hi).2.2.1]
    · show mset _ _ _ _ 26 i = _
      rw [c _ (by decide) (by decide) (by decide), d _ (by omega), (p i hi).2.2.2]
    · show mset _ _ _ _ 28 i = _
      rw [c _ (by decide) (by decide) (by decide), d2 _ (by omega), (q i hi).1, f2 _ (by omega)]
    · show mset _ _ _ _ 29 i = _
      rw [c _ (by decide) (by decide) (by decide), d2 _ (by omega), (q i hi).2.1, f2 _ (by omega)]
    · show mset _ _ _ _ 30 i = _
      rw [c _ (by decide) (by decide) (by decide), d2 _ (by omega), (q i hi).2.2.1, f2 _ (by omega)]
    · show mset _ _ _ _ 31 i = _
      rw [c _ (by decide) (by decide) (by decide), d2 _ (by omega), (q i hi).2.2.2.1, f2 _ (by omega)]
    · show mset _ _ _ _ 32 i = _
      rw [c _ (by decide) (by decide) (by decide), d2 _ (by omega), (q i hi).2.2.2.2, f2 _ (by omega)]
    · show mset _ _ _ _ 21 5 = σ 1 5
      simp [mset, mrow, upd]
    · show mset _ _ _ _ 21 7 = σ 1 7
      simp [mset, mrow, upd]
    · show mset _ _ _ _ 21 8 = σ 1 8
      simp [mset, mrow, upd]
    · show mset _ _ _ _ 21 9 = σ 1 9
      simp [mset, mrow, upd]
    · show mset _ _ _ _ 21 10 = σ 1 10
      simp [mset, mrow, upd]
    · show mset _ _ _ _ 21 11 = σ 1 11
      simp [mset, mrow, upd]
    · show mset _ _ _ _ 21 12 = σ 1 12
      simp [mset, mrow, upd]
    · show mset _ _ _ _ 21 13 = σ 1 13
      simp [mset, mrow, upd]
    · show mset _ _ _ _ 21 14 = σ 1 14
      simp [mset, mrow, upd]
    · show mset _ _ _ _ 39 i = σ 19 i
      rw [mset_ne (by decide), mset_ne (by decide), mset_ne (by decide), mset_ne (by decide), mset_ne (by decide), mset_ne (by decide), mset_ne (by decide), mset_ne (by decide), mrow_ne (by decide), mset_ne (by decide), mrow_eq, cpy_lt hi]
    · show mset _ _ _ _ 40 i = σ 20 i
      rw [mset_ne (by decide), mset_ne (by decide), mset_ne (by decide), mset_ne (by decide), mset_ne (by decide), mset_ne (by decide), mset_ne (by decide), mset_ne (by decide), mrow_eq, cpy_lt hi]
    · show mset _ _ _ _ 33 2 = _
      rw [c _ (by decide) (by decide) (by decide), k6 _ (by omega) (by omega), t2, f4 _ (by omega)]
    · show mset _ _ _ _ 33 3 = _
      rw [c _ (by decide) (by decide) (by decide), k6 _ (by omega) (by omega), t3, f4 _ (by omega)]
    · show mset _ _ _ _ 34 i = _
      rw [c _ (by decide) (by decide) (by decide), k6 _ (by omega) (by omega), t i hi, f4 _ (by omega)]
    · show mset _ _ _ _ 36 2 = _
      rw [c _ (by decide) (by decide) (by decide), u2, f6 _ (by omega)]
    · show mset _ _ _ _ 36 3 = _
      rw [c _ (by decide) (by decide) (by decide), u3, f6 _ (by omega)]
    · show mset _ _ _ _ 37 i = _
      rw [c _ (by decide) (by decide) (by decide), u i hi, f6 _ (by omega)]
theorem tk3_0 (σ : Mem) (hf : ∀ i, i < 60 → fits .byte (.int (σ 39 i)) = true) (h13 : σ 33 3 = 0 ∨ σ 33 3 = 1) (h16 : σ 36 3 = 0 ∨ σ 36 3 = 1) : ∃ σ', f_X3_takes_1_21 σ = some (0, σ') ∧ (∀ k, ¬ (1 ≤ k ∧ k ≤ 20) → σ' k = σ k) ∧ Ag (fun k => σ' (k + 0)) (fun k => σ (k + 20)) := by
  obtain ⟨μ2, r0, k0, p4, p⟩ := tk0_0 σ
  obtain ⟨μ4, r2, k2, q5, q⟩ := tk2_0 μ2
  obtain ⟨μ6, r5, k5, t2, t3, t⟩ := tk5_13_33 μ4 (by rw [k2 _ (by omega), k0 _ (by omega)]; exact h13)
  obtain ⟨μ8, r6, k6, u2, u3, u⟩ := tk5_16_36 μ6 (by rw [k5 _ (by omega) (by omega), k2 _ (by omega), k0 _ (by omega)]; exact h16)
  have e : ∀ k, ¬ (2 ≤ k ∧ k ≤ 17) → μ8 k = σ k := fun k hk => by rw [k6 k (by omega) (by omega), k5 k (by omega) (by omega), k2 k (by omega), k0 k (by omega)]
  refine ⟨mset (mset (mset (mset (mset (mset (mset (mset (mrow (mset (mrow μ8 19 (va_cpy (σ 39) (μ8 19) 0 0 60)) 1 5 (σ 21 5)) 20 (va_cpy (σ 40) (μ8 20) 0 0 24)) 1 7 (σ 21 7)) 1 8 (σ 21 8)) 1 9 (σ 21 9)) 1 10 (σ 21 10)) 1 11 (σ 21 11)) 1 12 (σ 21 12)) 1 13 (σ 21 13)) 1 14 (σ 21 14), ?_, fun k hk => ?_, ?_⟩
  · have e1 : μ8 21 = σ 21 := e _ (by omega)
    have e19 : μ8 39 = σ 39 := e _ (by omega)
    have e20 : μ8 40 = σ 40 := e _ (by omega)
    have a1 : ∀ (μ : Mem) j v, mset μ 1 j v 21 = μ 21 := fun μ j v => mset_ne (by decide)
    have a2 : ∀ (μ : Mem) f, mrow μ 19 f 21 = μ 21 := fun μ f => mrow_ne (by decide)
    have a3 : ∀ (μ : Mem) f, mrow μ 20 f 21 = μ 21 := fun μ f => mrow_ne (by decide)
    have a4 : ∀ (μ : Mem) j v, mset μ 1 j v 40 = μ 40 := fun μ j v => mset_ne (by decide)
    have a5 : ∀ (μ : Mem) f, mrow μ 19 f 40 = μ 40 := fun μ f => mrow_ne (by decide)
    have a6 : ∀ (μ : Mem) j v, mset μ 1 j v 20 = μ 20 := fun μ j v => mset_ne (by decide)
    have a7 : ∀ (μ : Mem) f, mrow μ 19 f 20 = μ 20 := fun μ f => mrow_ne (by decide)
    rw [f_X3_takes_1_21, r0, bd_mk, r2, bd_mk, r5, bd_mk, r6, bd_mk, gt_of (ok_60b (by rw [e19]; exact hf)), nm_mk, nm_mk, nm_mk, gt_of (ok_24 _)]
    simp only [nm_mk, a1, a2, a3, a4, a5, a6, a7, e1, e19, e20]
    rfl
  · rw [mset_ne (by omega), mset_ne (by omega), mset_ne (by omega), mset_ne (by omega), mset_ne (by omega), mset_ne (by omega), mset_ne (by omega), mset_ne (by omega), mrow_ne (by omega), mset_ne (by omega), mrow_ne (by omega), e k (by omega)]
  · have c : ∀ k, ¬ k = 1 → ¬ k = 19 → ¬ k = 20 → mset (mset (mset (mset (mset (mset (mset (mset (mrow (mset (mrow μ8 19 (va_cpy (σ 39) (μ8 19) 0 0 60)) 1 5 (σ 21 5)) 20 (va_cpy (σ 40) (μ8 20) 0 0 24)) 1 7 (σ 21 7)) 1 8 (σ 21 8)) 1 9 (σ 21 9)) 1 10 (σ 21 10)) 1 11 (σ 21 11)) 1 12 (σ 21 12)) 1 13 (σ 21 13)) 1 14 (σ 21 14) k = μ8 k := fun k h1 h2 h3 => by rw [mset_ne h1, mset_ne h1, mset_ne h1, mset_ne h1, mset_ne h1, mset_ne h1, mset_ne h1, mset_ne h1, mrow_ne h3, mset_ne h1, mrow_ne h2]
    have d : ∀ k, (2 ≤ k ∧ k ≤ 6) → μ8 k = μ2 k := fun k hk => by rw [k6 k (by omega) (by omega), k5 k (by omega) (by omega), k2 k (by omega)]
    have d2 : ∀ k, (7 ≤ k ∧ k ≤ 12) → μ8 k = μ4 k := fun k hk => by rw [k6 k (by omega) (by omega), k5 k (by omega) (by omega)]
    have f2 : ∀ k, ¬ (2 ≤ k ∧ k ≤ 6) → μ2 k = σ k := k0
    have f4 : ∀ k, ¬ (2 ≤ k ∧ k ≤ 12) → μ4 k = σ k := fun k hk => by rw [k2 k (by omega), k0 k (by omega)]
    have f6 : ∀ k, ¬ (2 ≤ k ∧ k ≤ 14) → μ6 k = σ k := fun k hk => by rw [k5 k (by omega) (by omega), f4 k (by omega)]
    refine ⟨⟨?_, ?_⟩, fun i hi => ⟨?_, ?_, ?_, ?_⟩, fun i hi => ⟨?_, ?_, ?_, ?_, ?_⟩, ⟨?_, ?_, ?_, ?_, ?_, ?_, ?_, ?_, ?_⟩, fun i hi => ?_, fun i hi => ?_, ⟨?_, ?_, fun i hi => ?_⟩, ⟨?_, ?_, fun i hi => ?_⟩⟩
    · show mset _ _ _ _ 2 4 = _
      rw [c _ (by decide) (by decide) (by decide), d _ (by omega), p4]
    · show mset _ _ _ _ 7 5 = _
      rw [c _ (by decide) (by decide) (by decide), d2 _ (by omega), q5, f2 _ (by omega)]
    · show mset _ _ _ _ 3 i = _
      rw [c _ (by decide) (by decide) (by decide), d _ (by omega), (p i hi).1]
    · show mset _ _ _ _ 4 i = _
      rw [c _ (by decide) (by decide) (by decide), d _ (by omega), (p i hi).2.1]
    · show mset _ _ _ _ 5 i = _
      rw [c _ (by decide) (by decide) (by decide), d _ (by omega), (p i hi).2.2.1]
    · show mset _ _ _ _ 6 i = _
      rw [c _ (by decide) (by decide) (by decide), d _ (by omega), (p i hi).2.2.2]
    · show mset _ _ _ _ 8 i = _
      rw [c _ (by decide) (by decide) (by decide), d2 _ (by omega), (q i hi).1, f2 _ (by omega)]
    · show mset _ _ _ _ 9 i = _
      rw [c _ (by decide) (by decide) (by decide), d2 _ (by omega), (q i hi).2.1, f2 _ (by omega)]
    · show mset _ _ _ _ 10 i = _
      rw [c _ (by decide) (by decide) (by decide), d2 _ (by omega), (q i hi).2.2.1, f2 _ (by omega)]
    · show mset _ _ _ _ 11 i = _
      rw [c _ (by decide) (by decide) (by decide), d2 _ (by omega), (q i hi).2.2.2.1, f2 _ (by omega)]
    · show mset _ _ _ _ 12 i = _
      rw [c _ (by decide) (by decide) (by decide), d2 _ (by omega), (q i hi).2.2.2.2, f2 _ (by omega)]
    · show mset _ _ _ _ 1 5 = σ 21 5
      simp [mset, mrow, upd]
    · show mset _ _ _ _ 1 7 = σ 21 7
      simp [mset, mrow, upd]
    · show mset _ _ _ _ 1 8 = σ 21 8
      simp [mset, mrow, upd]
    · show mset _ _ _ _ 1 9 = σ 21 9
      simp [mset, mrow, upd]
    · show mset _ _ _ _ 1 10 = σ 21 10
      simp [mset, mrow, upd]
    · show mset _ _ _ _ 1 11 = σ 21 11
      simp [mset, mrow, upd]
    · show mset _ _ _ _ 1 12 = σ 21 12
      simp [mset, mrow, upd]
    · show mset _ _ _ _ 1 13 = σ 21 13
      simp [mset, mrow, upd]
    · show mset _ _ _ _ 1 14 = σ 21 14
      simp [mset, mrow, upd]
    · show mset _ _ _ _ 19 i = σ 39 i
      rw [mset_ne (by decide), mset_ne (by decide), mset_ne (by decide), mset_ne (by decide), mset_ne (by decide), mset_ne (by decide), mset_ne (by decide), mset_ne (by decide), mrow_ne (by decide), mset_ne (by decide), mrow_eq, cpy_lt hi]
    · show mset _ _ _ _ 20 i = σ 40 i
      rw [mset_ne (by decide), mset_ne (by decide), mset_ne (by decide), mset_ne (by decide), mset_ne (by decide), mset_ne (by decide), mset_ne (by decide), mset_ne (by decide), mrow_eq, cpy_lt hi]
    · show mset _ _ _ _ 13 2 = _
      rw [c _ (by decide) (by decide) (by decide), k6 _ (by omega) (by omega), t2, f4 _ (by omega)]
    · show mset _ _ _ _ 13 3 = _
      rw [c _ (by decide) (by decide) (by decide), k6 _ (by omega) (by omega), t3, f4 _ (by omega)]
    · show mset _ _ _ _ 14 i = _
      rw [c _ (by decide) (by decide) (by decide), k6 _ (by omega) (by omega), t i hi, f4 _ (by omega)]
    · show mset _ _ _ _ 16 2 = _
      rw [c _ (by decide) (by decide) (by decide), u2, f6 _ (by omega)]
    · show mset _ _ _ _ 16 3 = _
      rw [c _ (by decide) (by decide) (by decide), u3, f6 _ (by omega)]
    · show mset _ _ _ _ 17 i = _
      rw [c _ (by decide) (by decide) (by decide), u i hi, f6 _ (by omega)]
def cpN (f g : Nat → Int32) (k : Nat) : Nat → Int32 := fun x => if x < k then f x else g x
theorem cpN_s (f g : Nat → Int32) (k : Nat) : upd (cpN f g k) k (f k) = cpN f g (k + 1) := by
  funext x
  unfold upd cpN
  by_cases h : x = k
  · subst h
    rw [if_pos rfl, if_pos (by omega)]
  · rw [if_neg h]
    by_cases h2 : x < k
    · rw [if_pos h2, if_pos (by omega)]
    · rw [if_neg h2, if_neg (by omega)]
theorem cpA_54 (fu : Nat) (τ : Mem) : ∀ k, k ≤ 386 → 386 - k < fu → f_X8_copyAll_54_55_L2 fu (nI k) (mrow τ 55 (cpN (τ 54) (τ 55) k)) = some (0, mrow τ 55 (cpN (τ 54) (τ 55) 386)) := by
  induction fu with
  | zero => intro k h1 h2; omega
  | succ fu ih =>
    intro k h1 h2
    show fb_X8_copyAll_54_55_L2 (f_X8_copyAll_54_55_L2 fu) (nI k) _ = _
    rw [fb_X8_copyAll_54_55_L2]
    by_cases h : k = 386
    · subst h
      rw [if_pos (show (386 : Int32) ≤ nI 386 from Int32.le_refl _)]
    · rw [if_neg (fun q => by have := (nI_leI (a := 386) (by omega) (by omega)).mp q; omega), gin (by omega), nm_mk, cln (by omega), gin (by omega), nm_mk, nm_mk, nI_1, mrow_ne (k' := 54) (by decide)]
      have e : mset (mrow τ 55 (cpN (τ 54) (τ 55) k)) 55 k (τ 54 k) = mrow τ 55 (cpN (τ 54) (τ 55) (k + 1)) := by
        funext q
        by_cases h : q = 55
        · subst h; rw [mset_eq, mrow_eq, mrow_eq, cpN_s]
        · rw [mset_ne h, mrow_ne h, mrow_ne h]
      rw [e]
      exact ih (k + 1) (by omega) (by omega)
theorem m_cpA_54 (τ : Mem) : f_X8_copyAll_54_55 τ = some (0, mrow τ 55 (cpN (τ 54) (τ 55) 386)) := by
  have h := cpA_54 1000 τ 0 (by omega) (by omega)
  rw [show mrow τ 55 (cpN (τ 54) (τ 55) 0) = τ from mrow_self (by funext x; exact (if_neg (Nat.not_lt_zero x)).symm)] at h
  exact h
theorem cpA_55 (fu : Nat) (τ : Mem) : ∀ k, k ≤ 386 → 386 - k < fu → f_X8_copyAll_55_54_L2 fu (nI k) (mrow τ 54 (cpN (τ 55) (τ 54) k)) = some (0, mrow τ 54 (cpN (τ 55) (τ 54) 386)) := by
  induction fu with
  | zero => intro k h1 h2; omega
  | succ fu ih =>
    intro k h1 h2
    show fb_X8_copyAll_55_54_L2 (f_X8_copyAll_55_54_L2 fu) (nI k) _ = _
    rw [fb_X8_copyAll_55_54_L2]
    by_cases h : k = 386
    · subst h
      rw [if_pos (show (386 : Int32) ≤ nI 386 from Int32.le_refl _)]
    · rw [if_neg (fun q => by have := (nI_leI (a := 386) (by omega) (by omega)).mp q; omega), gin (by omega), nm_mk, cln (by omega), gin (by omega), nm_mk, nm_mk, nI_1, mrow_ne (k' := 55) (by decide)]
      have e : mset (mrow τ 54 (cpN (τ 55) (τ 54) k)) 54 k (τ 55 k) = mrow τ 54 (cpN (τ 55) (τ 54) (k + 1)) := by
        funext q
        by_cases h : q = 54
        · subst h; rw [mset_eq, mrow_eq, mrow_eq, cpN_s]
        · rw [mset_ne h, mrow_ne h, mrow_ne h]
      rw [e]
      exact ih (k + 1) (by omega) (by omega)
theorem m_cpA_55 (τ : Mem) : f_X8_copyAll_55_54 τ = some (0, mrow τ 54 (cpN (τ 55) (τ 54) 386)) := by
  have h := cpA_55 1000 τ 0 (by omega) (by omega)
  rw [show mrow τ 54 (cpN (τ 55) (τ 54) 0) = τ from mrow_self (by funext x; exact (if_neg (Nat.not_lt_zero x)).symm)] at h
  exact h

theorem TX.b {S : Mem} {o s : Nat} (h : TX S o s) : S o 3 = 0 ∨ S o 3 = 1 := by
  rcases h with h | ⟨h, _⟩
  · exact Or.inl h
  · exact Or.inr h
theorem call_image {c : Nat} {σ : Mem} (w : Rel c σ) : Call c (fun σ => f_X7_image_0 σ) (fun σ => f_X8_image_53 σ) σ := by
  obtain ⟨σ', a, k, ag⟩ := tk3_20 σ w.1.2.2.2.2.2.1 w.1.t13.b w.1.t16.b
  obtain ⟨wf, rm, ⟨n, hn, i1, i2, i3⟩, er, sr, tr⟩ := w
  have k := fun q (h : ¬ (21 ≤ q ∧ q ≤ 40)) => k q h
  refine ⟨nI (n + 1), mset σ' 0 6 (nI (n + 1)), ?_, fun q h1 _ _ => by rw [mset_ne (by omega), k q (by omega)], mset (mrow (mset σ' 0 6 (nI (n + 1))) 55 (cpN (σ 54) (σ 55) 386)) 53 2 (nI (n + 1)), ?_, ?_⟩
  · show f_X7_image_0 σ = _
    rw [f_X7_image_0, a, bd_mk, nm_mk, k 0 (by omega), i1, nm_mk, nI_1, nm_mk, nm_mk, mset_at]
  · show f_X8_image_53 _ = _
    rw [f_X8_image_53, m_cpA_54, bd_mk, nm_mk, mrow_ne (by decide), mset_ne (by decide), k 53 (by omega), i2, nm_mk, nI_1, nm_mk, nm_mk, mset_at, mset_ne (k' := 54) (by decide), mset_ne (k' := 55) (by decide), k 54 (by omega), k 55 (by omega)]
  · have q : ∀ j, ¬ j = 0 → ¬ j = 53 → ¬ j = 55 → mset (mrow (mset σ' 0 6 (nI (n + 1))) 55 (cpN (σ 54) (σ 55) 386)) 53 2 (nI (n + 1)) j = σ' j := fun j h0 h1 h2 => by rw [mset_ne h1, mrow_ne h2, mset_ne h0]
    have q2 : ∀ j, decide (¬ j = 0 ∧ ¬ j = 53 ∧ ¬ j = 55 ∧ ¬ (21 ≤ j ∧ j ≤ 40)) = true → mset (mrow (mset σ' 0 6 (nI (n + 1))) 55 (cpN (σ 54) (σ 55) 386)) 53 2 (nI (n + 1)) j = σ j := fun j h => by
      obtain ⟨h1, h2, h3, h4⟩ := of_decide_eq_true h
      rw [q j h1 h2 h3, k j h4]
    have sc : Sc (mset (mrow (mset σ' 0 6 (nI (n + 1))) 55 (cpN (σ 54) (σ 55) 386)) 53 2 (nI (n + 1))) σ := fun j h1 h2 _ _ => by rw [q j (by omega) (by omega) (by omega), k j (by omega)]
    have ag2 : Ag (KP (mset (mrow (mset σ' 0 6 (nI (n + 1))) 55 (cpN (σ 54) (σ 55) 386)) 53 2 (nI (n + 1)))) σ := by
      unfold KP Ag
      simp only [q 21 (by decide) (by decide) (by decide), q 22 (by decide) (by decide) (by decide), q 23 (by decide) (by decide) (by decide), q 24 (by decide) (by decide) (by decide), q 25 (by decide) (by decide) (by decide), q 26 (by decide) (by decide) (by decide), q 27 (by decide) (by decide) (by decide), q 28 (by decide) (by decide) (by decide), q 29 (by decide) (by decide) (by decide), q 30 (by decide) (by decide) (by decide), q 31 (by decide) (by decide) (by decide), q 32 (by decide) (by decide) (by decide), q 33 (by decide) (by decide) (by decide), q 34 (by decide) (by decide) (by decide), q 36 (by decide) (by decide) (by decide), q 37 (by decide) (by decide) (by decide), q 39 (by decide) (by decide) (by decide), q 40 (by decide) (by decide) (by decide)]
      exact ag
    refine ⟨wf.ext sc, ?_, ⟨n + 1, by omega, ?_, ?_, Or.inr ⟨wf.ag ag2, ?_⟩⟩, ?_, ?_, ?_⟩
    · rw [q2 54 rfl]; exact rm.ext sc
    · rw [mset_ne (by decide), mrow_ne (by decide), mset_at]
    · rw [mset_at]
    · rw [mset_ne (by decide), mrow_eq]
      exact rm.ag (fun x hx => if_pos hx) ag2
    · rw [q2 52 rfl, q2 56 rfl]; exact er
    · unfold SR at *
      simp only [q2 47 rfl, q2 48 rfl, q2 49 rfl, q2 57 rfl, q2 58 rfl, q2 59 rfl]
      exact sr
    · unfold TR at *
      simp only [q2 50 rfl, q2 51 rfl, q2 64 rfl]
      rw [mset_eq, upd_no (by decide), mrow_ne (by decide), mset_ne (by decide), k 53 (by omega)]
      exact tr
theorem call_restore {c : Nat} (hc : c < 100000) {σ : Mem} (w : Rel c σ) : Call c (fun σ => f_X7_restore_0 σ) (fun σ => f_X8_restore_53 σ) σ := by
  obtain ⟨n, hn, i1, i2, i3⟩ := w.2.2.1
  by_cases h0 : n = 0
  · subst h0
    refine Call_of (Call_e2 w) ?_ (fun τ ht => ?_)
    · show f_X7_restore_0 σ = _
      rw [f_X7_restore_0, nm_mk, i1, if_pos (show nI 0 = 0 from rfl), bd_et]
    · show f_X8_restore_53 τ = _
      rw [f_X8_restore_53, nm_mk, ht 53 (by decide) (by decide) (by decide), i2, if_pos (show nI 0 = 0 from rfl), bd_et]
  · have hz : ¬ nI n = 0 := nI_ne0 (by omega) (by omega)
    obtain ⟨wk, rk⟩ : WF (KP σ) ∧ RM (σ 55) (KP σ) := by
      rcases i3 with h | h
      · exact absurd h h0
      · exact h
    obtain ⟨σ', a, k, ag⟩ := tk3_0 σ wk.2.2.2.2.2.1 wk.t13.b wk.t16.b
    have k := fun q (h : ¬ (1 ≤ q ∧ q ≤ 20)) => k q h
    have ag : Ag σ' (KP σ) := ag
    have wf : WF σ' := wk.ag ag
    have rm : RM (cpN (σ 55) (σ 54) 386) σ' := rk.ag (fun x hx => if_pos hx) ag
    refine Call_chg w (r := σ' 1 12) (σ1 := σ') (ρ := cpN (σ 55) (σ 54) 386) ?_ (fun q hq => k q (by omega)) wf rm ?_
    · show f_X7_restore_0 σ = _
      rw [f_X7_restore_0, nm_mk, i1, if_neg hz, a, bd_mk, nm_mk]
    · show f_X8_restore_53 _ = _
      rw [f_X8_restore_53, nm_mk, k 53 (by omega), i2, if_neg hz, m_cpA_55, bd_mk, g4_386, nm_mk, c_4, mrow_eq, k 54 (by omega), k 55 (by omega), rm.r4]
