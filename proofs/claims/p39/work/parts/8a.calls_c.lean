/-! the duel, what is counted, the KINDs -/
theorem lesser_eq (a b : Int32) (σ : Mem) : f_X8_lesser a b σ = some (if b < a then b else a, σ) := by
  rw [f_X8_lesser]
  by_cases h : b ≤ a
  · rw [if_pos h]
    by_cases h2 : b < a
    · rw [if_pos h2]
    · rw [if_neg h2, Int32.le_antisymm h (Int32.not_lt.mp h2)]
  · rw [if_neg h, if_neg (fun q => h (Int32.le_of_lt q))]
theorem greater_eq (a b : Int32) (σ : Mem) : f_X8_greater a b σ = some (if a < b then b else a, σ) := by
  rw [f_X8_greater]
  by_cases h : a ≤ b
  · rw [if_pos h]
    by_cases h2 : a < b
    · rw [if_pos h2]
    · rw [if_neg h2, Int32.le_antisymm (Int32.not_lt.mp h2) h]
  · rw [if_neg h, if_neg (fun q => h (Int32.le_of_lt q))]
def mn (x y : Int32) : Int32 := if y < x then y else x
def mx (x y : Int32) : Int32 := if x < y then y else x
theorem mn_int (x y : Int32) : (mn x y).toInt = min x.toInt y.toInt := by
  unfold mn
  by_cases h : y < x
  · have h' := Int32.lt_iff_toInt_lt.mp h
    rw [if_pos h]; omega
  · have h' := Int32.le_iff_toInt_le.mp (Int32.not_lt.mp h)
    rw [if_neg h]; omega
theorem mx_int (x y : Int32) : (mx x y).toInt = max x.toInt y.toInt := by
  unfold mx
  by_cases h : x < y
  · have h' := Int32.lt_iff_toInt_lt.mp h
    rw [if_pos h]; omega
  · have h' := Int32.le_iff_toInt_le.mp (Int32.not_lt.mp h)
    rw [if_neg h]; omega
def b99 (x : Int32) : Prop := -99 ≤ x.toInt ∧ x.toInt ≤ 99
theorem duel_den {a b c d : Int32} (ha : b99 a) (hb : b99 b) (hc : b99 c) (hd : b99 d) : (a + d - b - c).toInt = a.toInt + d.toInt - b.toInt - c.toInt := by
  unfold b99 at *
  have e1 : (a + d).toInt = a.toInt + d.toInt := by rw [Int32.toInt_add, bm (by omega) (by omega)]
  have e2 : (a + d - b).toInt = a.toInt + d.toInt - b.toInt := by rw [Int32.toInt_sub, e1, bm (by omega) (by omega)]
  rw [Int32.toInt_sub, e2, bm (by omega) (by omega)]
theorem duel_nz {a b c d : Int32} (ha : b99 a) (hb : b99 b) (hc : b99 c) (hd : b99 d) (h : ¬ mx (mn a b) (mn c d) = mn (mx a c) (mx b d)) : ¬ a + d - b - c = 0 := by
  intro e
  apply h
  have q := duel_den ha hb hc hd
  rw [e] at q
  have e0 : (0 : Int32).toInt = 0 := rfl
  rw [e0] at q
  apply Int32.toInt_inj.mp
  rw [mx_int, mn_int, mn_int, mn_int, mx_int, mx_int]
  omega
theorem b99_sn {a : Int32} (h : b99 a) : sn a := sn_of (by unfold b99 at h; omega) (by unfold b99 at h; omega)
theorem mn_b {a b : Int32} (h : b99 a) (h2 : b99 b) : b99 (mn a b) := by
  unfold mn; split <;> assumption
theorem mx_b {a b : Int32} (h : b99 a) (h2 : b99 b) : b99 (mx a b) := by
  unfold mx; split <;> assumption
theorem mul99 {a b : Int32} (h : b99 a) (h2 : b99 b) : -9801 ≤ (a * b).toInt ∧ (a * b).toInt ≤ 9801 := by
  unfold b99 at *
  have q : -9801 ≤ a.toInt * b.toInt ∧ a.toInt * b.toInt ≤ 9801 := by
    by_cases h0 : 0 ≤ a.toInt
    · have := mulB (A := 99) (B := 99) h0 h.2 h2.1 h2.2
      omega
    · have := mulB (a := -a.toInt) (A := 99) (B := 99) (by omega) (by omega) h2.1 h2.2
      rw [Int.neg_mul] at this
      omega
  rw [Int32.toInt_mul, bm (by omega) (by omega)]
  exact q
theorem num_sn {a b c d : Int32} (ha : b99 a) (hb : b99 b) (hc : b99 c) (hd : b99 d) : sn (a * d - b * c) := by
  have h1 := mul99 ha hd
  have h2 := mul99 hb hc
  have e : (a * d - b * c).toInt = (a * d).toInt - (b * c).toInt := by rw [Int32.toInt_sub, bm (by omega) (by omega)]
  exact sn_of (by omega) (by omega)
theorem den_sn {a b c d : Int32} (ha : b99 a) (hb : b99 b) (hc : b99 c) (hd : b99 d) : sn (a + d - b - c) := by
  have e := duel_den ha hb hc hd
  unfold b99 at *
  exact sn_of (by omega) (by omega)
theorem cost_b {S : Mem} (w : WF S) {i : Nat} (hi : i < 6) : b99 (cost S i) := by
  have h1 := bn_int (w.2.2.2.1.2.2.2.1) (by omega)
  have h2 := bn_int (w.2.2.2.1.2.2.1) (by omega)
  have h3 := bn_int (w.2.1 i hi).2.1 (by omega)
  have e1 : (5 + S 4 i).toInt = 5 + (S 4 i).toInt := by
    have e5 : (5 : Int32).toInt = 5 := rfl
    rw [Int32.toInt_add, e5, bm (by omega) (by omega)]
  have e2 : (S 1 11 + 1).toInt = (S 1 11).toInt + 1 := by
    have e5 : (1 : Int32).toInt = 1 := rfl
    rw [Int32.toInt_add, e5, bm (by omega) (by omega)]
  have e0 : (0 : Int32).toInt = 0 := rfl
  unfold b99 cost
  split
  · omega
  · split
    · omega
    · split
      · omega
      · split <;> omega
theorem call_duel {c : Nat} {σ : Mem} (w : Rel c σ) (a0 a1 a2 a3 : Int32) : Call c (fun σ => f_X7_duel_0 a0 a1 a2 a3 σ) (fun σ => f_X8_duel_53 a0 a1 a2 a3 σ) σ := by
  unfold f_X7_duel_0 f_X8_duel_53
  refine guardR w a0 (fun r hr e => guardP w a1 (fun i hi e1 => guardP w a2 (fun k hk e2 => guard w (within_eq a3 0 1 σ) (fun σ1 _ => in_eq a3 0 1 σ1) (fun hp => ?_))))
  subst e e1 e2
  have p3 := cut01 hp
  obtain ⟨σ1, x1, y1⟩ := x_gain (Sc.rf σ) w.1 hr hi (σ 10 r)
  obtain ⟨σ2, x2, y2⟩ := x_gain (Sc.rf σ |>.same y1) w.1 hr hk (σ 10 r)
  have s2 := (Sc.rf σ).same (y1.tr y2)
  have gi1 : b99 (gain σ r i (σ 10 r)) := gain_int _ _ _ _
  have gk1 : b99 (gain σ r k (σ 10 r)) := gain_int _ _ _ _
  have ci := cost_b w.1 hi
  have ck := cost_b w.1 hk
  obtain ⟨v, hv1, hv2⟩ : ∃ v, (∀ μ, (if mx (mn (gain σ r i (σ 10 r)) (gain σ r k (σ 10 r))) (mn (cost σ i) (cost σ k)) = mn (mx (gain σ r i (σ 10 r)) (cost σ i)) (mx (gain σ r k (σ 10 r)) (cost σ k)) then f_X7_partOf (mx (mn (gain σ r i (σ 10 r)) (gain σ r k (σ 10 r))) (mn (cost σ i) (cost σ k))) 1 a3 μ else f_X7_partOf (gain σ r i (σ 10 r) * cost σ k - gain σ r k (σ 10 r) * cost σ i) (gain σ r i (σ 10 r) + cost σ k - gain σ r k (σ 10 r) - cost σ i) a3 μ) = some (v, μ)) ∧ (∀ μ, (if mx (mn (gain σ r i (σ 10 r)) (gain σ r k (σ 10 r))) (mn (cost σ i) (cost σ k)) = mn (mx (gain σ r i (σ 10 r)) (cost σ i)) (mx (gain σ r k (σ 10 r)) (cost σ k)) then f_X8_partOf (mx (mn (gain σ r i (σ 10 r)) (gain σ r k (σ 10 r))) (mn (cost σ i) (cost σ k))) 1 a3 μ else f_X8_partOf (gain σ r i (σ 10 r) * cost σ k - gain σ r k (σ 10 r) * cost σ i) (gain σ r i (σ 10 r) + cost σ k - gain σ r k (σ 10 r) - cost σ i) a3 μ) = some (v, μ)) := by
    by_cases hs : mx (mn (gain σ r i (σ 10 r)) (gain σ r k (σ 10 r))) (mn (cost σ i) (cost σ k)) = mn (mx (gain σ r i (σ 10 r)) (cost σ i)) (mx (gain σ r k (σ 10 r)) (cost σ k))
    · obtain ⟨v, h1, h2⟩ := partOf_same (b99_sn (mx_b (mn_b gi1 gk1) (mn_b ci ck))) (b99_sn (show b99 1 from ⟨by decide, by decide⟩)) (by decide) p3
      exact ⟨v, fun μ => by rw [if_pos hs, h1], fun μ => by rw [if_pos hs, h2]⟩
    · obtain ⟨v, h1, h2⟩ := partOf_same (num_sn gi1 gk1 ci ck) (den_sn gi1 gk1 ci ck) (duel_nz gi1 gk1 ci ck hs) p3
      exact ⟨v, fun μ => by rw [if_neg hs, h1], fun μ => by rw [if_neg hs, h2]⟩
  refine Call_ro w (v := v) ⟨σ2, ?_, y1.tr y2⟩ (fun τ ht => ?_)
  · show gi _ _ _ = _
    rw [gin (by omega), nm_mk, cln (by omega), x1, bd_mk, x2, bd_mk, x_cost s2 hi, bd_mk, x_cost s2 hk, bd_mk, ← hv1 σ2]
    simp only [nm_mk, bd_et]
    rfl
  · have rm := w.rm (Mo.of ht)
    obtain ⟨τ1, z1, t1⟩ := m_gain rm hr hi (σ 10 r)
    have rm1 : RM (τ1 54) σ := by rw [t1.r54]; exact rm
    obtain ⟨τ2, z2, t2⟩ := m_gain rm1 hr hk (σ 10 r)
    have rm2 : RM (τ2 54) σ := by rw [t2.r54]; exact rm1
    refine ⟨τ2, ?_, t1.tr t2⟩
    show bd _ _ = _
    rw [m_ab2 rm hr, bd_mk, z1, bd_mk, m_ab2 rm1 hr, bd_mk, z2, bd_mk, m_cost rm2 hi, bd_mk, m_cost rm2 hk, bd_mk, ← hv2 τ2]
    simp only [lesser_eq, greater_eq, bd_mk, nm_mk, bd_et]
    rfl
theorem Rel.tr {c : Nat} {σ : Mem} (w : Rel c σ) : TR σ := w.2.2.2.2.2
theorem call_count {c : Nat} {σ : Mem} (w : Rel c σ) (a0 : Int32) : Call c (fun σ => f_X7_count_0 a0 σ) (fun σ => f_X8_count_53 a0 σ) σ := by
  by_cases h : 0 ≤ a0 ∧ a0 ≤ 11
  · obtain ⟨j, hj, rfl⟩ := nI_of2 (M := 11) (n := 11) (by decide) (Int32.not_lt.mpr h.1) h.2
    have rm := fun τ (h : Same σ τ) => w.rm (Mo.of h)
    match j, hj with
    | 0, _ => exact Call_ro w (v := σ 2 4) (RO.mk rfl) (fun τ ht => RO.mk (by rw [← (rm τ ht).r7]; rfl))
    | 1, _ => exact Call_ro w (v := σ 7 5) (RO.mk rfl) (fun τ ht => RO.mk (by rw [← (rm τ ht).r8]; rfl))
    | 2, _ => exact Call_ro w (v := σ 1 11) (RO.mk rfl) (fun τ ht => RO.mk (by rw [← (rm τ ht).r3]; rfl))
    | 3, _ => exact Call_ro w (v := σ 1 12) (RO.mk rfl) (fun τ ht => RO.mk (by rw [← (rm τ ht).r4]; rfl))
    | 4, _ => exact Call_ro w (v := σ 1 13) (RO.mk rfl) (fun τ ht => RO.mk (by rw [← (rm τ ht).r5]; rfl))
    | 5, _ => exact Call_ro w (v := σ 1 8) (RO.mk rfl) (fun τ ht => RO.mk (by rw [← (rm τ ht).r0]; rfl))
    | 6, _ => exact Call_ro w (v := σ 1 9) (RO.mk rfl) (fun τ ht => RO.mk (by rw [← (rm τ ht).r1]; rfl))
    | 7, _ => exact Call_ro w (v := σ 1 10) (RO.mk rfl) (fun τ ht => RO.mk (by rw [← (rm τ ht).r2]; rfl))
    | 8, _ => exact Call_ro w (v := σ 1 5) (RO.mk rfl) (fun τ ht => RO.mk (by rw [← (rm τ ht).r9]; rfl))
    | 9, _ => exact Call_ro w (v := σ 1 7) (RO.mk rfl) (fun τ ht => RO.mk (by rw [← (rm τ ht).r10]; rfl))
    | 10, _ => exact Call_ro w (v := σ 50 1) (RO.mk rfl) (fun τ ht => RO.mk (by rw [w.tr.1, ← ht 53 (by decide) (by decide) (by decide) (by decide)]; rfl))
    | 11, _ => exact Call_ro w (v := σ 1 14) (RO.mk rfl) (fun τ ht => RO.mk (by rw [← (rm τ ht).r6]; rfl))
  · have ne : ∀ k : Int32, 0 ≤ k ∧ k ≤ 11 → ¬ a0 = k := fun k hk e => h (by rw [e]; exact hk)
    unfold f_X7_count_0 f_X8_count_53
    refine Call_of (Call_e1 w) ?_ (fun τ _ => ?_)
    · show ite _ _ _ = _
      rw [if_neg (ne 0 (by decide)), if_neg (ne 1 (by decide)), if_neg (ne 2 (by decide)), if_neg (ne 3 (by decide)), if_neg (ne 4 (by decide)), if_neg (ne 5 (by decide)), if_neg (ne 6 (by decide)), if_neg (ne 7 (by decide)), if_neg (ne 8 (by decide)), if_neg (ne 9 (by decide)), if_neg (ne 10 (by decide)), if_neg (ne 11 (by decide)), bd_et]
    · show ite _ _ _ = _
      rw [if_neg (ne 0 (by decide)), if_neg (ne 1 (by decide)), if_neg (ne 2 (by decide)), if_neg (ne 3 (by decide)), if_neg (ne 4 (by decide)), if_neg (ne 5 (by decide)), if_neg (ne 6 (by decide)), if_neg (ne 7 (by decide)), if_neg (ne 8 (by decide)), if_neg (ne 9 (by decide)), if_neg (ne 10 (by decide)), if_neg (ne 11 (by decide)), bd_et]
theorem call_told {c : Nat} {σ : Mem} (w : Rel c σ) (a0 : Int32) : Call c (fun σ => f_X7_told_0 a0 σ) (fun σ => f_X8_told_53 a0 σ) σ := by
  unfold f_X7_told_0 f_X8_told_53
  refine guard w (within_eq a0 1 6 σ) (fun τ _ => in_eq a0 1 6 τ) (fun hp => ?_)
  obtain ⟨j, hj, rfl⟩ := nI_of2 (M := 6) (n := 6) (by decide) (Int32.not_lt.mpr (Int32.le_trans (by decide) hp.1)) hp.2
  refine Call_ro w (v := σ 52 j) (RO.mk ?_) (fun τ ht => RO.mk ?_)
  · show gi _ _ _ = _
    rw [gin (by omega), nm_mk, cln (by omega)]
  · show gi _ _ _ = _
    rw [gin (by omega), nm_mk, cln (by omega), ht 56 (by decide) (by decide) (by decide) (by decide), w.2.2.2.1]
theorem call_body {c : Nat} {σ : Mem} (w : Rel c σ) (a0 : Int32) : Call c (fun σ => f_X7_body_0 a0 σ) (fun σ => f_X8_body_53 a0 σ) σ := by
  unfold f_X7_body_0 f_X8_body_53
  obtain ⟨t1, ⟨T, hT, eT⟩, t3⟩ := w.tr
  have m1 : ∀ τ, Mo σ τ → f_X8_in a0 0 (τ 53 17 - 1) τ = some (if 0 ≤ a0 ∧ a0 < nI T then 1 else 0, τ) := fun τ ht => by
    rw [in_eq, ht 53 (by decide) (by decide) (by decide), ← t1, eT]
    simp only [lt_pred (show T < 2147483648 by omega)]
  by_cases h : 0 ≤ a0 ∧ a0 < nI T
  · obtain ⟨j, hj, rfl⟩ := nI_of (Int32.not_lt.mpr h.1)
    have hj2 := (nI_ltI hj (by omega)).mp h.2
    refine Call_ro w (v := σ 51 j) (RO.mk ?_) (fun τ ht => RO.mk ?_)
    · show ite _ _ _ = _
      rw [if_neg (Int32.not_lt.mpr h.1), nm_mk, eT, if_pos h.2, gin (by omega), nm_mk, cln (by omega)]
    · show nm _ _ = _
      rw [nm_mk, nm_mk, m1 τ (Mo.of ht), bd_mk, ifz, if_pos h, gin (by omega), nm_mk, cln (by omega), ht 64 (by decide) (by decide) (by decide) (by decide), t3 j (by omega)]
  · refine Call_of (Call_e2 w) ?_ (fun τ ht => ?_)
    · show ite _ _ _ = _
      by_cases h0 : a0 < 0
      · rw [if_pos h0, bd_et]
      · rw [if_neg h0, nm_mk, eT, if_neg (fun q => h ⟨Int32.not_lt.mp h0, q⟩), bd_et]
    · show nm _ _ = _
      rw [nm_mk, nm_mk, m1 τ ht, bd_mk, ifz, if_neg h, bd_et]
def up (k j : Nat) : Bool := j == 0 || j == k || (j == 1 && k == 4) || (j == 2 && k == 5)
theorem x_under {k j : Nat} (hk : k ≤ 6) (hj : j ≤ 6) (σ : Mem) : f_X7_isUnder (nI k) (nI j) σ = some (if up k j = true then 1 else 0, σ) := by
  match k, hk, j, hj with
  | 0, _, 0, _ => rfl
  | 0, _, 1, _ => rfl
  | 0, _, 2, _ => rfl
  | 0, _, 3, _ => rfl
  | 0, _, 4, _ => rfl
  | 0, _, 5, _ => rfl
  | 0, _, 6, _ => rfl
  | 1, _, 0, _ => rfl
  | 1, _, 1, _ => rfl
  | 1, _, 2, _ => rfl
  | 1, _, 3, _ => rfl
  | 1, _, 4, _ => rfl
  | 1, _, 5, _ => rfl
  | 1, _, 6, _ => rfl
  | 2, _, 0, _ => rfl
  | 2, _, 1, _ => rfl
  | 2, _, 2, _ => rfl
  | 2, _, 3, _ => rfl
  | 2, _, 4, _ => rfl
  | 2, _, 5, _ => rfl
  | 2, _, 6, _ => rfl
  | 3, _, 0, _ => rfl
  | 3, _, 1, _ => rfl
  | 3, _, 2, _ => rfl
  | 3, _, 3, _ => rfl
  | 3, _, 4, _ => rfl
  | 3, _, 5, _ => rfl
  | 3, _, 6, _ => rfl
  | 4, _, 0, _ => rfl
  | 4, _, 1, _ => rfl
  | 4, _, 2, _ => rfl
  | 4, _, 3, _ => rfl
  | 4, _, 4, _ => rfl
  | 4, _, 5, _ => rfl
  | 4, _, 6, _ => rfl
  | 5, _, 0, _ => rfl
  | 5, _, 1, _ => rfl
  | 5, _, 2, _ => rfl
  | 5, _, 3, _ => rfl
  | 5, _, 4, _ => rfl
  | 5, _, 5, _ => rfl
  | 5, _, 6, _ => rfl
  | 6, _, 0, _ => rfl
  | 6, _, 1, _ => rfl
  | 6, _, 2, _ => rfl
  | 6, _, 3, _ => rfl
  | 6, _, 4, _ => rfl
  | 6, _, 5, _ => rfl
  | 6, _, 6, _ => rfl
theorem m_under {k j : Nat} (hk : k ≤ 6) (hj : j ≤ 6) {A B : Res} : (if nI j = 0 then A else (if nI j = nI k then A else (if nI j = 1 then (if nI k = 4 then A else (if nI j = 2 then (if nI k = 5 then A else B) else B)) else (if nI j = 2 then (if nI k = 5 then A else B) else B)))) = if up k j = true then A else B := by
  match k, hk, j, hj with
  | 0, _, 0, _ => rfl
  | 0, _, 1, _ => rfl
  | 0, _, 2, _ => rfl
  | 0, _, 3, _ => rfl
  | 0, _, 4, _ => rfl
  | 0, _, 5, _ => rfl
  | 0, _, 6, _ => rfl
  | 1, _, 0, _ => rfl
  | 1, _, 1, _ => rfl
  | 1, _, 2, _ => rfl
  | 1, _, 3, _ => rfl
  | 1, _, 4, _ => rfl
  | 1, _, 5, _ => rfl
  | 1, _, 6, _ => rfl
  | 2, _, 0, _ => rfl
  | 2, _, 1, _ => rfl
  | 2, _, 2, _ => rfl
  | 2, _, 3, _ => rfl
  | 2, _, 4, _ => rfl
  | 2, _, 5, _ => rfl
  | 2, _, 6, _ => rfl
  | 3, _, 0, _ => rfl
  | 3, _, 1, _ => rfl
  | 3, _, 2, _ => rfl
  | 3, _, 3, _ => rfl
  | 3, _, 4, _ => rfl
  | 3, _, 5, _ => rfl
  | 3, _, 6, _ => rfl
  | 4, _, 0, _ => rfl
  | 4, _, 1, _ => rfl
  | 4, _, 2, _ => rfl
  | 4, _, 3, _ => rfl
  | 4, _, 4, _ => rfl
  | 4, _, 5, _ => rfl
  | 4, _, 6, _ => rfl
  | 5, _, 0, _ => rfl
  | 5, _, 1, _ => rfl
  | 5, _, 2, _ => rfl
  | 5, _, 3, _ => rfl
  | 5, _, 4, _ => rfl
  | 5, _, 5, _ => rfl
  | 5, _, 6, _ => rfl
  | 6, _, 0, _ => rfl
  | 6, _, 1, _ => rfl
  | 6, _, 2, _ => rfl
  | 6, _, 3, _ => rfl
  | 6, _, 4, _ => rfl
  | 6, _, 5, _ => rfl
  | 6, _, 6, _ => rfl
theorem call_as {c : Nat} {σ : Mem} (w : Rel c σ) (a0 a1 : Int32) : Call c (fun σ => f_X7_as_0 a0 a1 σ) (fun σ => f_X8_as_53 a0 a1 σ) σ := by
  unfold f_X7_as_0 f_X8_as_53
  refine guardP w a0 (fun i hi e => guard w (within_eq a1 0 6 σ) (fun τ _ => in_eq a1 0 6 τ) (fun hp => ?_))
  subst e
  obtain ⟨j, hj, rfl⟩ := nI_of2 (M := 6) (n := 6) (by decide) (Int32.not_lt.mpr hp.1) hp.2
  obtain ⟨k, hk, ek⟩ := (w.1.2.1 i hi).1
  have mm : ∀ τ, Mo σ τ → f_X8_of_53 (nI i) 0 τ = some (nI k, τ) := fun τ ht => by rw [m_of0 (w.rm ht) hi, ek]
  by_cases hu : up k j = true
  · refine Call_ro w (v := σ 4 i) (RO.mk ?_) (fun τ ht => RO.mk ?_)
    · show gi _ _ _ = _
      rw [gin (by omega), nm_mk, cln (by omega), ek, x_under hk hj, bd_mk, ifz, if_pos hu, gin (by omega), nm_mk]
    · show bd _ _ = _
      rw [mm τ (Mo.of ht), bd_mk, f_X8_as_53_L51, m_under hk hj, if_pos hu, f_X8_as_53_L61, if_neg (by decide), bd_et, m_of1 (w.rm (Mo.of ht)) hi]
  · refine Call_of (Call_e5 w) ?_ (fun τ ht => ?_)
    · show gi _ _ _ = _
      rw [gin (by omega), nm_mk, cln (by omega), ek, x_under hk hj, bd_mk, ifz, if_neg hu, bd_et]
    · show bd _ _ = _
      rw [mm τ ht, bd_mk, f_X8_as_53_L51, m_under hk hj, if_neg hu, f_X8_as_53_L65, if_pos rfl, bd_et]
