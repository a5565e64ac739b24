/-! TEXTS at work: steps (a number as it is, a NAME as -1 less its place, a sign as less than 0 by its byte) on a pile -/
def hd (st : Nat → Int32) : Nat → Nat
  | 0 => 0
  | n + 1 => if st n < -3 then (if st n = -33 then hd st n else hd st n - 1) else hd st n + 1
def nmv (s x y z : Int32) : Int32 := if s < 0 then (if s = -2 then y else if s = -1 then x else z) else s
def vs (st : Nat → Int32) (x y z : Int32) : Nat → Nat → Int32
  | 0 => fun _ => 0
  | n + 1 => if st n < -3 then (if st n = -33 then upd (vs st x y z n) (hd st n - 1) (if vs st x y z n (hd st n - 1) = 0 then 1 else 0) else upd (vs st x y z n) (hd st n - 2) (jn (-(st n)) (vs st x y z n (hd st n - 2)) (vs st x y z n (hd st n - 1)))) else upd (vs st x y z n) (hd st n) (nmv (st n) x y z)
/-- L steps that leave one value -/
def okp (st : Nat → Int32) (L : Nat) : Prop := 1 ≤ L ∧ L ≤ 60 ∧ hd st L = 1 ∧ ∀ n, n < L → st n < -3 → (st n = -33 ∧ 1 ≤ hd st n) ∨ (¬ st n = -33 ∧ isSg (-(st n)) ∧ 2 ≤ hd st n)
theorem hd_le (st : Nat → Int32) : ∀ n, hd st n ≤ n
  | 0 => Nat.le_refl 0
  | n + 1 => by
    have h := hd_le st n
    unfold hd
    split
    · split <;> omega
    · omega
theorem nI_m1 (n : Nat) : nI (n + 1) + (-1) = nI n := by
  rw [← Int32.sub_eq_add_neg]
  exact nI_pred n
theorem named_eq (s x y z : Int32) (h : s < 0) (σ : Mem) : f_X5_named s x y z σ = some (nmv s x y z, σ) := by
  unfold f_X5_named nmv
  rw [if_pos h]
  by_cases h2 : s = -2
  · rw [if_pos h2, if_pos h2]
  · rw [if_neg h2, if_neg h2]
    by_cases h1 : s = -1
    · rw [if_pos h1, if_pos h1]
    · rw [if_neg h1, if_neg h1]
theorem vs_push {st : Nat → Int32} {x y z : Int32} {n : Nat} (h : ¬ st n < -3) : hd st (n + 1) = hd st n + 1 ∧ vs st x y z (n + 1) = upd (vs st x y z n) (hd st n) (nmv (st n) x y z) := ⟨if_neg h, if_neg h⟩
theorem vs_not {st : Nat → Int32} {x y z : Int32} {n : Nat} (h : st n < -3) (h2 : st n = -33) : hd st (n + 1) = hd st n ∧ vs st x y z (n + 1) = upd (vs st x y z n) (hd st n - 1) (if vs st x y z n (hd st n - 1) = 0 then 1 else 0) := ⟨(if_pos h).trans (if_pos h2), (if_pos h).trans (if_pos h2)⟩
theorem vs_two {st : Nat → Int32} {x y z : Int32} {n : Nat} (h : st n < -3) (h2 : ¬ st n = -33) : hd st (n + 1) = hd st n - 1 ∧ vs st x y z (n + 1) = upd (vs st x y z n) (hd st n - 2) (jn (-(st n)) (vs st x y z n (hd st n - 2)) (vs st x y z n (hd st n - 1))) := ⟨(if_pos h).trans (if_neg h2), (if_pos h).trans (if_neg h2)⟩
theorem upd_ag {f g : Nat → Int32} {k d : Nat} {v : Int32} (h : ∀ i, i < d → ¬ i = k → f i = g i) : ∀ i, i < d → upd f k v i = upd g k v i := fun i hi => by
  by_cases hk : i = k
  · rw [hk, pk_us, pk_us]
  · rw [pk_un hk, pk_un hk]
    exact h i hi hk
theorem xwork_13 (st : Nat → Int32) (L : Nat) (x y z : Int32) (hok : okp st L) (f : Nat) : ∀ (n : Nat) (σ : Mem), n ≤ L → L - n < f → σ 13 2 = nI L → (∀ i, i < L → σ 14 i = st i) → (∀ i, i < hd st n → σ 15 i = vs st x y z n i) → ∃ σ', f_X5_work_13_L6 f x y z (nI (hd st n)) (nI n) σ = some (vs st x y z L 0, σ') ∧ Same σ σ' := by
  obtain ⟨hL1, hL2, hL3, hst⟩ := hok
  induction f with
  | zero => intro n σ h1 h2; omega
  | succ f ih =>
    intro n σ h1 h2 h3 h4 h5
    show ∃ σ', fb_X5_work_13_L6 (f_X5_work_13_L6 f) x y z (nI (hd st n)) (nI n) σ = some (vs st x y z L 0, σ') ∧ Same σ σ'
    have hle := hd_le st n
    rw [fb_X5_work_13_L6, nm_mk, h3]
    by_cases hn : n = L
    · subst hn
      rw [if_pos (Int32.le_refl _), g0_60, nm_mk, c_0, h5 0 (by omega)]
      exact ⟨σ, rfl, Same.rf σ⟩
    · have hlt : n < L := by omega
      rw [if_neg (fun q => absurd ((nI_leI (by omega) (by omega)).mp q) (by omega)), if_neg (show ¬ (60 : Int32) ≤ nI (hd st n) from fun q => absurd ((nI_leI (a := 60) (by omega) (by omega)).mp q) (by omega)), gin (by omega), nm_mk, cln (by omega), h4 n hlt]
      have same2 : ∀ {j v}, Same σ (mset σ 15 j v) := fun {j v} => Same.set (Or.inl rfl)
      by_cases hs : st n < -3
      · rw [if_pos hs]
        rcases hst n hlt hs with ⟨e33, hd1⟩ | ⟨n33, hsg, hd2⟩
        · obtain ⟨e1, e2⟩ := vs_not (x := x) (y := y) (z := z) hs e33
          obtain ⟨d, hd0⟩ : ∃ d, hd st n = d + 1 := ⟨hd st n - 1, by omega⟩
          rw [hd0] at h5 e1 e2 hle ⊢
          rw [show d + 1 - 1 = d from rfl] at e2
          rw [if_pos e33, if_pos (show (1 : Int32) ≤ nI (d + 1) from nI_le (a := 1) (by omega) (by omega)), nm_mk, nm_mk, nI_pred, gin (by omega), nm_mk, cln (by omega), h5 d (by omega)]
          have key : ∀ v : Int32, v = (if vs st x y z n d = 0 then 1 else 0) → ∃ σ', f_X5_work_13_L6 f x y z (nI (d + 1)) (nI (n + 1)) (mset σ 15 d v) = some (vs st x y z L 0, σ') ∧ Same σ σ' := by
            intro v hv
            have hi := ih (n + 1) (mset σ 15 d v) (by omega) (by omega) (by rw [mset_ne (by decide)]; exact h3) (fun i hi => by rw [mset_ne (by decide)]; exact h4 i hi) (by
              rw [e1, e2, mset_eq, ← hv]
              exact upd_ag (fun i hi _ => h5 i hi))
            rw [e1] at hi
            obtain ⟨σ', a, b⟩ := hi
            exact ⟨σ', a, same2.tr b⟩
          by_cases hv : vs st x y z n d = 0
          · rw [if_pos hv, gin (by omega), nm_mk, nm_mk, nI_1]
            exact key 1 (by rw [if_pos hv])
          · rw [if_neg hv, gin (by omega), nm_mk, nm_mk, nI_1]
            exact key 0 (by rw [if_neg hv])
        · obtain ⟨e1, e2⟩ := vs_two (x := x) (y := y) (z := z) hs n33
          obtain ⟨d, hd0⟩ : ∃ d, hd st n = d + 2 := ⟨hd st n - 2, by omega⟩
          rw [hd0] at h5 e1 e2 hle ⊢
          rw [show d + 2 - 1 = d + 1 from rfl] at e1 e2
          rw [show d + 2 - 2 = d from rfl] at e2
          rw [if_neg n33, if_pos (show (2 : Int32) ≤ nI (d + 2) from nI_le (a := 2) (by omega) (by omega)), nm_mk, nI_m1, nm_mk, nI_pred, nm_mk, nm_mk, gin (by omega), nm_mk, cln (by omega), gin (by omega), nm_mk, cln (by omega), h5 d (by omega), h5 (d + 1) (by omega), x_joined hsg, bd_mk, gin (by omega), nm_mk, nm_mk, nI_1]
          have hi := ih (n + 1) (mset σ 15 d (jn (-(st n)) (vs st x y z n d) (vs st x y z n (d + 1)))) (by omega) (by omega) (by rw [mset_ne (by decide)]; exact h3) (fun i hi => by rw [mset_ne (by decide)]; exact h4 i hi) (by
            rw [e1, e2, mset_eq]
            exact upd_ag (fun i hi _ => h5 i (by omega)))
          rw [e1] at hi
          obtain ⟨σ', a, b⟩ := hi
          exact ⟨σ', a, same2.tr b⟩
      · obtain ⟨e1, e2⟩ := vs_push (x := x) (y := y) (z := z) hs
        have key : ∀ v : Int32, v = nmv (st n) x y z → ∃ σ', f_X5_work_13_L6 f x y z (nI (hd st n + 1)) (nI (n + 1)) (mset σ 15 (hd st n) v) = some (vs st x y z L 0, σ') ∧ Same σ σ' := by
          intro v hv
          have hi := ih (n + 1) (mset σ 15 (hd st n) v) (by omega) (by omega) (by rw [mset_ne (by decide)]; exact h3) (fun i hi => by rw [mset_ne (by decide)]; exact h4 i hi) (by
            rw [e1, e2, mset_eq, ← hv]
            exact upd_ag (fun i hi hk => h5 i (by omega)))
          rw [e1] at hi
          obtain ⟨σ', a, b⟩ := hi
          exact ⟨σ', a, same2.tr b⟩
        rw [if_neg hs]
        by_cases h0 : st n < 0
        · rw [if_pos h0, named_eq _ _ _ _ h0, bd_mk, gin (by omega), nm_mk, nm_mk, nI_1, nm_mk, nI_1, cln (by omega)]
          exact key _ rfl
        · rw [if_neg h0, gin (by omega), nm_mk, nm_mk, nI_1, nm_mk, nI_1, cln (by omega)]
          exact key _ (by rw [nmv, if_neg h0])
theorem xwork_16 (st : Nat → Int32) (L : Nat) (x y z : Int32) (hok : okp st L) (f : Nat) : ∀ (n : Nat) (σ : Mem), n ≤ L → L - n < f → σ 16 2 = nI L → (∀ i, i < L → σ 17 i = st i) → (∀ i, i < hd st n → σ 18 i = vs st x y z n i) → ∃ σ', f_X5_work_16_L6 f x y z (nI (hd st n)) (nI n) σ = some (vs st x y z L 0, σ') ∧ Same σ σ' := by
  obtain ⟨hL1, hL2, hL3, hst⟩ := hok
  induction f with
  | zero => intro n σ h1 h2; omega
  | succ f ih =>
    intro n σ h1 h2 h3 h4 h5
    show ∃ σ', fb_X5_work_16_L6 (f_X5_work_16_L6 f) x y z (nI (hd st n)) (nI n) σ = some (vs st x y z L 0, σ') ∧ Same σ σ'
    have hle := hd_le st n
    rw [fb_X5_work_16_L6, nm_mk, h3]
    by_cases hn : n = L
    · subst hn
      rw [if_pos (Int32.le_refl _), g0_60, nm_mk, c_0, h5 0 (by omega)]
      exact ⟨σ, rfl, Same.rf σ⟩
    · have hlt : n < L := by omega
      rw [if_neg (fun q => absurd ((nI_leI (by omega) (by omega)).mp q) (by omega)), if_neg (show ¬ (60 : Int32) ≤ nI (hd st n) from fun q => absurd ((nI_leI (a := 60) (by omega) (by omega)).mp q) (by omega)), gin (by omega), nm_mk, cln (by omega), h4 n hlt]
      have same2 : ∀ {j v}, Same σ (mset σ 18 j v) := fun {j v} => Same.set (Or.inr (Or.inl rfl))
      by_cases hs : st n < -3
      · rw [if_pos hs]
        rcases hst n hlt hs with ⟨e33, hd1⟩ | ⟨n33, hsg, hd2⟩
        · obtain ⟨e1, e2⟩ := vs_not (x := x) (y := y) (z := z) hs e33
          obtain ⟨d, hd0⟩ : ∃ d, hd st n = d + 1 := ⟨hd st n - 1, by omega⟩
          rw [hd0] at h5 e1 e2 hle ⊢
          rw [show d + 1 - 1 = d from rfl] at e2
          rw [if_pos e33, if_pos (show (1 : Int32) ≤ nI (d + 1) from nI_le (a := 1) (by omega) (by omega)), nm_mk, nm_mk, nI_pred, gin (by omega), nm_mk, cln (by omega), h5 d (by omega)]
          have key : ∀ v : Int32, v = (if vs st x y z n d = 0 then 1 else 0) → ∃ σ', f_X5_work_16_L6 f x y z (nI (d + 1)) (nI (n + 1)) (mset σ 18 d v) = some (vs st x y z L 0, σ') ∧ Same σ σ' := by
            intro v hv
            have hi := ih (n + 1) (mset σ 18 d v) (by omega) (by omega) (by rw [mset_ne (by decide)]; exact h3) (fun i hi => by rw [mset_ne (by decide)]; exact h4 i hi) (by
              rw [e1, e2, mset_eq, ← hv]
              exact upd_ag (fun i hi _ => h5 i hi))
            rw [e1] at hi
            obtain ⟨σ', a, b⟩ := hi
            exact ⟨σ', a, same2.tr b⟩
          by_cases hv : vs st x y z n d = 0
          · rw [if_pos hv, gin (by omega), nm_mk, nm_mk, nI_1]
            exact key 1 (by rw [if_pos hv])
          · rw [if_neg hv, gin (by omega), nm_mk, nm_mk, nI_1]
            exact key 0 (by rw [if_neg hv])
        · obtain ⟨e1, e2⟩ := vs_two (x := x) (y := y) (z := z) hs n33
          obtain ⟨d, hd0⟩ : ∃ d, hd st n = d + 2 := ⟨hd st n - 2, by omega⟩
          rw [hd0] at h5 e1 e2 hle ⊢
          rw [show d + 2 - 1 = d + 1 from rfl] at e1 e2
          rw [show d + 2 - 2 = d from rfl] at e2
          rw [if_neg n33, if_pos (show (2 : Int32) ≤ nI (d + 2) from nI_le (a := 2) (by omega) (by omega)), nm_mk, nI_m1, nm_mk, nI_pred, nm_mk, nm_mk, gin (by omega), nm_mk, cln (by omega), gin (by omega), nm_mk, cln (by omega), h5 d (by omega), h5 (d + 1) (by omega), x_joined hsg, bd_mk, gin (by omega), nm_mk, nm_mk, nI_1]
          have hi := ih (n + 1) (mset σ 18 d (jn (-(st n)) (vs st x y z n d) (vs st x y z n (d + 1)))) (by omega) (by omega) (by rw [mset_ne (by decide)]; exact h3) (fun i hi => by rw [mset_ne (by decide)]; exact h4 i hi) (by
            rw [e1, e2, mset_eq]
            exact upd_ag (fun i hi _ => h5 i (by omega)))
          rw [e1] at hi
          obtain ⟨σ', a, b⟩ := hi
          exact ⟨σ', a, same2.tr b⟩
      · obtain ⟨e1, e2⟩ := vs_push (x := x) (y := y) (z := z) hs
        have key : ∀ v : Int32, v = nmv (st n) x y z → ∃ σ', f_X5_work_16_L6 f x y z (nI (hd st n + 1)) (nI (n + 1)) (mset σ 18 (hd st n) v) = some (vs st x y z L 0, σ') ∧ Same σ σ' := by
          intro v hv
          have hi := ih (n + 1) (mset σ 18 (hd st n) v) (by omega) (by omega) (by rw [mset_ne (by decide)]; exact h3) (fun i hi => by rw [mset_ne (by decide)]; exact h4 i hi) (by
            rw [e1, e2, mset_eq, ← hv]
            exact upd_ag (fun i hi hk => h5 i (by omega)))
          rw [e1] at hi
          obtain ⟨σ', a, b⟩ := hi
          exact ⟨σ', a, same2.tr b⟩
        rw [if_neg hs]
        by_cases h0 : st n < 0
        · rw [if_pos h0, named_eq _ _ _ _ h0, bd_mk, gin (by omega), nm_mk, nm_mk, nI_1, nm_mk, nI_1, cln (by omega)]
          exact key _ rfl
        · rw [if_neg h0, gin (by omega), nm_mk, nm_mk, nI_1, nm_mk, nI_1, cln (by omega)]
          exact key _ (by rw [nmv, if_neg h0])
/-- how a step lies in the reference's rows -/
def enc (s a w : Int32) : Prop := (¬ s < -3 → s < 0 → a = 2 ∧ w = -1 - s) ∧ (¬ s < 0 → a = 1 ∧ w = s) ∧ (s < -3 → s = -33 → a = 3) ∧ (s < -3 → ¬ s = -33 → a = -s)
theorem cut3 {s : Int32} (h : ¬ s < -3) (h0 : s < 0) : s = -3 ∨ s = -2 ∨ s = -1 := by
  have a : -3 ≤ s.toInt := by
    have := Int32.le_iff_toInt_le.mp (Int32.not_lt.mp h)
    exact this
  have b : s.toInt < 0 := by
    have := Int32.lt_iff_toInt_lt.mp h0
    exact this
  have c : s.toInt = -3 ∨ s.toInt = -2 ∨ s.toInt = -1 := by omega
  rcases c with c | c | c
  · exact Or.inl (Int32.toInt_inj.mp c)
  · exact Or.inr (Or.inl (Int32.toInt_inj.mp c))
  · exact Or.inr (Or.inr (Int32.toInt_inj.mp c))
theorem sg_ne {s : Int32} (h : isSg s) : ¬ s = 1 ∧ ¬ s = 2 ∧ ¬ s = 3 := by
  rcases h with h | h | h | h | h | h | h | h | h | h <;> subst h <;> decide
theorem mworks (st : Nat → Int32) (L at_ : Nat) (hat : at_ ≤ 265) (x y z : Int32) (hok : okp st L) (f : Nat) : ∀ (n : Nat) (σ : Mem), n ≤ L → L - n < f → σ 54 at_ = nI L → (∀ i, i < L → enc (st i) (σ 54 (at_ + 1 + i)) (σ 54 (at_ + 61 + i))) → σ 62 0 = x → σ 62 1 = y → σ 62 2 = z → (∀ i, i < hd st n → σ 63 i = vs st x y z n i) → ∃ σ', f_X8_works_53_L4 f (nI at_) (nI (hd st n)) (nI n) σ = some (vs st x y z L 0, σ') ∧ Same σ σ' := by
  obtain ⟨hL1, hL2, hL3, hst⟩ := hok
  induction f with
  | zero => intro n σ h1 h2; omega
  | succ f ih =>
    intro n σ h1 h2 h3 h4 hx hy hz h5
    show ∃ σ', fb_X8_works_53_L4 (f_X8_works_53_L4 f) (nI at_) (nI (hd st n)) (nI n) σ = some (vs st x y z L 0, σ') ∧ Same σ σ'
    have hle := hd_le st n
    rw [fb_X8_works_53_L4, gin (by omega), nm_mk, cln (by omega), h3]
    by_cases hn : n = L
    · subst hn
      rw [if_pos (Int32.le_refl _), g0_60, nm_mk, c_0, h5 0 (by omega)]
      exact ⟨σ, rfl, Same.rf σ⟩
    · have hlt : n < L := by omega
      obtain ⟨q1, q2, q3, q4⟩ := h4 n hlt
      rw [if_neg (fun q => absurd ((nI_leI (by omega) (by omega)).mp q) (by omega)), nm_mk, nI_1, nm_mk, nI_add, gin (by omega), nm_mk, cln (by omega)]
      have same2 : ∀ {j v}, Same σ (mset σ 63 j v) := fun {j v} => Same.set (Or.inr (Or.inr (Or.inr rfl)))
      have step : ∀ (d : Nat) (v : Int32), hd st (n + 1) = hd st (n + 1) → (∀ i, i < hd st (n + 1) → mset σ 63 d v 63 i = vs st x y z (n + 1) i) → ∃ σ', f_X8_works_53_L4 f (nI at_) (nI (hd st (n + 1))) (nI (n + 1)) (mset σ 63 d v) = some (vs st x y z L 0, σ') ∧ Same σ σ' := by
        intro d v _ hag
        obtain ⟨σ', a, b⟩ := ih (n + 1) (mset σ 63 d v) (by omega) (by omega) (by rw [mset_ne (by decide)]; exact h3) (fun i hi => by rw [mset_ne (by decide)]; exact h4 i hi) (by rw [mset_ne (by decide)]; exact hx) (by rw [mset_ne (by decide)]; exact hy) (by rw [mset_ne (by decide)]; exact hz) hag
        exact ⟨σ', a, same2.tr b⟩
      by_cases hs : st n < -3
      · rcases hst n hlt hs with ⟨e33, hd1⟩ | ⟨n33, hsg, hd2⟩
        · obtain ⟨e1, e2⟩ := vs_not (x := x) (y := y) (z := z) hs e33
          have a3 := q3 hs e33
          rw [a3, if_neg (by decide), if_neg (by decide), if_pos rfl]
          obtain ⟨d, hd0⟩ : ∃ d, hd st n = d + 1 := ⟨hd st n - 1, by omega⟩
          rw [hd0] at h5 e1 e2 hle ⊢
          rw [show d + 1 - 1 = d from rfl] at e2
          rw [nm_mk, nI_pred, nm_mk, gin (by omega), nm_mk, cln (by omega), h5 d (by omega)]
          have key : ∀ v : Int32, v = (if vs st x y z n d = 0 then 1 else 0) → ∃ σ', f_X8_works_53_L4 f (nI at_) (nI (d + 1)) (nI (n + 1)) (mset σ 63 d v) = some (vs st x y z L 0, σ') ∧ Same σ σ' := by
            intro v hv
            have hi := step d v rfl (by
              rw [e1, e2, mset_eq, ← hv]
              exact upd_ag (fun i hi _ => h5 i hi))
            rw [e1] at hi
            exact hi
          by_cases hv : vs st x y z n d = 0
          · rw [if_pos hv, gin (by omega), nm_mk, nm_mk, nI_1]
            exact key 1 (by rw [if_pos hv])
          · rw [if_neg hv, gin (by omega), nm_mk, nm_mk, nI_1]
            exact key 0 (by rw [if_neg hv])
        · obtain ⟨e1, e2⟩ := vs_two (x := x) (y := y) (z := z) hs n33
          obtain ⟨s1, s2, s3⟩ := sg_ne hsg
          rw [q4 hs n33, if_neg s1, if_neg s2, if_neg s3]
          obtain ⟨d, hd0⟩ : ∃ d, hd st n = d + 2 := ⟨hd st n - 2, by omega⟩
          rw [hd0] at h5 e1 e2 hle ⊢
          rw [show d + 2 - 1 = d + 1 from rfl] at e1 e2
          rw [show d + 2 - 2 = d from rfl] at e2
          rw [nm_mk, nI_m1, nm_mk, nI_pred, nm_mk, gin (by omega), nm_mk, cln (by omega), gin (by omega), nm_mk, cln (by omega), h5 d (by omega), h5 (d + 1) (by omega), m_twoOf, bd_mk, gin (by omega), nm_mk, nm_mk, nI_1]
          have hi := step d (jn (-(st n)) (vs st x y z n d) (vs st x y z n (d + 1))) rfl (by
            rw [e1, e2, mset_eq]
            exact upd_ag (fun i hi _ => h5 i (by omega)))
          rw [e1] at hi
          exact hi
      · obtain ⟨e1, e2⟩ := vs_push (x := x) (y := y) (z := z) hs
        have key : ∀ v : Int32, v = nmv (st n) x y z → ∃ σ', f_X8_works_53_L4 f (nI at_) (nI (hd st n + 1)) (nI (n + 1)) (mset σ 63 (hd st n) v) = some (vs st x y z L 0, σ') ∧ Same σ σ' := by
          intro v hv
          have hi := step (hd st n) v rfl (by
            rw [e1, e2, mset_eq, ← hv]
            exact upd_ag (fun i hi hk => h5 i (by omega)))
          rw [e1] at hi
          exact hi
        by_cases h0 : st n < 0
        · obtain ⟨a2, w2⟩ := q1 hs h0
          rw [a2, if_neg (by decide), if_pos rfl, if_neg (by decide), nm_mk, i_a61, nm_mk, nI_add, gin (by omega), nm_mk, cln (by omega), w2]
          rcases cut3 hs h0 with e | e | e
          · rw [e, show (-1 - -3 : Int32) = nI 2 from rfl, gin (by omega), nm_mk, cln (by omega), cln (by omega), hz, gin (by omega), nm_mk, nm_mk, nI_1, nm_mk, nI_1]
            exact key z (by rw [e]; rfl)
          · rw [e, show (-1 - -2 : Int32) = nI 1 from rfl, gin (by omega), nm_mk, cln (by omega), cln (by omega), hy, gin (by omega), nm_mk, nm_mk, nI_1, nm_mk, nI_1]
            exact key y (by rw [e]; rfl)
          · rw [e, show (-1 - -1 : Int32) = nI 0 from rfl, gin (by omega), nm_mk, cln (by omega), cln (by omega), hx, gin (by omega), nm_mk, nm_mk, nI_1, nm_mk, nI_1]
            exact key x (by rw [e]; rfl)
        · obtain ⟨a1, w1⟩ := q2 h0
          rw [a1, if_pos rfl, if_pos rfl, nm_mk, i_a61, nm_mk, nI_add, gin (by omega), nm_mk, cln (by omega), cln (by omega), w1, gin (by omega), nm_mk, nm_mk, nI_1, nm_mk, nI_1]
          exact key _ (by rw [nmv, if_neg h0])
