/-! class and reference side by side: what holds between two calls, and what a call keeps -/
def KP (σ : Mem) : Mem := fun k => σ (k + 20)
def cr (b x m : Int32) : Prop := (b = 8 → x = m &&& 255 ∧ m.toInt8.toInt32 = m) ∧ (b = 16 → x = m &&& 65535 ∧ m.toInt16.toInt32 = m) ∧ (¬ b = 8 → ¬ b = 16 → x = m)
def SR (σ : Mem) : Prop := ∀ s, s < 4 → σ 47 s = σ 57 s ∧ σ 48 s = σ 58 s ∧ bn (σ 48 s) 24 ∧ (σ 47 s = 0 ∨ σ 47 s = 8 ∨ σ 47 s = 16 ∨ σ 47 s = 32) ∧ ∀ i, i < 24 → cr (σ 47 s) (σ 49 (s * 24 + i)) (σ 59 (s * 24 + i))
def TR (σ : Mem) : Prop := σ 50 1 = σ 53 17 ∧ bn (σ 50 1) 30 ∧ ∀ i, i < 30 → σ 51 i = σ 64 i
def IM (c : Nat) (σ : Mem) : Prop := ∃ n, n ≤ c ∧ σ 0 6 = nI n ∧ σ 53 2 = nI n ∧ (n = 0 ∨ (WF (KP σ) ∧ RM (σ 55) (KP σ)))
def Rel (c : Nat) (σ : Mem) : Prop := WF σ ∧ RM (σ 54) σ ∧ IM c σ ∧ σ 52 = σ 56 ∧ SR σ ∧ TR σ
theorem WF.ext {S S' : Mem} (h : Sc S' S) (w : WF S) : WF S' := by
  unfold WF TX at *
  simp only [h.at 1 rfl, h.at 2 rfl, h.at 3 rfl, h.at 4 rfl, h.at 5 rfl, h.at 6 rfl, h.at 7 rfl, h.at 8 rfl, h.at 9 rfl, h.at 10 rfl, h.at 11 rfl, h.at 12 rfl, h.at 13 rfl, h.at 14 rfl, h.at 16 rfl, h.at 17 rfl, h.at 19 rfl]
  exact w
theorem RM.ext {ρ : Nat → Int32} {S S' : Mem} (h : Sc S' S) (w : RM ρ S) : RM ρ S' := by
  unfold RM MT at *
  simp only [h.at 1 rfl, h.at 2 rfl, h.at 3 rfl, h.at 4 rfl, h.at 5 rfl, h.at 6 rfl, h.at 7 rfl, h.at 8 rfl, h.at 9 rfl, h.at 10 rfl, h.at 11 rfl, h.at 12 rfl, h.at 13 rfl, h.at 14 rfl, h.at 16 rfl, h.at 17 rfl, h.at 19 rfl, h.at 20 rfl]
  exact w
/-- the same but for cells that no one asks of between calls -/
def Sm (σ σ' : Mem) : Prop := ∀ k, ¬ k = 15 → ¬ k = 18 → ¬ k = 62 → ¬ k = 63 → ¬ k = 52 → ¬ k = 56 → σ' k = σ k
theorem Rel.sm {c : Nat} {σ σ' : Mem} (h : Sm σ σ') (he : σ' 52 = σ' 56) (w : Rel c σ) : Rel c σ' := by
  obtain ⟨a, b, ⟨n, hn, i1, i2, i3⟩, e, s, t⟩ := w
  have sc : Sc σ' σ := fun k h1 h2 h3 h4 => h k h3 h4 (by omega) (by omega) (by omega) (by omega)
  have sk : Sc (KP σ') (KP σ) := fun k h1 h2 h3 h4 => h (k + 20) (by omega) (by omega) (by omega) (by omega) (by omega) (by omega)
  have q : ∀ k, decide (¬ k = 15 ∧ ¬ k = 18 ∧ ¬ k = 62 ∧ ¬ k = 63 ∧ ¬ k = 52 ∧ ¬ k = 56) = true → σ' k = σ k := fun k hk => by
    obtain ⟨a, b, c, d, e, f⟩ := of_decide_eq_true hk
    exact h k a b c d e f
  refine ⟨a.ext sc, ?_, ⟨n, hn, ?_, ?_, ?_⟩, he, ?_, ?_⟩
  · rw [q 54 rfl]; exact b.ext sc
  · rw [q 0 rfl]; exact i1
  · rw [q 53 rfl]; exact i2
  · rcases i3 with i3 | ⟨i3, i4⟩
    · exact Or.inl i3
    · exact Or.inr ⟨i3.ext sk, by rw [q 55 rfl]; exact i4.ext sk⟩
  · unfold SR at *
    simp only [q 47 rfl, q 48 rfl, q 49 rfl, q 57 rfl, q 58 rfl, q 59 rfl]
    exact s
  · unfold TR at *
    simp only [q 50 rfl, q 51 rfl, q 53 rfl, q 64 rfl]
    exact t
theorem Rel.same {c : Nat} {σ σ' : Mem} (h : Same σ σ') (w : Rel c σ) : Rel c σ' :=
  w.sm (fun k h1 h2 h3 h4 _ _ => h k h1 h2 h3 h4) (by rw [h 52 (by decide) (by decide) (by decide) (by decide), h 56 (by decide) (by decide) (by decide) (by decide)]; exact w.2.2.2.1)
theorem Rel.up {c : Nat} {σ : Mem} (w : Rel c σ) : Rel (c + 1) σ := by
  obtain ⟨a, b, ⟨n, hn, i⟩, r⟩ := w
  exact ⟨a, b, ⟨n, by omega, i⟩, r⟩
/-- the reference's cells (but its scratch) as they were -/
def Mo (σ σ1 : Mem) : Prop := ∀ k, 53 ≤ k → ¬ k = 62 → ¬ k = 63 → σ1 k = σ k
theorem Mo.of {σ σ1 : Mem} (h : Same σ σ1) : Mo σ σ1 := fun k h1 h2 h3 => h k (by omega) (by omega) h2 h3
theorem Mo.r {σ σ1 : Mem} (h : Mo σ σ1) : σ1 54 = σ 54 := h 54 (by decide) (by decide) (by decide)
/-- a call on both sides: the class's, then the reference's, alike -/
def Call (c : Nat) (F G : Mem → Res) (σ : Mem) : Prop := ∃ r σ1, F σ = some (r, σ1) ∧ Mo σ σ1 ∧ ∃ σ2, G σ1 = some (r, σ2) ∧ Rel (c + 1) σ2
theorem Call_of {c : Nat} {F F' G G' : Mem → Res} {σ : Mem} (h : Call c F' G' σ) (hF : F σ = F' σ) (hG : ∀ σ1, Mo σ σ1 → G σ1 = G' σ1) : Call c F G σ := by
  obtain ⟨r, σ1, a, b, σ2, d, e⟩ := h
  exact ⟨r, σ1, hF.trans a, b, σ2, (hG σ1 b).trans d, e⟩
/-- both only read -/
theorem Call_ro {c : Nat} {F G : Mem → Res} {σ : Mem} {v : Int32} (w : Rel c σ) (hF : RO F σ v) (hG : ∀ σ1, Same σ σ1 → RO G σ1 v) : Call c F G σ := by
  obtain ⟨σ1, a, b⟩ := hF
  obtain ⟨σ2, d, e⟩ := hG σ1 b
  exact ⟨v, σ1, a, Mo.of b, σ2, d, (w.same (b.tr e)).up⟩
theorem rel_err {c : Nat} {σ : Mem} (w : Rel c σ) (k : Nat) : Rel (c + 1) (mset (mset σ 52 k (σ 52 k + 1)) 56 k (mset σ 52 k (σ 52 k + 1) 56 k + 1)) := by
  refine (w.sm (fun q h1 h2 h3 h4 h5 h6 => by rw [mset_ne h6, mset_ne h5]) ?_).up
  rw [mset_ne (by decide), mset_eq, mset_eq, mset_ne (by decide), w.2.2.2.1]
theorem mo_err {σ : Mem} (k : Nat) (v : Int32) : Mo σ (mset σ 52 k v) := fun q h1 _ _ => mset_ne (by omega)
theorem Call_e1 {c : Nat} {σ : Mem} (w : Rel c σ) : Call c (fun σ => f_X7_error_0 1 σ) (fun σ => f_X8_error_53 (-1000000001) σ) σ := ⟨_, _, x_err1 _, mo_err _ _, _, m_err1 _, rel_err w 1⟩
theorem Call_e2 {c : Nat} {σ : Mem} (w : Rel c σ) : Call c (fun σ => f_X7_error_0 2 σ) (fun σ => f_X8_error_53 (-1000000002) σ) σ := ⟨_, _, x_err2 _, mo_err _ _, _, m_err2 _, rel_err w 2⟩
theorem Call_e3 {c : Nat} {σ : Mem} (w : Rel c σ) : Call c (fun σ => f_X7_error_0 3 σ) (fun σ => f_X8_error_53 (-1000000003) σ) σ := ⟨_, _, x_err3 _, mo_err _ _, _, m_err3 _, rel_err w 3⟩
theorem Call_e4 {c : Nat} {σ : Mem} (w : Rel c σ) : Call c (fun σ => f_X7_error_0 4 σ) (fun σ => f_X8_error_53 (-1000000004) σ) σ := ⟨_, _, x_err4 _, mo_err _ _, _, m_err4 _, rel_err w 4⟩
theorem Call_e5 {c : Nat} {σ : Mem} (w : Rel c σ) : Call c (fun σ => f_X7_error_0 5 σ) (fun σ => f_X8_error_53 (-1000000005) σ) σ := ⟨_, _, x_err5 _, mo_err _ _, _, m_err5 _, rel_err w 5⟩
theorem Call_e6 {c : Nat} {σ : Mem} (w : Rel c σ) : Call c (fun σ => f_X7_error_0 6 σ) (fun σ => f_X8_error_53 (-1000000006) σ) σ := ⟨_, _, x_err6 _, mo_err _ _, _, m_err6 _, rel_err w 6⟩
theorem bd_et (o : Res) : bd o (fun r s => some (r, s)) = o := by
  cases o <;> rfl
theorem n01 : ¬ (1 : Int32) = 0 := by decide
theorem lt_pred {a : Int32} {n : Nat} (hn : n < 2147483648) : (a ≤ nI n - 1) = (a < nI n) := by
  apply propext
  rcases Nat.eq_zero_or_pos n with h | h
  · subst h
    constructor
    · intro q
      exact Int32.lt_of_le_of_lt q (by decide)
    · intro q
      have e := Int32.lt_iff_toInt_lt.mp q
      rw [Int32.le_iff_toInt_le]
      have e1 : (nI 0 - 1).toInt = -1 := rfl
      have e2 : (nI 0).toInt = 0 := rfl
      omega
  · obtain ⟨k, rfl⟩ : ∃ k, n = k + 1 := ⟨n - 1, by omega⟩
    rw [nI_pred, Int32.le_iff_toInt_le, Int32.lt_iff_toInt_lt, nI_toInt (by omega), nI_toInt (by omega)]
    omega
theorem m_isP {c : Nat} {σ σ1 : Mem} (w : Rel c σ) (h : Mo σ σ1) (a : Int32) : f_X8_isPitch_53 a σ1 = some (if 0 ≤ a ∧ a < σ 2 4 then 1 else 0, σ1) := by
  obtain ⟨n, hn, e⟩ := w.1.1.1
  rw [m_isPitch, h.r, w.2.1.r7, e]
  simp only [lt_pred (show n < 2147483648 by omega)]
theorem m_isR {c : Nat} {σ σ1 : Mem} (w : Rel c σ) (h : Mo σ σ1) (a : Int32) : f_X8_isRunner_53 a σ1 = some (if 0 ≤ a ∧ a < σ 7 5 then 1 else 0, σ1) := by
  obtain ⟨n, hn, e⟩ := w.1.1.2
  rw [m_isRunner, h.r, w.2.1.r8, e]
  simp only [lt_pred (show n < 2147483648 by omega)]
theorem cutP {c : Nat} {σ : Mem} (w : Rel c σ) {a : Int32} (h : 0 ≤ a ∧ a < σ 2 4) : ∃ i : Nat, i < 6 ∧ a = nI i := by
  obtain ⟨n, hn, e⟩ := w.1.1.1
  rw [e] at h
  obtain ⟨i, hi, rfl⟩ := nI_of (Int32.not_lt.mpr h.1)
  exact ⟨i, by have := (nI_ltI hi (by omega)).mp h.2; omega, rfl⟩
theorem cutR {c : Nat} {σ : Mem} (w : Rel c σ) {a : Int32} (h : 0 ≤ a ∧ a < σ 7 5) : ∃ i : Nat, i < 5 ∧ a = nI i := by
  obtain ⟨n, hn, e⟩ := w.1.1.2
  rw [e] at h
  obtain ⟨i, hi, rfl⟩ := nI_of (Int32.not_lt.mpr h.1)
  exact ⟨i, by have := (nI_ltI hi (by omega)).mp h.2; omega, rfl⟩
theorem Rel.rm {c : Nat} {σ σ1 : Mem} (w : Rel c σ) (h : Mo σ σ1) : RM (σ1 54) σ := by
  rw [h.r]
  exact w.2.1
