/-! the pure programs of the leaves, by what they answer -/
theorem bd_mk (r : Int32) (s : Mem) (K : Int32 → Mem → Res) : bd (some (r, s)) K = K r s := rfl
theorem nm_mk {β : Type} (e : β) (K : β → Res) : nm e K = K e := rfl
theorem gb_0 (x : Res) : gb 0 x = x := rfl
theorem gb_1 (x : Res) : gb 1 x = x := rfl
theorem gb_of {v : Int32} {x : Res} (h : v = 0 ∨ v = 1) : gb v x = x := if_pos h
theorem gb_ite {P : Prop} [Decidable P] {x : Res} : gb (if P then 1 else 0) x = x := by
  by_cases h : P
  · rw [if_pos h]; rfl
  · rw [if_neg h]; rfl
theorem gi_of {i : Int32} {n : Nat} {x : Res} (h : vp_in i n) : gi i n x = x := if_pos h
theorem gz_of {y : Int32} {x : Res} (h : ¬ y = 0) : gz y x = x := if_pos h
theorem gt_of {b : Bool} {x : Res} (h : b = true) : gt b x = x := if_pos h
theorem ifz {α : Type} {P : Prop} [Decidable P] {A B : α} : (if (if P then (1 : Int32) else 0) = 0 then A else B) = if P then B else A := by
  by_cases h : P
  · rw [if_pos h, if_pos h]; rfl
  · rw [if_neg h, if_neg h]; rfl
theorem within_eq (a b c : Int32) (σ : Mem) : f_X7_within a b c σ = some (if b ≤ a ∧ a ≤ c then 1 else 0, σ) := by
  unfold f_X7_within
  by_cases h1 : a < b
  · rw [if_pos h1, if_neg (fun h => absurd h.1 (Int32.not_le.mpr h1))]; rfl
  · rw [if_neg h1]
    by_cases h2 : c < a
    · rw [if_pos h2, if_neg (fun h => absurd h.2 (Int32.not_le.mpr h2))]; rfl
    · rw [if_neg h2, if_pos ⟨Int32.not_lt.mp h1, Int32.not_lt.mp h2⟩]; rfl
theorem in_eq (a b c : Int32) (σ : Mem) : f_X8_in a b c σ = some (if b ≤ a ∧ a ≤ c then 1 else 0, σ) := by
  unfold f_X8_in
  by_cases h1 : a < b
  · rw [if_pos h1, if_neg (fun h => absurd h.1 (Int32.not_le.mpr h1))]; rfl
  · rw [if_neg h1]
    by_cases h2 : c < a
    · rw [if_pos h2, if_neg (fun h => absurd h.2 (Int32.not_le.mpr h2))]; rfl
    · rw [if_neg h2, if_pos ⟨Int32.not_lt.mp h1, Int32.not_lt.mp h2⟩]; rfl
theorem x_isDigit (a : Int32) (σ : Mem) : f_X7_isDigit a σ = some (if 0 ≤ a ∧ a ≤ 9 then 1 else 0, σ) := by
  rw [f_X7_isDigit, within_eq, bd_mk, gb_ite]
theorem x_isKindAndM (a : Int32) (σ : Mem) : f_X7_isKindAndM a σ = some (if 0 ≤ a ∧ a ≤ 69 then 1 else 0, σ) := by
  rw [f_X7_isKindAndM, within_eq, bd_mk, gb_ite]
theorem x_isFeet (a : Int32) (σ : Mem) : f_X7_isFeet a σ = some (if 0 ≤ a ∧ a ≤ 20 then 1 else 0, σ) := by
  rw [f_X7_isFeet, within_eq, bd_mk, gb_ite]
theorem x_isUse (a : Int32) (σ : Mem) : f_X7_isUse a σ = some (if 0 ≤ a ∧ a ≤ 1 then 1 else 0, σ) := by
  rw [f_X7_isUse, within_eq, bd_mk, gb_ite]
theorem x_isSheet (a : Int32) (σ : Mem) : f_X7_isSheet a σ = some (if 0 ≤ a ∧ a ≤ 3 then 1 else 0, σ) := by
  rw [f_X7_isSheet, within_eq, bd_mk, gb_ite]
theorem m_isKm (a : Int32) (σ : Mem) : f_X8_isKm a σ = some (if 0 ≤ a ∧ a ≤ 69 then 1 else 0, σ) := by
  rw [f_X8_isKm, in_eq, bd_mk, gb_ite]
theorem m_isLead (a : Int32) (σ : Mem) : f_X8_isLead a σ = some (if 0 ≤ a ∧ a ≤ 20 then 1 else 0, σ) := by
  rw [f_X8_isLead, in_eq, bd_mk, gb_ite]
theorem m_isSheet (a : Int32) (σ : Mem) : f_X8_isSheet a σ = some (if 0 ≤ a ∧ a ≤ 3 then 1 else 0, σ) := by
  rw [f_X8_isSheet, in_eq, bd_mk, gb_ite]
/-- an ERROR is counted -/
theorem x_err1 (σ : Mem) : f_X7_error_0 1 σ = some (-1000000001, mset σ 52 1 (σ 52 1 + 1)) := rfl
theorem x_err2 (σ : Mem) : f_X7_error_0 2 σ = some (-1000000002, mset σ 52 2 (σ 52 2 + 1)) := rfl
theorem x_err3 (σ : Mem) : f_X7_error_0 3 σ = some (-1000000003, mset σ 52 3 (σ 52 3 + 1)) := rfl
theorem x_err4 (σ : Mem) : f_X7_error_0 4 σ = some (-1000000004, mset σ 52 4 (σ 52 4 + 1)) := rfl
theorem x_err5 (σ : Mem) : f_X7_error_0 5 σ = some (-1000000005, mset σ 52 5 (σ 52 5 + 1)) := rfl
theorem x_err6 (σ : Mem) : f_X7_error_0 6 σ = some (-1000000006, mset σ 52 6 (σ 52 6 + 1)) := rfl
theorem m_err1 (σ : Mem) : f_X8_error_53 (-1000000001) σ = some (-1000000001, mset σ 56 1 (σ 56 1 + 1)) := rfl
theorem m_err2 (σ : Mem) : f_X8_error_53 (-1000000002) σ = some (-1000000002, mset σ 56 2 (σ 56 2 + 1)) := rfl
theorem m_err3 (σ : Mem) : f_X8_error_53 (-1000000003) σ = some (-1000000003, mset σ 56 3 (σ 56 3 + 1)) := rfl
theorem m_err4 (σ : Mem) : f_X8_error_53 (-1000000004) σ = some (-1000000004, mset σ 56 4 (σ 56 4 + 1)) := rfl
theorem m_err5 (σ : Mem) : f_X8_error_53 (-1000000005) σ = some (-1000000005, mset σ 56 5 (σ 56 5 + 1)) := rfl
theorem m_err6 (σ : Mem) : f_X8_error_53 (-1000000006) σ = some (-1000000006, mset σ 56 6 (σ 56 6 + 1)) := rfl
theorem mset_ne {σ : Mem} {k k' j : Nat} {v : Int32} (h : ¬ k' = k) : mset σ k j v k' = σ k' := if_neg h
theorem mset_eq {σ : Mem} {k j : Nat} {v : Int32} : mset σ k j v k = upd (σ k) j v := if_pos rfl
theorem mrow_ne {σ : Mem} {k k' : Nat} {f : Nat → Int32} (h : ¬ k' = k) : mrow σ k f k' = σ k' := if_neg h
theorem mrow_eq {σ : Mem} {k : Nat} {f : Nat → Int32} : mrow σ k f k = f := if_pos rfl
theorem x_isPitch (a : Int32) (σ : Mem) : f_X7_isPitch_0 a σ = some (if 0 ≤ a ∧ a < σ 2 4 then 1 else 0, σ) := by
  unfold f_X7_isPitch_0
  by_cases h1 : a < 0
  · rw [if_pos h1, if_neg (fun h => absurd h.1 (Int32.not_le.mpr h1))]; rfl
  · rw [if_neg h1, nm_mk]
    by_cases h2 : σ 2 4 ≤ a
    · rw [if_pos h2, if_neg (fun h => absurd h.2 (Int32.not_lt.mpr h2))]; rfl
    · rw [if_neg h2, if_pos ⟨Int32.not_lt.mp h1, Int32.not_le.mp h2⟩]; rfl
theorem x_isRunner (a : Int32) (σ : Mem) : f_X7_isRunner_0 a σ = some (if 0 ≤ a ∧ a < σ 7 5 then 1 else 0, σ) := by
  unfold f_X7_isRunner_0
  by_cases h1 : a < 0
  · rw [if_pos h1, if_neg (fun h => absurd h.1 (Int32.not_le.mpr h1))]; rfl
  · rw [if_neg h1, nm_mk]
    by_cases h2 : σ 7 5 ≤ a
    · rw [if_pos h2, if_neg (fun h => absurd h.2 (Int32.not_lt.mpr h2))]; rfl
    · rw [if_neg h2, if_pos ⟨Int32.not_lt.mp h1, Int32.not_le.mp h2⟩]; rfl
theorem m_isPitch (a : Int32) (σ : Mem) : f_X8_isPitch_53 a σ = some (if 0 ≤ a ∧ a ≤ σ 54 7 - 1 then 1 else 0, σ) := by
  rw [f_X8_isPitch_53, gi_of (vp_in_iff.mpr ⟨by decide, by decide⟩), nm_mk, nm_mk, in_eq, bd_mk, gb_ite]
  rfl
theorem m_isRunner (a : Int32) (σ : Mem) : f_X8_isRunner_53 a σ = some (if 0 ≤ a ∧ a ≤ σ 54 8 - 1 then 1 else 0, σ) := by
  rw [f_X8_isRunner_53, gi_of (vp_in_iff.mpr ⟨by decide, by decide⟩), nm_mk, nm_mk, in_eq, bd_mk, gb_ite]
  rfl
