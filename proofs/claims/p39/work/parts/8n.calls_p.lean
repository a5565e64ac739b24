/-! weightsBy -/
/-- a number of 0 to 9 is the same one on both sides -/
theorem cut9 {a : Int32} (h : 0 ≤ a ∧ a ≤ 9) : ∃ j : Nat, j ≤ 9 ∧ a = nI j := nI_of2 (M := 9) (n := 9) (by decide) (Int32.not_lt.mpr h.1) h.2
theorem d8 : ∀ j : Nat, j ≤ 9 → (nI j).toInt8.toInt32 = nI j ∧ nI j &&& 255 = nI j ∧ (nI j).toInt16.toInt32 = nI j ∧ nI j &&& 65535 = nI j := by
  intro j hj
  match j, hj with
  | 0, _ => decide +kernel
  | 1, _ => decide +kernel
  | 2, _ => decide +kernel
  | 3, _ => decide +kernel
  | 4, _ => decide +kernel
  | 5, _ => decide +kernel
  | 6, _ => decide +kernel
  | 7, _ => decide +kernel
  | 8, _ => decide +kernel
  | 9, _ => decide +kernel
theorem cr_d {b x m : Int32} (h : cr b x m) : ((0 ≤ x ∧ x ≤ 9) = (0 ≤ m ∧ m ≤ 9)) ∧ ((0 ≤ m ∧ m ≤ 9) → x = m) := by
  have key : ((0 ≤ x ∧ x ≤ 9) → x = m) ∧ ((0 ≤ m ∧ m ≤ 9) → x = m) := by
    by_cases h8 : b = 8
    · obtain ⟨h1, h2⟩ := h.1 h8
      have e : m = x.toInt8.toInt32 := by rw [h1, and8, h2]
      refine ⟨fun q => ?_, fun q => ?_⟩
      · obtain ⟨j, hj, ej⟩ := cut9 q
        rw [e, ej, (d8 j hj).1]
      · obtain ⟨j, hj, ej⟩ := cut9 q
        rw [h1, ej, (d8 j hj).2.1]
    · by_cases h16 : b = 16
      · obtain ⟨h1, h2⟩ := h.2.1 h16
        have e : m = x.toInt16.toInt32 := by rw [h1, and16, h2]
        refine ⟨fun q => ?_, fun q => ?_⟩
        · obtain ⟨j, hj, ej⟩ := cut9 q
          rw [e, ej, (d8 j hj).2.2.1]
        · obtain ⟨j, hj, ej⟩ := cut9 q
          rw [h1, ej, (d8 j hj).2.2.2]
      · have e := h.2.2 h8 h16
        exact ⟨fun _ => e, fun _ => e⟩
  refine ⟨propext ⟨fun q => by rw [← key.1 q]; exact q, fun q => by rw [key.2 q]; exact q⟩, key.2⟩
