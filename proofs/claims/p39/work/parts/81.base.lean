/-! places as natural numbers; runs that leave all but scratch as it was -/
theorem mulI (a b : Nat) : nI a * nI b = nI (a * b) := (Int32.ofNat_mul a b).symm
theorem i_4 (i : Nat) : 4 * nI i = nI (4 * i) := mulI 4 i
theorem i_5 (i : Nat) : 5 * nI i = nI (5 * i) := mulI 5 i
theorem i_24 (i : Nat) : 24 * nI i = nI (24 * i) := mulI 24 i
theorem i_24r (i : Nat) : nI i * 24 = nI (i * 24) := mulI i 24
theorem i_11 (i : Nat) : 11 + nI i = nI (11 + i) := nI_add 11 i
theorem i_35 (i : Nat) : 35 + nI i = nI (35 + i) := nI_add 35 i
theorem i_60 (i : Nat) : 60 + nI i = nI (60 + i) := nI_add 60 i
theorem i_120 (i : Nat) : 120 + nI i = nI (120 + i) := nI_add 120 i
theorem i_a0 (i : Nat) : nI i + 0 = nI i := nI_add i 0
theorem i_a2 (i : Nat) : nI i + 2 = nI (i + 2) := nI_add i 2
theorem i_a3 (i : Nat) : nI i + 3 = nI (i + 3) := nI_add i 3
theorem i_a4 (i : Nat) : nI i + 4 = nI (i + 4) := nI_add i 4
theorem i_a61 (i : Nat) : nI i + 61 = nI (i + 61) := nI_add i 61
theorem gin {k n : Nat} {x : Res} (h : k < n ∧ n < 2147483648) : gi (nI k) n x = x := gi_of (vp_in_nI h.1 h.2)
theorem cln {n : Nat} (h : n < 2147483648) : (nI n).toNatClampNeg = n := nI_clamp h
theorem gil (k : Nat) {i : Int32} {n : Nat} {x : Res} (e : i = nI k) (h : k < n ∧ n < 2147483648) : gi i n x = x := by
  rw [e]
  exact gin h
theorem g0_386 (x : Res) : gi 0 386 x = x := gil 0 rfl (by omega)
theorem g1_386 (x : Res) : gi 1 386 x = x := gil 1 rfl (by omega)
theorem g2_386 (x : Res) : gi 2 386 x = x := gil 2 rfl (by omega)
theorem g3_386 (x : Res) : gi 3 386 x = x := gil 3 rfl (by omega)
theorem g4_386 (x : Res) : gi 4 386 x = x := gil 4 rfl (by omega)
theorem g5_386 (x : Res) : gi 5 386 x = x := gil 5 rfl (by omega)
theorem g6_386 (x : Res) : gi 6 386 x = x := gil 6 rfl (by omega)
theorem g7_386 (x : Res) : gi 7 386 x = x := gil 7 rfl (by omega)
theorem g8_386 (x : Res) : gi 8 386 x = x := gil 8 rfl (by omega)
theorem g9_386 (x : Res) : gi 9 386 x = x := gil 9 rfl (by omega)
theorem g10_386 (x : Res) : gi 10 386 x = x := gil 10 rfl (by omega)
theorem g0_3 (x : Res) : gi 0 3 x = x := gil 0 rfl (by omega)
theorem g1_3 (x : Res) : gi 1 3 x = x := gil 1 rfl (by omega)
theorem g2_3 (x : Res) : gi 2 3 x = x := gil 2 rfl (by omega)
theorem g0_60 (x : Res) : gi 0 60 x = x := gil 0 rfl (by omega)
theorem c_0 : (0 : Int32).toNatClampNeg = 0 := rfl
theorem c_1 : (1 : Int32).toNatClampNeg = 1 := rfl
theorem c_2 : (2 : Int32).toNatClampNeg = 2 := rfl
theorem c_3 : (3 : Int32).toNatClampNeg = 3 := rfl
theorem c_4 : (4 : Int32).toNatClampNeg = 4 := rfl
theorem c_5 : (5 : Int32).toNatClampNeg = 5 := rfl
theorem c_6 : (6 : Int32).toNatClampNeg = 6 := rfl
theorem c_7 : (7 : Int32).toNatClampNeg = 7 := rfl
theorem c_8 : (8 : Int32).toNatClampNeg = 8 := rfl
theorem c_9 : (9 : Int32).toNatClampNeg = 9 := rfl
theorem c_10 : (10 : Int32).toNatClampNeg = 10 := rfl
theorem z5 (x : Res) : gz 5 x = x := gz_of (by decide)
theorem z10 (x : Res) : gz 10 x = x := gz_of (by decide)
theorem z2 (x : Res) : gz 2 x = x := gz_of (by decide)
theorem z4 (x : Res) : gz 4 x = x := gz_of (by decide)
theorem z21 (x : Res) : gz 21 x = x := gz_of (by decide)
/-- all but scratch (the stacks 15, 18 of the class, the rows 62, 63 of the reference) as it was -/
def Same (σ σ' : Mem) : Prop := ∀ k, ¬ k = 15 → ¬ k = 18 → ¬ k = 62 → ¬ k = 63 → σ' k = σ k
theorem Same.rf (σ : Mem) : Same σ σ := fun _ _ _ _ _ => rfl
theorem Same.tr {a b c : Mem} (h : Same a b) (h2 : Same b c) : Same a c := fun k h15 h18 h62 h63 => (h2 k h15 h18 h62 h63).trans (h k h15 h18 h62 h63)
theorem Same.set {σ : Mem} {k j : Nat} {v : Int32} (h : k = 15 ∨ k = 18 ∨ k = 62 ∨ k = 63) : Same σ (mset σ k j v) := fun q h15 h18 h62 h63 => mset_ne (by omega)
def RO (F : Mem → Res) (σ : Mem) (v : Int32) : Prop := ∃ σ', F σ = some (v, σ') ∧ Same σ σ'
theorem RO.pure {F : Mem → Res} {σ : Mem} {v : Int32} (h : F σ = some (v, σ)) : RO F σ v := ⟨σ, h, Same.rf σ⟩
theorem RO_bd {F : Mem → Res} {K : Int32 → Mem → Res} {σ : Mem} {v w : Int32} (h : RO F σ v) (k : ∀ σ', Same σ σ' → RO (K v) σ' w) : RO (fun σ => bd (F σ) K) σ w := by
  obtain ⟨σ1, a, b⟩ := h
  obtain ⟨σ2, c, d⟩ := k σ1 b
  exact ⟨σ2, by show bd (F σ) K = _; rw [a]; exact c, b.tr d⟩
theorem RO.to {F G : Mem → Res} {σ : Mem} {v : Int32} (h : RO G σ v) (e : F σ = G σ) : RO F σ v := by
  obtain ⟨σ1, a, b⟩ := h
  exact ⟨σ1, e.trans a, b⟩
/-- the signs of a TEXT between two values -/
def jn (sg x y : Int32) : Int32 :=
  if sg = 37 then (if y = 0 then 0 else x - x / y * y) else if sg = 38 then (if x = 0 then 0 else if y = 0 then 0 else 1) else if sg = 42 then x * y else if sg = 43 then x + y else if sg = 45 then x - y else
  if sg = 47 then (if y = 0 then 0 else x / y) else if sg = 60 then (if y ≤ x then 0 else 1) else if sg = 61 then (if x = y then 1 else 0) else if sg = 62 then (if x ≤ y then 0 else 1) else (if x = 0 then (if y = 0 then 0 else 1) else 1)
def isSg (sg : Int32) : Prop := sg = 37 ∨ sg = 38 ∨ sg = 42 ∨ sg = 43 ∨ sg = 45 ∨ sg = 47 ∨ sg = 60 ∨ sg = 61 ∨ sg = 62 ∨ sg = 124
theorem ite_some {P : Prop} [Decidable P] (a b : Int32) (σ : Mem) : (if P then (some (a, σ) : Res) else some (b, σ)) = some (if P then a else b, σ) := by
  by_cases h : P
  · rw [if_pos h, if_pos h]
  · rw [if_neg h, if_neg h]
theorem m_twoOf (sg x y : Int32) (σ : Mem) : f_X8_twoOf sg x y σ = some (jn sg x y, σ) := by
  unfold f_X8_twoOf jn
  by_cases h : y = 0
  · simp only [if_pos h, nm_mk, ite_some]
  · simp only [if_neg h, gz_of h, nm_mk, ite_some]
theorem x_joined {sg : Int32} (hs : isSg sg) (x y : Int32) (σ : Mem) : f_X5_joined sg x y σ = some (jn sg x y, σ) := by
  unfold f_X5_joined jn
  have e : ¬ sg = 37 → ¬ sg = 38 → ¬ sg = 42 → ¬ sg = 43 → ¬ sg = 45 → ¬ sg = 47 → ¬ sg = 60 → ¬ sg = 61 → ¬ sg = 62 → sg = 124 := by
    intro a b c d e f g h i
    rcases hs with q | q | q | q | q | q | q | q | q | q <;> first | exact absurd q ‹_› | exact q
  by_cases h37 : sg = 37
  · by_cases h : y = 0
    · simp only [if_pos h37, if_pos h]
    · simp only [if_pos h37, if_neg h, gz_of h, nm_mk]
  by_cases h38 : sg = 38
  · simp only [if_neg h37, if_pos h38, ite_some]
  by_cases h42 : sg = 42
  · simp only [if_neg h37, if_neg h38, if_pos h42, nm_mk]
  by_cases h43 : sg = 43
  · simp only [if_neg h37, if_neg h38, if_neg h42, if_pos h43, nm_mk]
  by_cases h45 : sg = 45
  · simp only [if_neg h37, if_neg h38, if_neg h42, if_neg h43, if_pos h45, nm_mk]
  by_cases h47 : sg = 47
  · by_cases h : y = 0
    · simp only [if_neg h37, if_neg h38, if_neg h42, if_neg h43, if_neg h45, if_pos h47, if_pos h]
    · simp only [if_neg h37, if_neg h38, if_neg h42, if_neg h43, if_neg h45, if_pos h47, if_neg h, gz_of h, nm_mk]
  by_cases h60 : sg = 60
  · simp only [if_neg h37, if_neg h38, if_neg h42, if_neg h43, if_neg h45, if_neg h47, if_pos h60, ite_some]
  by_cases h61 : sg = 61
  · simp only [if_neg h37, if_neg h38, if_neg h42, if_neg h43, if_neg h45, if_neg h47, if_neg h60, if_pos h61, ite_some]
  by_cases h62 : sg = 62
  · simp only [if_neg h37, if_neg h38, if_neg h42, if_neg h43, if_neg h45, if_neg h47, if_neg h60, if_neg h61, if_pos h62, ite_some]
  · simp only [if_neg h37, if_neg h38, if_neg h42, if_neg h43, if_neg h45, if_neg h47, if_neg h60, if_neg h61, if_neg h62, if_pos (e h37 h38 h42 h43 h45 h47 h60 h61 h62), ite_some]
