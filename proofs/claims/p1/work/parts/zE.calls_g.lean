/-! fits: the class goes up, the reference down -/
def cuN (v : Nat → Bool) : Nat → Nat
  | 0 => 0
  | n + 1 => if v n = true then cuN v n + 1 else cuN v n
def foN (v : Nat → Bool) : Nat → Option Nat
  | 0 => none
  | n + 1 => match foN v n with
    | some k => some k
    | none => if v n = true then some n else none
def oI : Option Nat → Int32
  | none => -1
  | some k => nI k
theorem cuN_le (v : Nat → Bool) : ∀ n, cuN v n ≤ n
  | 0 => Nat.le_refl _
  | n + 1 => by
    have := cuN_le v n
    unfold cuN
    split <;> omega
theorem foN_le (v : Nat → Bool) : ∀ n k, foN v n = some k → k < n
  | 0, k, h => by cases h
  | n + 1, k, h => by
    unfold foN at h
    cases e : foN v n with
    | some q =>
      rw [e] at h
      have := foN_le v n q e
      injection h with h
      omega
    | none =>
      rw [e] at h
      by_cases hv : v n = true
      · simp only [if_pos hv] at h
        injection h with h
        omega
      · simp only [if_neg hv] at h
        cases h
theorem oI_pos {k : Nat} (hk : k < 1000) : (0 : Int32) ≤ oI (some k) := (nI_leI (a := 0) (by omega) (by omega)).mpr (by omega)
theorem oI_neg : ¬ (0 : Int32) ≤ oI none := by decide
/-- what the answer is, once all is counted -/
def fitsV (x3 : Int32) (cnt : Nat) (o : Option Nat) : Option Int32 := if x3 = 0 then some (nI cnt) else o.map nI
theorem fits_lx {c : Nat} {s r n np : Nat} (hs : s < 4) (hr : r < 5) (hn : n ≤ 24) (hnp : np ≤ 6) (x3 : Int32) {S : Mem} (w : Rel c S) (h48 : S 48 s = nI n) (h24 : S 2 4 = nI np) {v : Nat → Bool} (hv : v = fun j => fitB S s r (nI j) n np) (fu : Nat) : ∀ (j : Nat) (σ : Mem), j ≤ 21 → 21 - j < fu → Same S σ → ∃ σ1, Same S σ1 ∧ f_X7_fits_0_L56 fu (nI s) (nI r) x3 (nI (cuN v j)) (oI (foN v j)) (nI j) σ = (match fitsV x3 (cuN v 21) (foN v 21) with | some q => some (q, σ1) | none => f_X7_error_0 2 σ1) := by
  induction fu with
  | zero => intro j σ h1 h2; omega
  | succ fu ih =>
    intro j σ h1 h2 h
    show ∃ σ1, Same S σ1 ∧ fb_X7_fits_0_L56 (f_X7_fits_0_L56 fu) (nI s) (nI r) x3 (nI (cuN v j)) (oI (foN v j)) (nI j) σ = _
    rw [fb_X7_fits_0_L56]
    by_cases hj : j = 21
    · subst hj
      refine ⟨σ, h, ?_⟩
      rw [if_pos (show (20 : Int32) < nI 21 by decide), bd_et]
      unfold fitsV
      by_cases h0 : x3 = 0
      · rw [if_pos h0, if_pos h0]
      · rw [if_neg h0, if_neg h0]
        cases e : foN v 21 with
        | none => rw [if_neg oI_neg]; rfl
        | some k => rw [if_pos (oI_pos (by have := foN_le v 21 k e; omega))]; rfl
    · have q : ¬ (20 : Int32) < nI j := fun q => by
        have := (nI_ltI (a := 20) (by omega) (by omega)).mp q
        omega
      obtain ⟨σ1, a, b⟩ := x_fitsFrom w h hs hr hn hnp h48 h24 (nI j)
      obtain ⟨σ2, d, e⟩ := ih (j + 1) σ1 (by omega) (by omega) (h.tr b)
      refine ⟨σ2, d, ?_⟩
      rw [if_neg q, a, bd_mk, ← e]
      have hvj : v j = fitB S s r (nI j) n np := by rw [hv]
      by_cases hf : fitB S s r (nI j) n np = true
      · rw [if_pos hf, if_neg n01, nm_mk, nI_1, show cuN v (j + 1) = cuN v j + 1 by rw [cuN, hvj, if_pos hf]]
        cases e : foN v j with
        | none => rw [if_neg oI_neg, nm_mk, nI_1, show foN v (j + 1) = some j by rw [foN, e]; show (if v j = true then some j else none) = _; rw [hvj, if_pos hf]]; rfl
        | some k => rw [if_pos (oI_pos (by have := foN_le v j k e; omega)), nm_mk, nI_1, show foN v (j + 1) = some k by rw [foN, e]]
      · rw [if_neg hf, if_pos rfl, nm_mk, nI_1, show cuN v (j + 1) = cuN v j by rw [cuN, hvj, if_neg hf]]
        have : foN v (j + 1) = foN v j := by
          rw [foN]
          cases e : foN v j with
          | none => show (if v j = true then some j else none) = _; rw [hvj, if_neg hf]
          | some k => rfl
        rw [this]
