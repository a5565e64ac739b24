/-! fits: the class goes up, the reference down -/
def cuN (v : Nat → Bool) : Nat → Nat
  | 0 => 0
  | n + 1 => if v n = true then cuN v n + 1 else cuN v n
def foN (v : Nat → Bool) : Nat → Option Nat
  | 0 => none
  | n + 1 => match foN v n with
    | some k => some k
    | none => if v n = true then some n else none
def oI : Option Nat → Int32
  | none => -1
  | some k => nI k
theorem cuN_le (v : Nat → Bool) : ∀ n, cuN v n ≤ n
  | 0 => Nat.le_refl _
  | n + 1 => by
    have := cuN_le v n
    unfold cuN
    split <;> omega
theorem foN_le (v : Nat → Bool) : ∀ n k, foN v n = some k → k < n
  | 0, k, h => by cases h
  | n + 1, k, h => by
    unfold foN at h
    cases e : foN v n with
    | some q =>
      rw [e] at h
      have := foN_le v n q e
      injection h with h
      omega
    | none =>
      rw [e] at h
      by_cases hv : v n = true
      · simp only [if_pos hv] at h
        injection h with h
        omega
      · simp only [if_neg hv] at h
        cases h
theorem oI_pos {k : Nat} (hk : k < 1000) : (0 : Int32) ≤ oI (some k) := (nI_leI (a := 0) (by omega) (by omega)).mpr (by omega)
theorem oI_neg : ¬ (0 : Int32) ≤ oI none := by decide
/-- what the answer is, once all is counted -/
def fitsV (x3 : Int32) (cnt : Nat) (o : Option Nat) : Option Int32 := if x3 = 0 then some (nI cnt) else o.map nI
theorem fits_lx {c : Nat} {s r n np : Nat} (hs : s < 4) (hr : r < 5) (hn : n ≤ 24) (hnp : np ≤ 6) (x3 : Int32) {S : Mem} (w : Rel c S) (h48 : S 48 s = nI n) (h24 : S 2 4 = nI np) {v : Nat → Bool} (hv : v = fun j => fitB S s r (nI j) n np) (fu : Nat) : ∀ (j : Nat) (σ : Mem), j ≤ 21 → 21 - j < fu → Same S σ → ∃ σ1, Same S σ1 ∧ f_X7_fits_0_L56 fu (nI s) (nI r) x3 (nI (cuN v j)) (oI (foN v j)) (nI j) σ = (match fitsV x3 (cuN v 21) (foN v 21) with | some q => some (q, σ1) | none => f_X7_error_0 2 σ1) := by
  induction fu with
  | zero => intro j σ h1 h2; omega
  | succ fu ih =>
    intro j σ h1 h2 h
    show ∃ σ1, Same S σ1 ∧ fb_X7_fits_0_L56 (f_X7_fits_0_L56 fu) (nI s) (nI r) x3 (nI (cuN v j)) (oI (foN v j)) (nI j) σ = _
    rw [fb_X7_fits_0_L56]
    by_cases hj : j = 21
    · subst hj
      refine ⟨σ, h, ?_⟩
      rw [if_pos (show (20 : Int32) < nI 21 by decide), bd_et]
      unfold fitsV
      by_cases h0 : x3 = 0
      · rw [if_pos h0, if_pos h0]
      · rw [if_neg h0, if_neg h0]
        cases e : foN v 21 with
        | none => rw [if_neg oI_neg]; rfl
        | some k => rw [if_pos (oI_pos (by have := foN_le v 21 k e; omega))]; rfl
    · have q : ¬ (20 : Int32) < nI j := fun q => by
        have := (nI_ltI (a := 20) (by omega) (by omega)).mp q
        omega
      obtain ⟨σ1, a, b⟩ := x_fitsFrom w h hs hr hn hnp h48 h24 (nI j)
      obtain ⟨σ2, d, e⟩ := ih (j + 1) σ1 (by omega) (by omega) (h.tr b)
      refine ⟨σ2, d, ?_⟩
      rw [if_neg q, a, bd_mk, ← e]
      have hvj : v j = fitB S s r (nI j) n np := by rw [hv]
      by_cases hf : fitB S s r (nI j) n np = true
      · rw [if_pos hf, if_neg n01, nm_mk, nI_1, show cuN v (j + 1) = cuN v j + 1 by rw [cuN, hvj, if_pos hf]]
        cases e : foN v j with
        | none => rw [if_neg oI_neg, nm_mk, nI_1, show foN v (j + 1) = some j by rw [foN, e]; show (if v j = true then some j else none) = _; rw [hvj, if_pos hf]]; rfl
        | some k => rw [if_pos (oI_pos (by have := foN_le v j k e; omega)), nm_mk, nI_1, show foN v (j + 1) = some k by rw [foN, e]]
      · rw [if_neg hf, if_pos rfl, nm_mk, nI_1, show cuN v (j + 1) = cuN v j by rw [cuN, hvj, if_neg hf]]
        have : foN v (j + 1) = foN v j := by
          rw [foN]
          cases e : foN v j with
          | none => show (if v j = true then some j else none) = _; rw [hvj, if_neg hf]
          | some k => rfl
        rw [this]
def xk : Nat → Int32
  | 0 => -1
  | k + 1 => nI k
theorem xk_pred (k : Nat) : nI k + (-1) = xk k := by
  match k with
  | 0 => rfl
  | m + 1 =>
    show nI (m + 1) + (-1) = nI m
    rw [← nI_1, Int32.add_assoc, show (1 : Int32) + -1 = 0 from rfl, Int32.add_zero]
theorem fits_lm {c : Nat} {s r n np : Nat} (hs : s < 4) (hr : r < 5) (hn : n ≤ 24) (hnp : np ≤ 6) (x3 : Int32) {S : Mem} (w : Rel c S) (h48 : S 48 s = nI n) (h24 : S 2 4 = nI np) {v : Nat → Bool} (hv : v = fun j => fitB S s r (nI j) n np) {T : Nat} {O : Option Nat} (fu : Nat) : ∀ (k cnt : Nat) (o : Option Nat) (τ : Mem), k ≤ 21 → k < fu → Mo S τ → cnt + cuN v k = T → (match foN v k with | some q => some q | none => o) = O → (∀ q, o = some q → q < 1000) → ∃ σ1, Same τ σ1 ∧ f_X8_fits_53_L57 fu (nI s) (nI r) x3 (nI cnt) (oI o) (xk k) τ = (match fitsV x3 T O with | some q => some (q, σ1) | none => f_X8_error_53 (-1000000002) σ1) := by
  induction fu with
  | zero => intro k cnt o τ h1 h2; omega
  | succ fu ih =>
    intro k cnt o τ h1 h2 h hT hO ho
    show ∃ σ1, Same τ σ1 ∧ fb_X8_fits_53_L57 (f_X8_fits_53_L57 fu) (nI s) (nI r) x3 (nI cnt) (oI o) (xk k) τ = _
    rw [fb_X8_fits_53_L57]
    match k, h1, h2, hT, hO with
    | 0, _, _, hT, hO =>
      have hT : cnt = T := hT
      have hO : o = O := hO
      subst hT hO
      refine ⟨τ, Same.rf τ, ?_⟩
      rw [if_pos (show xk 0 < 0 by decide), bd_et]
      unfold fitsV
      by_cases h0 : x3 = 0
      · rw [if_pos h0, if_pos h0]
      · rw [if_neg h0, if_neg h0]
        cases o with
        | none => rw [if_neg oI_neg]; rfl
        | some k => rw [if_pos (oI_pos (ho k rfl))]; rfl
    | k + 1, h1, h2, hT, hO =>
      obtain ⟨σ1, a, b⟩ := m_isSo w h hs hr hn hnp h48 h24 (nI k)
      have q : ¬ xk (k + 1) < 0 := Int32.not_lt.mpr ((nI_leI (a := 0) (by omega) (by omega)).mpr (by omega))
      have hvj : v k = fitB S s r (nI k) n np := by rw [hv]
      rw [if_neg q, show xk (k + 1) = nI k from rfl, a, bd_mk]
      by_cases hf : fitB S s r (nI k) n np = true
      · rw [if_pos hf, if_neg n01, nm_mk, if_neg n01, nm_mk, nI_1, xk_pred]
        rw [cuN, hvj, if_pos hf] at hT
        have hO2 : (match foN v k with | some q => some q | none => (some k)) = O := by
          rw [← hO, foN]
          cases foN v k with
          | none => show _ = (match (if v k = true then some k else none) with | some q => some q | none => o); rw [hvj, if_pos hf]
          | some k => rfl
        obtain ⟨σ2, d, e⟩ := ih k (cnt + 1) (some k) σ1 (by omega) (by omega) (h.then b) (by omega) hO2 (fun q hq => by injection hq with hq; omega)
        exact ⟨σ2, b.tr d, e⟩
      · rw [if_neg hf, if_pos rfl, nm_mk, Int32.add_zero, if_pos rfl, nm_mk, xk_pred]
        rw [cuN, hvj, if_neg hf] at hT
        have hO2 : (match foN v k with | some q => some q | none => o) = O := by
          rw [← hO, foN]
          cases foN v k with
          | none => show _ = (match (if v k = true then some k else none) with | some q => some q | none => o); rw [hvj, if_neg hf]
          | some k => rfl
        obtain ⟨σ2, d, e⟩ := ih k cnt o σ1 (by omega) (by omega) (h.then b) hT hO2 ho
        exact ⟨σ2, b.tr d, e⟩
theorem call_fits {c : Nat} {σ : Mem} (w : Rel c σ) (a0 a1 a2 : Int32) : Call c (fun σ => f_X7_fits_0 a0 a1 a2 σ) (fun σ => f_X8_fits_53 a0 a1 a2 σ) σ := by
  unfold f_X7_fits_0 f_X8_fits_53
  refine guard w (x_isSheet a0 σ) (fun τ _ => m_isSheet a0 τ) (fun hs => guardR w a1 (fun r hr e => guard w (within_eq a2 0 1 σ) (fun τ _ => in_eq a2 0 1 τ) (fun hp => ?_)))
  subst e
  obtain ⟨s, hs, rfl⟩ := nI_of2 (M := 3) (n := 3) (by decide) (Int32.not_lt.mpr hs.1) hs.2
  have hs : s < 4 := by omega
  obtain ⟨np, hnp, h24⟩ := w.1.1.1
  obtain ⟨s1, s2, ⟨n, hn, h48⟩, s4, s5⟩ := w.sr s hs
  by_cases h0 : σ 47 s = 0
  · refine Call_of (Call_e2 w) ?_ (fun τ ht => ?_)
    · show bd _ _ = _
      rw [f_X4_isMissing_46, gin (by omega), nm_mk, cln (by omega), if_pos h0, gb_1, bd_mk, if_neg n01, bd_et]
    · show gi _ _ _ = _
      rw [gin (by omega), nm_mk, cln (by omega), ht 57 (by decide) (by decide) (by decide), ← s1, if_pos h0, bd_et]
  · obtain ⟨σ1, b, a⟩ := fits_lx hs hr hn hnp a2 w h48 h24 rfl 1000 0 σ (by omega) (by omega) (Same.rf σ)
    have hx : (bd (f_X4_isMissing_46 (nI s) σ) fun v11 μ12 => if v11 = 0 then (f_X7_fits_0_L56 1000 (nI s) (nI r) a2 0 (-1) 0 μ12) else (bd (f_X7_error_0 2 μ12) fun v21 μ22 => some (v21, μ22))) = f_X7_fits_0_L56 1000 (nI s) (nI r) a2 0 (-1) 0 σ := by
      rw [f_X4_isMissing_46, gin (by omega), nm_mk, cln (by omega), if_neg h0, gb_0, bd_mk, if_pos rfl]
    have hm : ∀ τ, Mo σ τ → (gi (nI s) 4 <| nm (τ 57 (nI s).toNatClampNeg) fun (v11 : Int32) => if v11 = 0 then (bd (f_X8_error_53 (-1000000002) τ) fun v22 μ23 => some (v22, μ23)) else (f_X8_fits_53_L57 1000 (nI s) (nI r) a2 0 (-1) 20 τ)) = f_X8_fits_53_L57 1000 (nI s) (nI r) a2 0 (-1) 20 τ := fun τ ht => by
      rw [gin (by omega), nm_mk, cln (by omega), ht 57 (by decide) (by decide) (by decide), ← s1, if_neg h0]
    have lm := fun τ (h : Mo σ τ) => fits_lm hs hr hn hnp a2 w h48 h24 (v := fun j => fitB σ s r (nI j) n np) (O := foN (fun j => fitB σ s r (nI j) n np) 21) rfl 1000 21 0 none τ (by omega) (by omega) h (Nat.zero_add _) (by cases foN (fun j => fitB σ s r (nI j) n np) 21 <;> rfl) (fun q hq => by cases hq)
    refine Pr.call (Pr_same (F' := fun σ => f_X7_fits_0_L56 1000 (nI s) (nI r) a2 0 (-1) 0 σ) (G' := fun σ => f_X8_fits_53_L57 1000 (nI s) (nI r) a2 0 (-1) 20 σ) ?_ hx hm)
    cases e : fitsV a2 (cuN (fun j => fitB σ s r (nI j) n np) 21) (foN (fun j => fitB σ s r (nI j) n np) 21) with
    | some q =>
      rw [e] at a
      refine Pr_ro w ⟨σ1, a, b⟩ (fun τ h => ?_)
      obtain ⟨τ1, b1, a1⟩ := lm τ (Mo.of h)
      rw [e] at a1
      exact ⟨τ1, a1, b1⟩
    | none =>
      rw [e] at a
      refine (Pr_e2 (w.same b)).step b a (fun τ h => ?_)
      obtain ⟨τ1, b1, a1⟩ := lm τ h
      rw [e] at a1
      exact ⟨τ1, a1, b1⟩
