/-! fractions in lowest terms: the class's and the reference's ways to the greatest common divisor -/
theorem divI {p q : Nat} (hp : p < 2147483648) (hq : q < 2147483648) : nI p / nI q = nI (p / q) := (Int32.ofNat_div hp hq).symm
theorem subI {a b : Nat} (h : b ≤ a) : nI a - nI b = nI (a - b) := (Int32.ofNat_sub a b h).symm
theorem remI {p q : Nat} (hp : p < 2147483648) (hq : q < 2147483648) : nI p - nI p / nI q * nI q = nI (p % q) := by
  have h : p / q * q ≤ p := Nat.div_mul_le_self p q
  rw [divI hp hq, mulI, subI h, Nat.mod_eq_sub_div_mul]
def PF (a b part g : Int32) (σ : Mem) : Res := if 0 ≤ b then (if part = 0 then (gz g <| nm (a / g) fun (v : Int32) => some (v, σ)) else (gz g <| nm (b / g) fun (v : Int32) => some (v, σ))) else (nm (-g) fun (h : Int32) => if part = 0 then (gz h <| nm (a / h) fun (v : Int32) => some (v, σ)) else (gz h <| nm (b / h) fun (v : Int32) => some (v, σ)))
theorem m_gcd (a b part : Int32) (σ : Mem) (fu : Nat) : ∀ p q : Nat, p ≤ q → q < 2147483648 → p * q < 2 ^ fu → f_X8_partOf_L23 (fu + 1) a b part (nI p) (nI q) σ = PF a b part (nI (Nat.gcd p q)) σ := by
  induction fu with
  | zero =>
    intro p q h1 h2 h3
    have hp : p = 0 := by
      rcases Nat.eq_zero_or_pos p with h | h
      · exact h
      · have := Nat.mul_le_mul h (Nat.le_trans h h1)
        omega
    subst hp
    show fb_X8_partOf_L23 (f_X8_partOf_L23 0) a b part (nI 0) (nI q) σ = _
    rw [fb_X8_partOf_L23, if_pos (show nI 0 = 0 from rfl), Nat.gcd_zero_left]
    rfl
  | succ fu ih =>
    intro p q h1 h2 h3
    show fb_X8_partOf_L23 (f_X8_partOf_L23 (fu + 1)) a b part (nI p) (nI q) σ = _
    rw [fb_X8_partOf_L23]
    rcases Nat.eq_zero_or_pos p with hp | hp
    · subst hp
      rw [if_pos (show nI 0 = 0 from rfl), Nat.gcd_zero_left]
      rfl
    · have hn : ¬ nI p = 0 := nI_ne0 hp (by omega)
      rw [if_neg hn, gz_of hn, nm_mk, remI h2 (by omega)]
      have hlt := Nat.mod_lt q hp
      have hdm := Nat.div_add_mod q p
      have hd1 : 1 ≤ q / p := Nat.div_pos h1 hp
      have hmul : p ≤ p * (q / p) := Nat.le_mul_of_pos_right p hd1
      have h2q : 2 * (q % p) ≤ q := by omega
      have hpr : 2 * (q % p * p) ≤ p * q := by
        have := Nat.mul_le_mul_right p h2q
        rw [Nat.mul_comm p q, ← Nat.mul_assoc]
        exact this
      rw [ih (q % p) p (by omega) (by omega) (by rw [Nat.pow_succ] at h3; omega), ← Nat.gcd_rec]
theorem x_gcd (σ : Mem) (k : Nat) : ∀ (fu i p q : Nat), k < fu → i + k < 64 → q ≤ p → 1 ≤ p → p < 2147483648 → p * q < 2 ^ k → f_X7_commonOf_L7 fu (nI p) (nI q) (nI i) σ = some (nI (Nat.gcd p q), σ) := by
  have fin : ∀ p : Nat, 1 ≤ p → p < 2147483648 → (nm (if nI p < 1 then (1 : Int32) else nI p) fun (v1 : Int32) => (some (v1, σ) : Res)) = some (nI p, σ) := by
    intro p h1 h2
    rw [nm_mk, if_neg (show ¬ nI p < 1 from nI_nlt (b := 1) h1 h2)]
  induction k with
  | zero =>
    intro fu i p q h1 h2 h3 h4 h5 h6
    have hq : q = 0 := by
      rcases Nat.eq_zero_or_pos q with h | h
      · exact h
      · have := Nat.mul_le_mul h4 h
        omega
    subst hq
    obtain ⟨fu, rfl⟩ : ∃ f, fu = f + 1 := ⟨fu - 1, by omega⟩
    show fb_X7_commonOf_L7 (f_X7_commonOf_L7 fu) (nI p) (nI 0) (nI i) σ = _
    rw [fb_X7_commonOf_L7, if_neg (show ¬ (64 : Int32) ≤ nI i from fun q => absurd ((nI_leI (a := 64) (by omega) (by omega)).mp q) (by omega)), if_pos (show nI 0 ≤ 0 from Int32.le_refl _), fin p h4 h5, Nat.gcd_zero_right]
  | succ k ih =>
    intro fu i p q h1 h2 h3 h4 h5 h6
    obtain ⟨fu, rfl⟩ : ∃ f, fu = f + 1 := ⟨fu - 1, by omega⟩
    show fb_X7_commonOf_L7 (f_X7_commonOf_L7 fu) (nI p) (nI q) (nI i) σ = _
    rw [fb_X7_commonOf_L7, if_neg (show ¬ (64 : Int32) ≤ nI i from fun q => absurd ((nI_leI (a := 64) (by omega) (by omega)).mp q) (by omega))]
    rcases Nat.eq_zero_or_pos q with hq | hq
    · subst hq
      rw [if_pos (show nI 0 ≤ 0 from Int32.le_refl _), fin p h4 h5, Nat.gcd_zero_right]
    · rw [if_neg (nI_nle hq (by omega)), gz_of (nI_ne0 hq (by omega)), nm_mk, nm_mk, remI h5 (by omega), nI_1]
      have hlt := Nat.mod_lt p hq
      have hdm := Nat.div_add_mod p q
      have hd1 : 1 ≤ p / q := Nat.div_pos h3 hq
      have hmul : q ≤ q * (p / q) := Nat.le_mul_of_pos_right q hd1
      have h2q : 2 * (p % q) ≤ p := by omega
      have hpr : 2 * (q * (p % q)) ≤ p * q := by
        have := Nat.mul_le_mul_left q h2q
        rw [Nat.mul_comm p q, Nat.mul_left_comm]
        exact this
      rw [ih fu (i + 1) q (p % q) (by omega) (by omega) (by omega) hq (by omega) (by rw [Nat.pow_succ] at h6; omega), Nat.gcd_comm q (p % q), ← Nat.gcd_rec, Nat.gcd_comm q p]
theorem m_gcd2 (a b part : Int32) (σ : Mem) (p q : Nat) (hp : p ≤ 100000) (hq : q ≤ 100000) : f_X8_partOf_L23 1000 a b part (nI p) (nI q) σ = PF a b part (nI (Nat.gcd p q)) σ := by
  have big : ∀ x y : Nat, x ≤ 100000 → y ≤ 100000 → x * y < 2 ^ 40 := fun x y hx hy => Nat.lt_of_le_of_lt (Nat.mul_le_mul hx hy) (by decide)
  have up : ∀ (k n : Nat), n < 2 ^ 40 → 40 ≤ k → n < 2 ^ k := fun k n h1 h2 => Nat.lt_of_lt_of_le h1 (Nat.pow_le_pow_right (by decide) h2)
  by_cases h : p ≤ q
  · exact m_gcd a b part σ 999 p q h (by omega) (up 999 _ (big p q hp hq) (by decide))
  · show fb_X8_partOf_L23 (f_X8_partOf_L23 999) a b part (nI p) (nI q) σ = _
    have hp0 : 0 < p := by omega
    have hn : ¬ nI p = 0 := nI_ne0 hp0 (by omega)
    rw [fb_X8_partOf_L23, if_neg hn, gz_of hn, nm_mk, remI (by omega) (by omega), Nat.mod_eq_of_lt (by omega)]
    rw [m_gcd a b part σ 998 q p (by omega) (by omega) (up 998 _ (big q p hq hp) (by decide)), Nat.gcd_comm]
theorem x_gcd2 (σ : Mem) (p q : Nat) (hp : p ≤ 100000) (hq : q ≤ 100000) (h1 : 1 ≤ p) (h2 : 1 ≤ q) : f_X7_commonOf (nI p) (nI q) σ = some (nI (Nat.gcd p q), σ) := by
  have big : ∀ x y : Nat, x ≤ 100000 → y ≤ 100000 → x * y < 2 ^ 40 := fun x y hx hy => Nat.lt_of_le_of_lt (Nat.mul_le_mul hx hy) (by decide)
  by_cases h : q ≤ p
  · exact x_gcd σ 40 1000 0 p q (by omega) (by omega) h h1 (by omega) (big p q hp hq)
  · show fb_X7_commonOf_L7 (f_X7_commonOf_L7 999) (nI p) (nI q) (nI 0) σ = _
    rw [fb_X7_commonOf_L7, if_neg (show ¬ (64 : Int32) ≤ nI 0 by decide), if_neg (nI_nle h2 (by omega)), gz_of (nI_ne0 h2 (by omega)), nm_mk, nm_mk, remI (by omega) (by omega), nI_1, Nat.mod_eq_of_lt (by omega)]
    rw [x_gcd σ 40 999 1 q p (by omega) (by omega) (by omega) h2 (by omega) (big q p hq hp), Nat.gcd_comm]
/-- a number of either sign, not too large -/
def sn (a : Int32) : Prop := ∃ n : Nat, n ≤ 100000 ∧ (a = nI n ∨ (1 ≤ n ∧ a = -nI n))
theorem neg_lt {n : Nat} (h1 : 1 ≤ n) (h2 : n ≤ 100000) : ¬ (0 : Int32) ≤ -nI n := by
  intro h
  have e := Int32.le_iff_toInt_le.mp h
  rw [Int32.toInt_neg, nI_toInt (by omega)] at e
  have e2 : ((-(n : Int)).bmod (2 ^ 32)) = -(n : Int) := Int.bmod_eq_of_le (by omega) (by omega)
  rw [e2] at e
  have e3 : (0 : Int32).toInt = 0 := rfl
  omega
theorem sn_abs {a : Int32} (h : sn a) : ∃ n : Nat, n ≤ 100000 ∧ (¬ a = 0 → 1 ≤ n) ∧ (if 0 ≤ a then a else 0 - a) = nI n ∧ (0 ≤ a → a = nI n) ∧ (¬ 0 ≤ a → -a = nI n) := by
  obtain ⟨n, h1, h2 | ⟨h2, h3⟩⟩ := h
  · subst h2
    have hp := nI_pos' (n := n) (by omega)
    refine ⟨n, h1, fun h => ?_, if_pos hp, fun _ => rfl, fun h => absurd hp h⟩
    rcases Nat.eq_zero_or_pos n with q | q
    · exact absurd (by rw [q]; rfl) h
    · exact q
  · subst h3
    have hp := neg_lt h2 h1
    refine ⟨n, h1, fun _ => h2, ?_, fun h => absurd h hp, fun _ => Int32.neg_neg⟩
    rw [if_neg hp, Int32.zero_sub, Int32.neg_neg]
theorem PF_0 {b : Int32} (hb : sn b) (h0 : ¬ b = 0) {part : Int32} (hp : part = 0 ∨ part = 1) (σ : Mem) : PF 0 b part (if 0 ≤ b then b else 0 - b) σ = some (part, σ) := by
  obtain ⟨n, h1, h2, h3, h4, h5⟩ := sn_abs hb
  have hn := h2 h0
  have hz : ¬ nI n = 0 := nI_ne0 hn (by omega)
  rw [h3, PF]
  by_cases hs : 0 ≤ b
  · rw [if_pos hs, gz_of hz, nm_mk, gz_of hz, nm_mk, h4 hs]
    rcases hp with hp | hp <;> subst hp
    · rw [if_pos rfl, Int32.zero_div]
    · rw [if_neg (by decide), divI (by omega) (by omega), Nat.div_self hn]
      rfl
  · have hb2 : b = -nI n := by rw [← h5 hs, Int32.neg_neg]
    have hz2 : ¬ -nI n = 0 := fun q => h0 (by rw [hb2]; exact q)
    rw [if_neg hs, nm_mk, gz_of hz2, nm_mk, gz_of hz2, nm_mk, hb2]
    rcases hp with hp | hp <;> subst hp
    · rw [if_pos rfl, Int32.zero_div]
    · rw [if_neg (by decide)]
      have e : (-nI n) / (-nI n) = 1 := by
        apply Int32.toInt_inj.mp
        have e0 : (-nI n).toInt = -(n : Int) := by
          rw [Int32.toInt_neg, nI_toInt (by omega)]
          exact Int.bmod_eq_of_le (by omega) (by omega)
        rw [Int32.toInt_div, e0, Int.tdiv_self (by omega)]
        rfl
      rw [e]
theorem partOf_same {a b part : Int32} (ha : sn a) (hb : sn b) (h0 : ¬ b = 0) (hp : part = 0 ∨ part = 1) : ∃ v, (∀ σ, f_X7_partOf a b part σ = some (v, σ)) ∧ ∀ σ, f_X8_partOf a b part σ = some (v, σ) := by
  obtain ⟨p, p1, p2, p3, p4, p5⟩ := sn_abs ha
  obtain ⟨q, q1, q2, q3, q4, q5⟩ := sn_abs hb
  have hq := q2 h0
  have mm : ∀ σ, f_X8_partOf a b part σ = PF a b part (nI (Nat.gcd p q)) σ := by
    intro σ
    rw [f_X8_partOf]
    by_cases ha0 : 0 ≤ a
    · rw [if_pos ha0]
      by_cases hb0 : 0 ≤ b
      · rw [if_pos hb0, show f_X8_partOf_L23 1000 a b part a b σ = f_X8_partOf_L23 1000 a b part (nI p) (nI q) σ by rw [← p4 ha0, ← q4 hb0]]
        exact m_gcd2 a b part σ p q p1 q1
      · rw [if_neg hb0, nm_mk, q5 hb0, show f_X8_partOf_L23 1000 a b part a (nI q) σ = f_X8_partOf_L23 1000 a b part (nI p) (nI q) σ by rw [← p4 ha0]]
        exact m_gcd2 a b part σ p q p1 q1
    · rw [if_neg ha0, nm_mk, p5 ha0]
      by_cases hb0 : 0 ≤ b
      · rw [if_pos hb0, show f_X8_partOf_L23 1000 a b part (nI p) b σ = f_X8_partOf_L23 1000 a b part (nI p) (nI q) σ by rw [← q4 hb0]]
        exact m_gcd2 a b part σ p q p1 q1
      · rw [if_neg hb0, nm_mk, q5 hb0]
        exact m_gcd2 a b part σ p q p1 q1
  by_cases ha0 : a = 0
  · refine ⟨part, fun σ => by rw [f_X7_partOf, if_pos ha0], fun σ => ?_⟩
    have hp0 : p = 0 := by
      have e : nI p = nI 0 := by rw [← p4 (by rw [ha0]; exact Int32.le_refl _), ha0]; rfl
      exact (nI_eq (by omega) (by omega)).mp e
    rw [mm, hp0, Nat.gcd_zero_left, ← q3, ha0]
    exact PF_0 hb h0 hp σ
  · have hpp := p2 ha0
    have hg : 0 < Nat.gcd p q := Nat.gcd_pos_of_pos_left q hpp
    have hgl : Nat.gcd p q ≤ 100000 := Nat.le_trans (Nat.gcd_le_left q hpp) p1
    have hz : ¬ nI (Nat.gcd p q) = 0 := nI_ne0 hg (by omega)
    have hz2 : ¬ -nI (Nat.gcd p q) = 0 := fun h => absurd (by rw [h]; exact Int32.le_refl _) (neg_lt hg hgl)
    have xx : ∀ σ, f_X7_partOf a b part σ = PF a b part (nI (Nat.gcd p q)) σ := by
      intro σ
      rw [f_X7_partOf, if_neg ha0, if_neg h0, nm_mk, nm_mk, p3, q3, x_gcd2 σ p q p1 q1 hpp hq, bd_mk]
      rfl
    have pf : ∃ v, ∀ σ, PF a b part (nI (Nat.gcd p q)) σ = some (v, σ) := by
      refine ⟨if 0 ≤ b then (if part = 0 then a / nI (Nat.gcd p q) else b / nI (Nat.gcd p q)) else (if part = 0 then a / -nI (Nat.gcd p q) else b / -nI (Nat.gcd p q)), fun σ => ?_⟩
      rw [PF, gz_of hz, nm_mk, gz_of hz, nm_mk, nm_mk, gz_of hz2, nm_mk, gz_of hz2, nm_mk, ite_some, ite_some, ite_some]
    obtain ⟨v, hv⟩ := pf
    exact ⟨v, fun σ => (xx σ).trans (hv σ), fun σ => (mm σ).trans (hv σ)⟩
