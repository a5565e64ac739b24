/-! the calls that only read -/
theorem guard {c : Nat} {σ : Mem} (w : Rel c σ) {P : Prop} [Decidable P] {X M : Mem → Res} (hX : X σ = some (if P then 1 else 0, σ)) (hM : ∀ σ1, Mo σ σ1 → M σ1 = some (if P then 1 else 0, σ1)) {K J : Mem → Res} (h : P → Call c K J σ) : Call c (fun σ => bd (X σ) fun v μ => if v = 0 then bd (f_X7_error_0 1 μ) (fun r s => some (r, s)) else K μ) (fun σ => bd (M σ) fun v μ => if v = 0 then bd (f_X8_error_53 (-1000000001) μ) (fun r s => some (r, s)) else J μ) σ := by
  by_cases hp : P
  · exact Call_of (h hp) (by show bd (X σ) _ = _; rw [hX, bd_mk, ifz, if_pos hp]) (fun σ1 h1 => by show bd (M σ1) _ = _; rw [hM σ1 h1, bd_mk, ifz, if_pos hp])
  · exact Call_of (Call_e1 w) (by show bd (X σ) _ = _; rw [hX, bd_mk, ifz, if_neg hp, bd_et]) (fun σ1 h1 => by show bd (M σ1) _ = _; rw [hM σ1 h1, bd_mk, ifz, if_neg hp, bd_et])
theorem RO.et {F : Mem → Res} {σ : Mem} {v : Int32} (h : RO F σ v) : RO (fun σ => bd (F σ) fun r s => some (r, s)) σ v := by
  obtain ⟨σ1, a, b⟩ := h
  exact ⟨σ1, by show bd (F σ) _ = _; rw [bd_et]; exact a, b⟩
theorem RO.mk {F : Mem → Res} {σ : Mem} {v : Int32} (h : F σ = some (v, σ)) : RO F σ v := ⟨σ, h, Same.rf σ⟩
theorem guardP {c : Nat} {σ : Mem} (w : Rel c σ) (a : Int32) {K J : Mem → Res} (h : ∀ i, i < 6 → a = nI i → Call c K J σ) : Call c (fun σ => bd (f_X7_isPitch_0 a σ) fun v μ => if v = 0 then bd (f_X7_error_0 1 μ) (fun r s => some (r, s)) else K μ) (fun σ => bd (f_X8_isPitch_53 a σ) fun v μ => if v = 0 then bd (f_X8_error_53 (-1000000001) μ) (fun r s => some (r, s)) else J μ) σ :=
  guard w (x_isPitch a σ) (fun σ1 h1 => m_isP w h1 a) (fun hp => by
    obtain ⟨i, hi, e⟩ := cutP w hp
    exact h i hi e)
theorem guardR {c : Nat} {σ : Mem} (w : Rel c σ) (a : Int32) {K J : Mem → Res} (h : ∀ i, i < 5 → a = nI i → Call c K J σ) : Call c (fun σ => bd (f_X7_isRunner_0 a σ) fun v μ => if v = 0 then bd (f_X7_error_0 1 μ) (fun r s => some (r, s)) else K μ) (fun σ => bd (f_X8_isRunner_53 a σ) fun v μ => if v = 0 then bd (f_X8_error_53 (-1000000001) μ) (fun r s => some (r, s)) else J μ) σ :=
  guard w (x_isRunner a σ) (fun σ1 h1 => m_isR w h1 a) (fun hp => by
    obtain ⟨i, hi, e⟩ := cutR w hp
    exact h i hi e)
theorem call_margin {c : Nat} {σ : Mem} (w : Rel c σ) (a0 a1 a2 : Int32) : Call c (fun σ => f_X7_margin_0 a0 a1 a2 σ) (fun σ => f_X8_margin_53 a0 a1 a2 σ) σ := by
  unfold f_X7_margin_0 f_X8_margin_53
  refine guardR w a0 (fun r hr e => guardP w a1 (fun i hi e2 => guard w (x_isFeet a2 σ) (fun σ1 _ => m_isLead a2 σ1) (fun _ => ?_)))
  subst e e2
  exact Call_ro w (RO.et (x_marg (Sc.rf σ) w.1 hr hi a2)) (fun σ1 h => RO.et (m_marg (w.rm (Mo.of h)) hr hi a2))
theorem call_law {c : Nat} {σ : Mem} (w : Rel c σ) (a0 a1 a2 a3 : Int32) : Call c (fun σ => f_X7_law_0 a0 a1 a2 a3 σ) (fun σ => f_X8_law_53 a0 a1 a2 a3 σ) σ := by
  unfold f_X7_law_0 f_X8_law_53
  refine guard w (x_isUse a0 σ) (fun σ1 _ => in_eq a0 0 1 σ1) (fun hp => ?_)
  obtain ⟨j, hj, rfl⟩ := nI_of2 (M := 1) (n := 1) (by decide) (Int32.not_lt.mpr hp.1) hp.2
  match j, hj with
  | 0, _ => exact Call_ro w (RO.et (x_giv0 (Sc.rf σ) w.1.t13 a1 a2 a3)) (fun σ1 h => RO.et (m_giv0 (w.rm (Mo.of h)).t0 a1 a2 a3))
  | 1, _ => exact Call_ro w (RO.et (x_giv1 (Sc.rf σ) w.1.t16 a1 a2 a3)) (fun σ1 h => RO.et (m_giv1 (w.rm (Mo.of h)).t1 a1 a2 a3))
theorem call_pitchIs {c : Nat} {σ : Mem} (w : Rel c σ) (a0 a1 : Int32) : Call c (fun σ => f_X7_pitchIs_0 a0 a1 σ) (fun σ => f_X8_pitchIs_53 a0 a1 σ) σ := by
  unfold f_X7_pitchIs_0 f_X8_pitchIs_53
  refine guardP w a0 (fun i hi e => ?_)
  subst e
  by_cases h : 0 ≤ a1 ∧ a1 ≤ 5
  · obtain ⟨j, hj, rfl⟩ := nI_of2 (M := 5) (n := 5) (by decide) (Int32.not_lt.mpr h.1) h.2
    have rm := fun σ1 (h : Same σ σ1) => w.rm (Mo.of h)
    match j, hj with
    | 0, _ => exact Call_ro w (RO.mk (v := σ 3 i) (by rw [if_pos (by decide), gin (by omega), nm_mk, cln (by omega)])) (fun σ1 h1 => RO.mk (by rw [in_eq, bd_mk, ifz, if_pos (by decide), if_neg (by decide), bd_et]; exact m_of0 (rm σ1 h1) hi))
    | 1, _ => exact Call_ro w (RO.mk (v := σ 4 i) (by rw [if_neg (by decide), if_pos (by decide), gin (by omega), nm_mk, cln (by omega)])) (fun σ1 h1 => RO.mk (by rw [in_eq, bd_mk, ifz, if_pos (by decide), if_neg (by decide), bd_et]; exact m_of1 (rm σ1 h1) hi))
    | 2, _ => exact Call_ro w (RO.mk (v := σ 5 i) (by rw [if_neg (by decide), if_neg (by decide), if_pos (by decide), gin (by omega), nm_mk, cln (by omega)])) (fun σ1 h1 => RO.mk (by rw [in_eq, bd_mk, ifz, if_pos (by decide), if_neg (by decide), bd_et]; exact m_of2 (rm σ1 h1) hi))
    | 3, _ => exact Call_ro w (RO.mk (v := σ 6 i) (by rw [if_neg (by decide), if_neg (by decide), if_neg (by decide), if_pos (by decide), gin (by omega), nm_mk, cln (by omega)])) (fun σ1 h1 => RO.mk (by rw [in_eq, bd_mk, ifz, if_pos (by decide), if_neg (by decide), bd_et]; exact m_of3 (rm σ1 h1) hi))
    | 4, _ => exact Call_ro w ((x_air (Sc.rf σ) w.1 hi).to (by rw [if_neg (by decide), if_neg (by decide), if_neg (by decide), if_neg (by decide), if_pos (by decide), bd_et])) (fun σ1 h1 => (m_air (rm σ1 h1) hi).to (by rw [in_eq, bd_mk, ifz, if_pos (by decide), if_pos (by decide), if_pos (by decide), bd_et]))
    | 5, _ => exact Call_ro w (RO.mk (v := cost σ i) (by rw [if_neg (by decide), if_neg (by decide), if_neg (by decide), if_neg (by decide), if_neg (by decide), if_pos (by decide), bd_et]; exact x_cost (Sc.rf σ) hi)) (fun σ1 h1 => RO.mk (by rw [in_eq, bd_mk, ifz, if_pos (by decide), if_pos (by decide), if_neg (by decide), bd_et]; exact m_cost (rm σ1 h1) hi))
  · have ne : ∀ k : Int32, 0 ≤ k ∧ k ≤ 5 → ¬ a1 = k := fun k hk e => h (by rw [e]; exact hk)
    exact Call_of (Call_e1 w) (by rw [if_neg (ne 0 (by decide)), if_neg (ne 1 (by decide)), if_neg (ne 2 (by decide)), if_neg (ne 3 (by decide)), if_neg (ne 4 (by decide)), if_neg (ne 5 (by decide)), bd_et]) (fun σ1 _ => by rw [in_eq, bd_mk, ifz, if_neg h, bd_et])
theorem call_runnerIs {c : Nat} {σ : Mem} (w : Rel c σ) (a0 a1 : Int32) : Call c (fun σ => f_X7_runnerIs_0 a0 a1 σ) (fun σ => f_X8_runnerIs_53 a0 a1 σ) σ := by
  unfold f_X7_runnerIs_0 f_X8_runnerIs_53
  refine guardR w a0 (fun i hi e => ?_)
  subst e
  have pk01 : ∀ f, (if pk σ i f = 0 then (0 : Int32) else 1) = pk σ i f := fun f => by
    unfold pk
    split
    · rfl
    · rfl
  by_cases h : 0 ≤ a1 ∧ a1 ≤ 6
  · obtain ⟨j, hj, rfl⟩ := nI_of2 (M := 6) (n := 6) (by decide) (Int32.not_lt.mpr h.1) h.2
    have rm := fun σ1 (h : Same σ σ1) => w.rm (Mo.of h)
    match j, hj with
    | 0, _ => exact Call_ro w (RO.mk (v := σ 8 i) (by rw [gin (by omega), nm_mk, cln (by omega), if_pos (by decide), gin (by omega), nm_mk])) (fun σ1 h1 => RO.mk (by rw [in_eq, bd_mk, ifz, if_pos (by decide), m_ab2 (rm σ1 h1) hi, bd_mk, if_neg (by decide), bd_et]; exact m_ab0 (rm σ1 h1) hi))
    | 1, _ => exact Call_ro w (RO.mk (v := σ 9 i) (by rw [gin (by omega), nm_mk, cln (by omega), if_neg (by decide), if_pos (by decide), gin (by omega), nm_mk])) (fun σ1 h1 => RO.mk (by rw [in_eq, bd_mk, ifz, if_pos (by decide), m_ab2 (rm σ1 h1) hi, bd_mk, if_neg (by decide), bd_et]; exact m_ab1 (rm σ1 h1) hi))
    | 2, _ => exact Call_ro w (RO.mk (v := σ 10 i) (by rw [gin (by omega), nm_mk, cln (by omega), if_neg (by decide), if_neg (by decide), if_pos (by decide)])) (fun σ1 h1 => RO.mk (by rw [in_eq, bd_mk, ifz, if_pos (by decide), m_ab2 (rm σ1 h1) hi, bd_mk, if_neg (by decide), bd_et]; exact m_ab2 (rm σ1 h1) hi))
    | 3, _ => exact Call_ro w (RO.mk (v := σ 11 i) (by rw [gin (by omega), nm_mk, cln (by omega), if_neg (by decide), if_neg (by decide), if_neg (by decide), if_pos (by decide), gin (by omega), nm_mk])) (fun σ1 h1 => RO.mk (by rw [in_eq, bd_mk, ifz, if_pos (by decide), m_ab2 (rm σ1 h1) hi, bd_mk, if_neg (by decide), bd_et]; exact m_ab3 (rm σ1 h1) hi))
    | 4, _ => exact Call_ro w (RO.mk (v := σ 12 i) (by rw [gin (by omega), nm_mk, cln (by omega), if_neg (by decide), if_neg (by decide), if_neg (by decide), if_neg (by decide), if_pos (by decide), gin (by omega), nm_mk])) (fun σ1 h1 => RO.mk (by rw [in_eq, bd_mk, ifz, if_pos (by decide), m_ab2 (rm σ1 h1) hi, bd_mk, if_neg (by decide), bd_et]; exact m_ab4 (rm σ1 h1) hi))
    | 5, _ => exact Call_ro w (RO.mk (v := run σ i (σ 10 i)) (by rw [gin (by omega), nm_mk, cln (by omega), if_neg (by decide), if_neg (by decide), if_neg (by decide), if_neg (by decide), if_neg (by decide), if_pos (by decide), bd_et]; exact x_run (Sc.rf σ) hi _)) (fun σ1 h1 => RO.mk (by rw [in_eq, bd_mk, ifz, if_pos (by decide), m_ab2 (rm σ1 h1) hi, bd_mk, if_pos (by decide), if_pos (by decide), bd_et]; exact m_run (rm σ1 h1) hi _))
    | 6, _ => exact Call_ro w (RO.mk (v := pk σ i (σ 10 i)) (by rw [gin (by omega), nm_mk, cln (by omega), if_neg (by decide), if_neg (by decide), if_neg (by decide), if_neg (by decide), if_neg (by decide), if_neg (by decide), if_pos (by decide), x_pick (Sc.rf σ) hi, bd_mk, ite_some, pk01])) (fun σ1 h1 => RO.mk (by rw [in_eq, bd_mk, ifz, if_pos (by decide), m_ab2 (rm σ1 h1) hi, bd_mk, if_pos (by decide), if_neg (by decide), m_pick (rm σ1 h1) hi, bd_mk, ite_some, pk01]))
  · have ne : ∀ k : Int32, 0 ≤ k ∧ k ≤ 6 → ¬ a1 = k := fun k hk e => h (by rw [e]; exact hk)
    exact Call_of (Call_e1 w) (by rw [gin (by omega), nm_mk, if_neg (ne 0 (by decide)), if_neg (ne 1 (by decide)), if_neg (ne 2 (by decide)), if_neg (ne 3 (by decide)), if_neg (ne 4 (by decide)), if_neg (ne 5 (by decide)), if_neg (ne 6 (by decide)), bd_et]) (fun σ1 _ => by rw [in_eq, bd_mk, ifz, if_neg h, bd_et])
/-- bounds by the whole numbers that Int32s stand for -/
theorem bm {x : Int} (h1 : -2147483648 ≤ x) (h2 : x < 2147483648) : x.bmod (2 ^ 32) = x := Int.bmod_eq_of_le (by omega) (by omega)
theorem sn_of {a : Int32} (h1 : -100000 ≤ a.toInt) (h2 : a.toInt ≤ 100000) : sn a := by
  by_cases h : 0 ≤ a.toInt
  · refine ⟨a.toInt.toNat, by omega, Or.inl (Int32.toInt_inj.mp ?_)⟩
    rw [nI_toInt (by omega)]
    omega
  · refine ⟨(-a.toInt).toNat, by omega, Or.inr ⟨by omega, Int32.toInt_inj.mp ?_⟩⟩
    rw [Int32.toInt_neg, nI_toInt (by omega), bm (by omega) (by omega)]
    omega
theorem bn_int {v : Int32} {n : Nat} (h : bn v n) (hn : n < 2147483648) : 0 ≤ v.toInt ∧ v.toInt ≤ n := by
  obtain ⟨x, hx, rfl⟩ := h
  rw [nI_toInt (by omega)]
  omega
theorem cl_int {lo hi a : Int32} (h : lo ≤ hi) : lo.toInt ≤ (cl lo hi a).toInt ∧ (cl lo hi a).toInt ≤ hi.toInt := by
  have h := Int32.le_iff_toInt_le.mp h
  unfold cl
  by_cases h1 : lo ≤ a
  · have h1' := Int32.le_iff_toInt_le.mp h1
    rw [if_pos h1]
    by_cases h2 : a ≤ hi
    · have h2' := Int32.le_iff_toInt_le.mp h2
      rw [if_pos h2]
      omega
    · rw [if_neg h2]
      omega
  · rw [if_neg h1]
    omega
theorem giv1_int (S : Mem) (x y z : Int32) : -99 ≤ (giv1 S x y z).toInt ∧ (giv1 S x y z).toInt ≤ 99 := by
  have h := cl_int (lo := -99) (hi := 99) (a := tval S 16 17 (if x = 1 then 25 else -50) x y z) (by decide)
  have e1 : (-99 : Int32).toInt = -99 := rfl
  have e2 : (99 : Int32).toInt = 99 := rfl
  unfold giv1
  omega
theorem gain_int (S : Mem) (r i : Nat) (f : Int32) : -99 ≤ (gain S r i f).toInt ∧ (gain S r i f).toInt ≤ 99 := by
  unfold gain gof
  split
  · exact giv1_int _ _ _ _
  · exact giv1_int _ _ _ _
theorem mulB {a b A B : Int} (h1 : 0 ≤ a) (h2 : a ≤ A) (h3 : -B ≤ b) (h4 : b ≤ B) : -(A * B) ≤ a * b ∧ a * b ≤ A * B := by
  have hB : 0 ≤ B := by omega
  have h5 : a * b ≤ a * B := Int.mul_le_mul_of_nonneg_left h4 h1
  have h6 : a * B ≤ A * B := Int.mul_le_mul_of_nonneg_right h2 hB
  have h7 : a * (-B) ≤ a * b := Int.mul_le_mul_of_nonneg_left h3 h1
  rw [Int.mul_neg] at h7
  omega
theorem wg_int {S : Mem} (w : WF S) {r i : Nat} (hi : i < 6) (f : Int32) : -891 ≤ (wg S r f i).toInt ∧ (wg S r f i).toInt ≤ 891 := by
  have h1 := bn_int (w.2.1 i hi).2.2.1 (by omega)
  have h2 := gain_int S r i f
  have h3 := mulB (A := 9) (B := 99) h1.1 h1.2 h2.1 h2.2
  unfold wg
  rw [Int32.toInt_mul, bm (by omega) (by omega)]
  omega
theorem sum_int {g : Nat → Int32} {B : Int} (hB : 0 ≤ B ∧ B ≤ 1000) : ∀ n : Nat, n ≤ 6 → (∀ i, i < n → -B ≤ (g i).toInt ∧ (g i).toInt ≤ B) → -(B * n) ≤ (sumN g n).toInt ∧ (sumN g n).toInt ≤ B * n
  | 0, _, _ => by
    show -(B * ((0 : Nat) : Int)) ≤ (0 : Int32).toInt ∧ (0 : Int32).toInt ≤ B * ((0 : Nat) : Int)
    have e : (0 : Int32).toInt = 0 := rfl
    rw [e]
    omega
  | n + 1, hn, h => by
    have q := sum_int hB n (by omega) (fun i hi => h i (by omega))
    have q2 := h n (by omega)
    have e : B * ((n + 1 : Nat) : Int) = B * (n : Int) + B := by
      rw [Int.natCast_add, Int.mul_add]
      omega
    have b6 : B * (n : Int) ≤ 1000 * 6 := Int.mul_le_mul (by omega) (by omega) (by omega) (by omega)
    show -(B * ((n + 1 : Nat) : Int)) ≤ (sumN g n + g n).toInt ∧ (sumN g n + g n).toInt ≤ B * ((n + 1 : Nat) : Int)
    rw [Int32.toInt_add, e, bm (by omega) (by omega)]
    omega
theorem sumw_sn {g : Nat → Int32} {B : Int} (hB : 0 ≤ B ∧ B ≤ 1000) {n : Nat} (hn : n ≤ 6) (h : ∀ i, i < n → -B ≤ (g i).toInt ∧ (g i).toInt ≤ B) : sn (sumN g n) := by
  have q := sum_int hB n hn h
  have b6 : B * (n : Int) ≤ 1000 * 6 := Int.mul_le_mul (by omega) (by omega) (by omega) (by omega)
  exact sn_of (by omega) (by omega)
theorem allw_sn {S : Mem} (w : WF S) {np : Nat} (hn : np ≤ 6) : sn (sumN (S 5) np) := sumw_sn (B := 9) (by omega) hn (fun i hi => by
  have h1 := bn_int (w.2.1 i (by omega)).2.2.1 (by omega)
  omega)
theorem safew_sn {S : Mem} (w : WF S) {np r : Nat} (hn : np ≤ 6) (f : Int32) : sn (sumN (sw S r f) np) := sumw_sn (B := 9) (by omega) hn (fun i hi => by
  have h1 := bn_int (w.2.1 i (by omega)).2.2.1 (by omega)
  have e : (0 : Int32).toInt = 0 := rfl
  unfold sw
  split <;> omega)
theorem wg_sn {S : Mem} (w : WF S) {np r : Nat} (hn : np ≤ 6) (f : Int32) : sn (sumN (wg S r f) np) := sumw_sn (B := 891) (by omega) hn (fun i hi => wg_int w (by omega) f)
theorem cut01 {a : Int32} (h : 0 ≤ a ∧ a ≤ 1) : a = 0 ∨ a = 1 := by
  obtain ⟨j, hj, rfl⟩ := nI_of2 (M := 1) (n := 1) (by decide) (Int32.not_lt.mpr h.1) h.2
  match j, hj with
  | 0, _ => exact Or.inl rfl
  | 1, _ => exact Or.inr rfl
theorem call_odds {c : Nat} {σ : Mem} (w : Rel c σ) (a0 a1 : Int32) : Call c (fun σ => f_X7_odds_0 a0 a1 σ) (fun σ => f_X8_odds_53 a0 a1 σ) σ := by
  unfold f_X7_odds_0 f_X8_odds_53
  refine guardR w a0 (fun r hr e => guard w (within_eq a1 0 1 σ) (fun σ1 _ => in_eq a1 0 1 σ1) (fun hp => ?_))
  subst e
  obtain ⟨np, hn, h24⟩ := w.1.1.1
  have rm := fun σ1 (h : Mo σ σ1) => w.rm h
  by_cases hz : sumN (σ 5) np = 0
  · exact Call_of (Call_e3 w) (by show bd _ _ = _; rw [x_allw (Sc.rf σ) hn h24, bd_mk, if_pos hz, bd_et]) (fun σ1 h1 => by show bd _ _ = _; rw [m_allw (rm σ1 h1) hn h24, bd_mk, if_pos hz, bd_et])
  · obtain ⟨v, hv1, hv2⟩ := partOf_same (safew_sn w.1 hn (σ 10 r) (r := r)) (allw_sn w.1 hn) hz (cut01 hp)
    refine Call_ro w (v := v) ?_ (fun σ1 h1 => ?_)
    · obtain ⟨σ1, a, b⟩ := x_safew (Sc.rf σ) w.1 hn h24 hr (σ 10 r)
      exact ⟨σ1, by show bd _ _ = _; rw [x_allw (Sc.rf σ) hn h24, bd_mk, if_neg hz, gin (by omega), nm_mk, cln (by omega), a, bd_mk, bd_et, hv1], b⟩
    · exact (m_odds_l hn h24 hr a1 (sumN (σ 5) np) v hv2 1000 0 σ1 (by omega) (by omega) (rm σ1 (Mo.of h1))).to (by rw [m_allw (rm σ1 (Mo.of h1)) hn h24, bd_mk, if_neg hz]; rfl)
theorem call_go {c : Nat} {σ : Mem} (w : Rel c σ) (a0 a1 : Int32) : Call c (fun σ => f_X7_go_0 a0 a1 σ) (fun σ => f_X8_go_53 a0 a1 σ) σ := by
  unfold f_X7_go_0 f_X8_go_53
  refine guardR w a0 (fun r hr e => guard w (within_eq a1 0 1 σ) (fun σ1 _ => in_eq a1 0 1 σ1) (fun hp => ?_))
  subst e
  obtain ⟨np, hn, h24⟩ := w.1.1.1
  have rm := fun σ1 (h : Mo σ σ1) => w.rm h
  by_cases hz : sumN (σ 5) np = 0
  · exact Call_of (Call_e3 w) (by show bd _ _ = _; rw [x_allw (Sc.rf σ) hn h24, bd_mk, if_pos hz, bd_et]) (fun σ1 h1 => by show bd _ _ = _; rw [m_allw (rm σ1 h1) hn h24, bd_mk, if_pos hz, bd_et])
  · obtain ⟨v, hv1, hv2⟩ := partOf_same (wg_sn w.1 hn (σ 10 r) (r := r)) (allw_sn w.1 hn) hz (cut01 hp)
    refine Call_ro w (v := v) ?_ (fun σ1 h1 => ?_)
    · obtain ⟨σ1, a, b⟩ := x_wgains (Sc.rf σ) w.1 hn h24 hr (σ 10 r)
      exact ⟨σ1, by show bd _ _ = _; rw [x_allw (Sc.rf σ) hn h24, bd_mk, if_neg hz, gin (by omega), nm_mk, cln (by omega), a, bd_mk, bd_et, hv1], b⟩
    · have h2 := rm σ1 (Mo.of h1)
      obtain ⟨σ2, a, b⟩ := m_wgains h2 hn h24 hr (σ 10 r)
      exact ⟨σ2, by show bd _ _ = _; rw [m_allw h2 hn h24, bd_mk, if_neg hz, m_ab2 h2 hr, bd_mk, a, bd_mk, bd_et, hv2], b⟩
theorem call_surely {c : Nat} {σ : Mem} (w : Rel c σ) (a0 a1 : Int32) : Call c (fun σ => f_X7_surely_0 a0 a1 σ) (fun σ => f_X8_surely_53 a0 a1 σ) σ := by
  unfold f_X7_surely_0 f_X8_surely_53
  refine guardR w a0 (fun r hr e => guard w (within_eq a1 0 1 σ) (fun σ1 _ => in_eq a1 0 1 σ1) (fun hp => ?_))
  subst e
  obtain ⟨np, hn, h24⟩ := w.1.1.1
  refine Call_ro w (v := if a1 = 0 then sbit (sf σ r (σ 10 r)) np else nI (scnt (sf σ r (σ 10 r)) np)) ?_ (fun σ1 h1 => ?_)
  · obtain ⟨σ1, a, b⟩ := x_safep (Sc.rf σ) w.1 hn h24 hr (σ 10 r)
    exact ⟨σ1, by show gi _ _ _ = _; rw [gin (by omega), nm_mk, cln (by omega), a, bd_mk, bcnt_eq, bd_mk, ite_some, bcnt_of _ hn], b⟩
  · exact m_surely_l hn h24 hr a1 1000 0 σ1 (by omega) (by omega) (w.rm (Mo.of h1))
