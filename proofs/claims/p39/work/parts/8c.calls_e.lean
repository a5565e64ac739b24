/-! set, become, pitch, runner -/
theorem upd_comm {ρ : Nat → Int32} {a b : Nat} {x y : Int32} (h : ¬ a = b) : upd (upd ρ a x) b y = upd (upd ρ b y) a x := by
  funext q
  unfold upd
  by_cases ha : q = a
  · rw [if_neg (by omega), if_pos ha, if_pos ha]
  · rw [if_neg ha, if_neg ha]
theorem call_set_k {c : Nat} {σ : Mem} (w : Rel c σ) (a1 : Int32) {j M : Nat} {I : Int32} (hj : j < 4) (hM : M < 1000) (hI : I = nI M) (hb : WB 1 (8 + j) = M) (hx : ∀ σ, f_X7_set_0 (nI j) a1 σ = if 0 ≤ a1 ∧ a1 ≤ I then some (σ 1 (8 + j), mset σ 1 (8 + j) a1) else f_X7_error_0 1 σ) (hm : ∀ σ, f_X8_set_53 (nI j) a1 σ = if 0 ≤ a1 ∧ a1 ≤ I then some (σ 54 j, mset σ 54 j a1) else f_X8_error_53 (-1000000001) σ) : Call c (fun σ => f_X7_set_0 (nI j) a1 σ) (fun σ => f_X8_set_53 (nI j) a1 σ) σ := by
  by_cases hp : 0 ≤ a1 ∧ a1 ≤ I
  · refine Call_set w (k := 1) (j := 8 + j) (a := j) (by unfold AD; omega) (by omega) a1 (fun _ => ?_) ?_ (fun τ _ => ?_) ?_
    · rw [hb]
      exact bn_of (by omega) hI hp
    · show f_X7_set_0 _ _ _ = _
      rw [hx, if_pos hp]
    · show f_X8_set_53 _ _ _ = _
      rw [hm, if_pos hp]
    · match j, hj with
      | 0, _ => exact w.2.1.r0
      | 1, _ => exact w.2.1.r1
      | 2, _ => exact w.2.1.r2
      | 3, _ => exact w.2.1.r3
  · exact Call_of (Call_e1 w) (by show f_X7_set_0 _ _ _ = _; rw [hx, if_neg hp]) (fun τ _ => by show f_X8_set_53 _ _ _ = _; rw [hm, if_neg hp])
theorem x_set_j {j : Nat} {I : Int32} (a1 : Int32) (h1 : (0 : Int32) ≤ nI j ∧ nI j ≤ 3) (h2 : ∀ σ, f_X7_mostOfSetting (nI j) σ = some (I, σ)) (h3 : ∀ σ, f_X3_change_1 (nI j) a1 σ = some (σ 1 (8 + j), mset σ 1 (8 + j) a1)) (σ : Mem) : f_X7_set_0 (nI j) a1 σ = if 0 ≤ a1 ∧ a1 ≤ I then some (σ 1 (8 + j), mset σ 1 (8 + j) a1) else f_X7_error_0 1 σ := by
  rw [f_X7_set_0, within_eq, bd_mk, ifz, if_pos h1, h2, bd_mk, within_eq, bd_mk, ifz, h3, bd_mk, bd_et]
theorem m_set_j {j : Nat} {I : Int32} (a1 : Int32) (hj : j < 4) (h : ∀ σ, f_X8_set_53 (nI j) a1 σ = bd (f_X8_in a1 0 I σ) fun v8 μ9 => if v8 = 0 then (f_X8_set_53_L43 (nI j) a1 μ9) else (if (1 : Int32) = 0 then (bd (f_X8_error_53 (-1000000001) μ9) fun v10 μ11 => some (v10, μ11)) else (nm (0 + nI j) fun (v12 : Int32) => bd (f_X8_becomes_53 v12 a1 μ9) fun v13 μ14 => some (v13, μ14)))) (σ : Mem) : f_X8_set_53 (nI j) a1 σ = if 0 ≤ a1 ∧ a1 ≤ I then some (σ 54 j, mset σ 54 j a1) else f_X8_error_53 (-1000000001) σ := by
  rw [h, in_eq, bd_mk, ifz, if_neg n01, nm_mk, Int32.zero_add, bd_et, m_become (by omega), f_X8_set_53_L43, if_pos rfl, bd_et]
theorem call_set {c : Nat} {σ : Mem} (w : Rel c σ) (a0 a1 : Int32) : Call c (fun σ => f_X7_set_0 a0 a1 σ) (fun σ => f_X8_set_53 a0 a1 σ) σ := by
  by_cases h : 0 ≤ a0 ∧ a0 ≤ 3
  · obtain ⟨j, hj, rfl⟩ := nI_of2 (M := 3) (n := 3) (by decide) (Int32.not_lt.mpr h.1) h.2
    match j, hj with
    | 0, _ => exact call_set_k (M := 200) (I := 200) w a1 (by omega) (by omega) rfl rfl (x_set_j a1 h (fun _ => rfl) (fun _ => rfl)) (m_set_j a1 (by omega) (fun _ => rfl))
    | 1, _ => exact call_set_k (M := 200) (I := 200) w a1 (by omega) (by omega) rfl rfl (x_set_j a1 h (fun _ => rfl) (fun _ => rfl)) (m_set_j a1 (by omega) (fun _ => rfl))
    | 2, _ => exact call_set_k (M := 9) (I := 9) w a1 (by omega) (by omega) rfl rfl (x_set_j a1 h (fun _ => rfl) (fun _ => rfl)) (m_set_j a1 (by omega) (fun _ => rfl))
    | 3, _ => exact call_set_k (M := 2) (I := 2) w a1 (by omega) (by omega) rfl rfl (x_set_j a1 h (fun _ => rfl) (fun _ => rfl)) (m_set_j a1 (by omega) (fun _ => rfl))
  · exact Call_of (Call_e1 w) (by show f_X7_set_0 _ _ _ = _; rw [f_X7_set_0, within_eq, bd_mk, ifz, if_neg h, bd_et]) (fun τ _ => by show f_X8_set_53 _ _ _ = _; rw [f_X8_set_53, in_eq, bd_mk, ifz, if_neg h, f_X8_set_53_L43, if_pos rfl, bd_et])
theorem cut69 {a : Int32} (h : 0 ≤ a ∧ a ≤ 69) : ∃ n : Nat, n ≤ 69 ∧ a = nI n ∧ a / 10 = nI (n / 10) ∧ a - a / 10 * 10 = nI (n % 10) := by
  obtain ⟨n, hn, rfl⟩ := nI_of2 (M := 69) (n := 69) (by decide) (Int32.not_lt.mpr h.1) h.2
  exact ⟨n, hn, rfl, divI (q := 10) (by omega) (by omega), remI (q := 10) (by omega) (by omega)⟩
theorem call_become {c : Nat} {σ : Mem} (w : Rel c σ) (a0 a1 : Int32) : Call c (fun σ => f_X7_become_0 a0 a1 σ) (fun σ => f_X8_become_53 a0 a1 σ) σ := by
  unfold f_X7_become_0 f_X8_become_53
  refine guardP w a0 (fun i hi e => guard w (x_isKindAndM a1 σ) (fun τ _ => m_isKm a1 τ) (fun hp => ?_))
  subst e
  obtain ⟨n, hn, _, e2, e3⟩ := cut69 hp
  rw [e3, e2]
  have A1 : AD 3 i (11 + 4 * i) := by unfold AD; omega
  have A2 : AD 4 i (11 + 4 * i + 1) := by unfold AD; omega
  refine Call_chg w (r := σ 3 i) (σ1 := mset (mset σ 3 i (nI (n / 10))) 4 i (nI (n % 10))) (ρ := upd (upd (σ 54) (11 + 4 * i) (nI (n / 10))) (11 + 4 * i + 1) (nI (n % 10))) ?_ (fun q hq => by rw [mset_ne (by omega), mset_ne (by omega)]) ?_ ((RM.set w.2.1 A1 _).set A2 _) ?_
  · show gi _ _ _ = _
    simp (disch := omega) only [gin, nm_mk, z10, cln]
  · exact WF.set (WF.set w.1 (by omega) (fun _ => ⟨n / 10, by show n / 10 ≤ 6; omega, rfl⟩)) (by omega) (fun _ => ⟨n % 10, by show n % 10 ≤ 9; omega, rfl⟩)
  · show nm _ _ = _
    simp only [nm_mk, z10, i_4, i_11, nI_1]
    simp (disch := omega) only [gin, nm_mk, cln]
    rw [m_become (by omega), bd_mk, mset_row, mrow_set, mrow_eq, mset_ne (by decide), mset_ne (by decide), upd_comm (a := 11 + 4 * i) (by omega)]
    rw [show upd (σ 54) (11 + 4 * i + 1) (nI (n % 10)) (11 + 4 * i) = σ 3 i by rw [upd, if_neg (by omega), (w.2.1.pt i hi).1]]
theorem nI_lt6 {n : Nat} (h : n ≤ 6) : (nI n < 6) = (n < 6) := propext (nI_ltI (b := 6) (by omega) (by omega))
theorem nI_lt5 {n : Nat} (h : n ≤ 5) : (nI n < 5) = (n < 5) := propext (nI_ltI (b := 5) (by omega) (by omega))
theorem call_pitch {c : Nat} {σ : Mem} (w : Rel c σ) (a0 a1 : Int32) : Call c (fun σ => f_X7_pitch_0 a0 a1 σ) (fun σ => f_X8_pitch_53 a0 a1 σ) σ := by
  unfold f_X7_pitch_0 f_X8_pitch_53
  refine guard w (x_isKindAndM a0 σ) (fun τ _ => m_isKm a0 τ) (fun hp => guard w (x_isDigit a1 σ) (fun τ _ => in_eq a1 0 9 τ) (fun hd => ?_))
  obtain ⟨n, hn, _, e2, e3⟩ := cut69 hp
  obtain ⟨np, hnp, h24⟩ := w.1.1.1
  have h7 : σ 54 7 = nI np := w.2.1.r7.trans h24
  rw [e3, e2]
  by_cases hf : np < 6
  · have hlt : nI np < 6 := (nI_ltI (b := 6) (by omega) (by omega)).mpr hf
    have n6 : ¬ nI np = 6 := fun e => by
      have q : nI np < 6 := (nI_ltI (b := 6) (by omega) (by omega)).mpr hf
      rw [e] at q
      exact absurd q (by decide)
    refine Call_chg w (r := nI np) (σ1 := mset (mset (mset (mset (mset σ 3 np (nI (n / 10))) 4 np (nI (n % 10))) 5 np a1) 6 np 0) 2 4 (nI (np + 1))) (ρ := upd (upd (upd (upd (upd (σ 54) (11 + 4 * np) (nI (n / 10))) (11 + 4 * np + 1) (nI (n % 10))) (11 + 4 * np + 2) a1) (11 + 4 * np + 3) 0) 7 (nI (np + 1))) ?_ (fun q hq => by rw [mset_ne (by omega), mset_ne (by omega), mset_ne (by omega), mset_ne (by omega), mset_ne (by omega)]) ?_ ?_ ?_
    · show nm _ _ = _
      rw [nm_mk, h24, if_pos hlt, bd_et, f_X0_add_2, nm_mk, h24, if_pos hlt, e3, e2]
      simp (disch := omega) only [gin, nm_mk, z10, cln]
      rw [mset_ne (k' := 2) (by decide), mset_ne (k' := 2) (by decide), mset_ne (k' := 2) (by decide), mset_ne (k' := 2) (by decide), h24, nI_1]
    · exact WF.set (WF.set (WF.set (WF.set (WF.set w.1 (by omega) (fun _ => ⟨n / 10, by show n / 10 ≤ 6; omega, rfl⟩)) (by omega) (fun _ => ⟨n % 10, by show n % 10 ≤ 9; omega, rfl⟩)) (by omega) (fun _ => by show bn a1 9; exact bn_of (by decide) rfl hd)) (by omega) (fun _ => ⟨0, by omega, rfl⟩)) (by omega) (fun _ => ⟨np + 1, by show np + 1 ≤ 6; omega, rfl⟩)
    · exact ((((RM.set w.2.1 (k := 3) (j := np) (by unfold AD; omega) _).set (k := 4) (j := np) (by unfold AD; omega) _).set (k := 5) (j := np) (by unfold AD; omega) _).set (k := 6) (j := np) (by unfold AD; omega) _).set (k := 2) (j := 4) (by unfold AD; omega) _
    · show gi _ _ _ = _
      rw [g7_386, nm_mk, c_7, mset_ne (by decide), mset_ne (by decide), mset_ne (by decide), mset_ne (by decide), mset_ne (by decide), h7, if_neg n6]
      simp only [g7_386, c_7, nm_mk, z10, i_4, i_11, nI_1, i_a2, i_a3]
      simp (disch := omega) only [gin, nm_mk, cln]
      rw [mset_row _ 7 _, mrow_set, mrow_set, mrow_set, mrow_set]
      rw [mset_ne (k' := 54) (by decide), mset_ne (k' := 54) (by decide), mset_ne (k' := 54) (by decide), mset_ne (k' := 54) (by decide), mset_ne (k' := 54) (by decide)]
      rw [upd_comm (a := 7) (by omega), upd_comm (a := 7) (by omega), upd_comm (a := 7) (by omega), upd_comm (a := 7) (by omega)]
  · obtain rfl : np = 6 := by omega
    refine Call_of (Call_e4 w) ?_ (fun τ ht => ?_)
    · show nm _ _ = _
      rw [nm_mk, h24, if_neg (by decide), bd_et]
    · show gi _ _ _ = _
      rw [g7_386, nm_mk, c_7, ht.r, h7, if_pos (show nI 6 = 6 from rfl), bd_et]
theorem m_let {a n k : Nat} (h : a = 35 + 5 * n + k) (ha : a < 386) (v : Int32) (τ : Mem) : f_X8_lets_53 (nI n) (nI k) v τ = some (0, mset τ 54 a v) := by
  have e : nI (35 + 5 * n) + nI k = nI (35 + 5 * n + k) := (Int32.ofNat_add _ _).symm
  rw [f_X8_lets_53, nm_mk, i_5, nm_mk, i_35, nm_mk, e, ← h, gin (by omega), nm_mk, cln (by omega)]
theorem call_runner {c : Nat} {σ : Mem} (w : Rel c σ) (a0 a1 : Int32) : Call c (fun σ => f_X7_runner_0 a0 a1 σ) (fun σ => f_X8_runner_53 a0 a1 σ) σ := by
  unfold f_X7_runner_0 f_X8_runner_53
  refine guard w (within_eq a0 0 99 σ) (fun τ _ => in_eq a0 0 99 τ) (fun hp => guard w (within_eq a1 1 60 σ) (fun τ _ => in_eq a1 1 60 τ) (fun hd => ?_))
  obtain ⟨np, hnp, h24⟩ := w.1.1.2
  have h8 : σ 54 8 = nI np := w.2.1.r8.trans h24
  by_cases hf : np < 5
  · have hlt : nI np < 5 := (nI_ltI (b := 5) (by omega) (by omega)).mpr hf
    have n5 : ¬ nI np = 5 := fun e => by
      have q : nI np < 5 := hlt
      rw [e] at q
      exact absurd q (by decide)
    refine Call_chg w (r := nI np) (σ1 := mset (mset (mset (mset (mset (mset σ 8 np a0) 9 np a1) 10 np 0) 11 np 0) 12 np 0) 7 5 (nI (np + 1))) (ρ := upd (upd (upd (upd (upd (upd (σ 54) (35 + 5 * np) a0) (35 + 5 * np + 1) a1) (35 + 5 * np + 2) 0) (35 + 5 * np + 3) 0) (35 + 5 * np + 4) 0) 8 (nI (np + 1))) ?_ (fun q hq => by rw [mset_ne (by omega), mset_ne (by omega), mset_ne (by omega), mset_ne (by omega), mset_ne (by omega), mset_ne (by omega)]) ?_ ?_ ?_
    · show nm _ _ = _
      rw [nm_mk, h24, if_pos hlt, bd_et, f_X2_add_7, nm_mk, h24, if_pos hlt]
      simp (disch := omega) only [gin, nm_mk, cln]
      rw [mset_ne (k' := 7) (by decide), mset_ne (k' := 7) (by decide), mset_ne (k' := 7) (by decide), mset_ne (k' := 7) (by decide), mset_ne (k' := 7) (by decide), h24, nI_1]
    · exact WF.set (WF.set (WF.set (WF.set (WF.set (WF.set w.1 (by omega) (fun _ => by show bn a0 99; exact bn_of (by decide) rfl hp)) (by omega) (fun _ => by show bn a1 60; exact bn_of (by decide) rfl ⟨Int32.le_trans (by decide) hd.1, hd.2⟩)) (by omega) (fun _ => ⟨0, by omega, rfl⟩)) (by omega) (fun _ => ⟨0, by omega, rfl⟩)) (by omega) (fun _ => ⟨0, by omega, rfl⟩)) (by omega) (fun _ => ⟨np + 1, by show np + 1 ≤ 5; omega, rfl⟩)
    · exact (((((RM.set w.2.1 (k := 8) (j := np) (by unfold AD; omega) _).set (k := 9) (j := np) (by unfold AD; omega) _).set (k := 10) (j := np) (by unfold AD; omega) _).set (k := 11) (j := np) (by unfold AD; omega) _).set (k := 12) (j := np) (by unfold AD; omega) _).set (k := 7) (j := 5) (by unfold AD; omega) _
    · show gi _ _ _ = _
      rw [g8_386, nm_mk, c_8, mset_ne (by decide), mset_ne (by decide), mset_ne (by decide), mset_ne (by decide), mset_ne (by decide), mset_ne (by decide), h8, if_neg n5]
      simp only [g8_386, c_8, nm_mk, nI_1]
      have L0 := fun v τ => m_let (a := 35 + 5 * np) (n := np) (k := 0) rfl (by omega) v τ
      have L1 := fun v τ => m_let (a := 35 + 5 * np + 1) (n := np) (k := 1) rfl (by omega) v τ
      have L2 := fun v τ => m_let (a := 35 + 5 * np + 2) (n := np) (k := 2) rfl (by omega) v τ
      have L3 := fun v τ => m_let (a := 35 + 5 * np + 3) (n := np) (k := 3) rfl (by omega) v τ
      have L4 := fun v τ => m_let (a := 35 + 5 * np + 4) (n := np) (k := 4) rfl (by omega) v τ
      rw [show (0 : Int32) = nI 0 from rfl, show (1 : Int32) = nI 1 from rfl, show (2 : Int32) = nI 2 from rfl, show (3 : Int32) = nI 3 from rfl, show (4 : Int32) = nI 4 from rfl]
      simp only [L0, L1, L2, L3, L4, bd_mk]
      rw [mset_row _ 8 _, mrow_set, mrow_set, mrow_set, mrow_set, mrow_set]
      rw [mset_ne (k' := 54) (by decide), mset_ne (k' := 54) (by decide), mset_ne (k' := 54) (by decide), mset_ne (k' := 54) (by decide), mset_ne (k' := 54) (by decide), mset_ne (k' := 54) (by decide)]
      rw [upd_comm (a := 8) (by omega), upd_comm (a := 8) (by omega), upd_comm (a := 8) (by omega), upd_comm (a := 8) (by omega), upd_comm (a := 8) (by omega)]
  · obtain rfl : np = 5 := by omega
    refine Call_of (Call_e4 w) ?_ (fun τ ht => ?_)
    · show nm _ _ = _
      rw [nm_mk, h24, if_neg (by decide), bd_et]
    · show gi _ _ _ = _
      rw [g8_386, nm_mk, c_8, ht.r, h8, if_pos (show nI 5 = 5 from rfl), bd_et]
