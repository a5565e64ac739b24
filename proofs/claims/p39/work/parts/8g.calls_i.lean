/-! steal, loose -/
theorem cl_in {lo hi a : Int32} (h : lo ≤ hi) : lo ≤ cl lo hi a ∧ cl lo hi a ≤ hi := by
  unfold cl
  by_cases h1 : lo ≤ a
  · rw [if_pos h1]
    by_cases h2 : a ≤ hi
    · rw [if_pos h2]; exact ⟨h1, h2⟩
    · rw [if_neg h2]; exact ⟨h, Int32.le_refl _⟩
  · rw [if_neg h1]; exact ⟨Int32.le_refl _, h⟩
theorem Same.sc {σ σ' : Mem} (h : Same σ σ') : Sc σ' σ := (Sc.rf σ).same h
theorem bo_goes {σ : Mem} {ρ : Nat → Int32} (w : WF σ) (m : RM ρ σ) {r i : Nat} (hr : r < 5) (hi : i < 6) : Bo (fun σ => f_X3_goes_1 (nI r) (nI i) σ) (fun τ => f_X8_goes_53 (nI r) (nI i) τ) σ ρ (fun v => v = 0 ∨ v = 1) := by
  obtain ⟨σ1, a1, s1⟩ := x_marg (Sc.rf σ) w hr hi (σ 10 r)
  obtain ⟨σ2, a2, s2⟩ := x_gof s1.sc w (marg σ r i (σ 10 r))
  have s12 : Same σ σ2 := s1.tr s2
  have w2 := w.same s12
  have m2 := m.same s12
  have hW := cl_in (lo := -9999) (hi := 9999) (a := σ 1 13 + gof σ (marg σ r i (σ 10 r))) (by decide)
  have b6 := (w.2.1 i hi).2.2.2
  have c6 : σ2 6 i = σ 6 i := by rw [s12.c 6 rfl]
  have c11 : σ2 11 r = σ 11 r := by rw [s12.c 11 rfl]
  have q6 : ρ (11 + 4 * i + 3) = σ 6 i := (m.pt i hi).2.2.2
  have q11 : ρ (35 + 5 * r + 3) = σ 11 r := (m.rn r hr).2.2.2.1
  generalize hWW : cl (-9999) 9999 (σ 1 13 + gof σ (marg σ r i (σ 10 r))) = W at hW
  have A1 : AD 1 13 5 := by unfold AD; omega
  have A2 : AD 6 i (11 + 4 * i + 3) := by unfold AD; omega
  have A3 : AD 11 r (35 + 5 * r + 3) := by unfold AD; omega
  have A4 : AD 10 r (35 + 5 * r + 2) := by unfold AD; omega
  have wA : WF (mset (mset σ2 1 13 W) 6 i (on1 (σ 6 i))) := WF.set (w2.set13 hW) (by omega) (fun _ => on1_bn b6)
  have mA := (m2.set A1 W).set A2 (on1 (σ 6 i))
  have kA : Kc σ (mset (mset σ2 1 13 W) 6 i (on1 (σ 6 i))) := ((Kc.same s12).set (by omega)).set (by omega)
  have hx : f_X3_goes_1 (nI r) (nI i) σ = (fun μ14 => if 0 ≤ marg σ r i (σ 10 r) then (gi (nI r) 5 <| nm (μ14 11 (nI r).toNatClampNeg) fun (v15 : Int32) => bd (f_X3_oneMore v15 μ14) fun v16 μ17 => gi (nI r) 5 <| nm (mset μ17 11 (nI r).toNatClampNeg v16) fun (μ18 : Mem) => gi (nI r) 5 <| nm (mset μ18 10 (nI r).toNatClampNeg 0) fun (μ19 : Mem) => gb 1 (some (1, μ19))) else (bd (f_X3_isOut_1 (nI r) μ14) fun v20 μ21 => gb 0 (some (0, μ21)))) (mset (mset σ2 1 13 W) 6 i (on1 (σ 6 i))) := by
    rw [f_X3_goes_1, gin (by omega), nm_mk, cln (by omega), a1, bd_mk, nm_mk, a2, bd_mk, nm_mk, xh _ _ _ (by decide), bd_mk, nm_mk, gin (by omega), nm_mk, cln (by omega), s1.c 1 rfl, hWW, mset_ne (by decide), c6, x_one, bd_mk, gin (by omega), nm_mk]
  have hm : ∀ τ, τ 54 = ρ → ∃ τa, f_X8_goes_53 (nI r) (nI i) τ = (fun μ16 => if (if marg σ r i (σ 10 r) < 0 then (0 : Int32) else 1) = 0 then (bd (f_X8_isOut_53 (nI r) μ16) fun v17 μ18 => gb (if marg σ r i (σ 10 r) < 0 then 0 else 1) (some (if marg σ r i (σ 10 r) < 0 then 0 else 1, μ18))) else (bd (f_X8_more_53 (nI (35 + 5 * r + 3)) μ16) fun v22 μ23 => bd (f_X8_lets_53 (nI r) 2 0 μ23) fun v24 μ25 => gb (if marg σ r i (σ 10 r) < 0 then 0 else 1) (some (if marg σ r i (σ 10 r) < 0 then 0 else 1, μ25)))) τa ∧ τa 54 = upd (upd ρ 5 W) (11 + 4 * i + 3) (on1 (σ 6 i)) ∧ Km τ τa := fun τ ht => by
    have rm : RM (τ 54) σ := by rw [ht]; exact m
    obtain ⟨τ1, b1, t1⟩ := m_safe rm hr hi (σ 10 r)
    have rm1 : RM (τ1 54) σ := by rw [t1.r54]; exact rm
    obtain ⟨τ2, b2, t2⟩ := m_gain rm1 hr hi (σ 10 r)
    have e2 : τ2 54 = ρ := by rw [t2.r54, t1.r54, ht]
    refine ⟨mrow τ2 54 (upd (upd ρ 5 W) (11 + 4 * i + 3) (on1 (σ 6 i))), ?_, mrow_eq, (Km.same (t1.tr t2)).row _⟩
    rw [f_X8_goes_53, m_ab2 rm hr, bd_mk, b1, bd_mk, g5_386, nm_mk, c_5, b2, bd_mk, t1.r54, ht, m.r5, nm_mk, mh]
    rw [show gain σ r i (σ 10 r) = gof σ (marg σ r i (σ 10 r)) from rfl, hWW, bd_mk, g5_386, nm_mk, nm_mk, i_4, nm_mk, i_11, nm_mk, i_a3, mset_row, e2, m_mor (by omega) (show upd ρ 5 W (11 + 4 * i + 3) = σ 6 i by rw [upd_no (by omega), q6]) b6, bd_mk, nm_mk, i_5, nm_mk, i_35, nm_mk, i_a3]
  by_cases hM : marg σ r i (σ 10 r) < 0
  · refine Bo.step (Bo.then (K := fun _ μ => some (0, μ)) (J := fun _ μ => some (0, μ)) (bo_isOut wA mA hr) (fun v σ1 ρ1 q _ wf rm => Bo_ret wf rm (Or.inl rfl))) ?_ kA (fun τ ht => ?_)
    · show f_X3_goes_1 _ _ _ = _
      rw [hx]
      show ite _ _ _ = _
      rw [if_neg (Int32.not_le.mpr hM)]
      rfl
    · obtain ⟨τa, e1, e2, e3⟩ := hm τ ht
      refine ⟨τa, e1.trans ?_, e2, e3⟩
      show ite _ _ _ = _
      simp only [if_pos hM, gb_0]
      rfl
  · have hM' : 0 ≤ marg σ r i (σ 10 r) := Int32.not_lt.mp hM
    have b11 := (w.2.2.1 r hr).2.2.2.1
    refine Bo.step (F' := fun μ => some (1, mset (mset μ 11 r (on1 (σ 11 r))) 10 r 0)) (G' := fun μ => bd (f_X8_more_53 (nI (35 + 5 * r + 3)) μ) fun v22 μ23 => bd (f_X8_lets_53 (nI r) 2 0 μ23) fun v24 μ25 => some (1, μ25)) (Bo.of (v := 1) (ρ := upd (upd ρ 5 W) (11 + 4 * i + 3) (on1 (σ 6 i))) (ρ1 := upd (upd (upd (upd ρ 5 W) (11 + 4 * i + 3) (on1 (σ 6 i))) (35 + 5 * r + 3) (on1 (σ 11 r))) (35 + 5 * r + 2) 0) rfl (((Kc.rf _).set (by omega)).set (by omega)) (WF.set (WF.set wA (by omega) (fun _ => on1_bn b11)) (by omega) (fun _ => ⟨0, by omega, rfl⟩)) ((mA.set A3 _).set A4 _) (Or.inr rfl) (fun τ => ?_)) ?_ kA (fun τ ht => ?_)
    · show bd _ _ = _
      rw [m_mor (by omega) (show upd (upd ρ 5 W) (11 + 4 * i + 3) (on1 (σ 6 i)) (35 + 5 * r + 3) = σ 11 r by rw [upd_no (by omega), upd_no (by omega), q11]) b11, bd_mk, m_lt2 hr, bd_mk]
    · show f_X3_goes_1 _ _ _ = _
      rw [hx]
      show ite _ _ _ = _
      rw [if_pos hM', gin (by omega), nm_mk, cln (by omega), mset_ne (by decide), mset_ne (by decide), c11, x_one, bd_mk, gin (by omega), nm_mk, gin (by omega), nm_mk, gb_1]
    · obtain ⟨τa, e1, e2, e3⟩ := hm τ ht
      refine ⟨τa, e1.trans ?_, e2, e3⟩
      show ite _ _ _ = _
      simp only [if_neg hM, gb_1, if_neg n01]
theorem call_steal {c : Nat} {σ : Mem} (w : Rel c σ) (a0 a1 : Int32) : Call c (fun σ => f_X7_steal_0 a0 a1 σ) (fun σ => f_X8_steal_53 a0 a1 σ) σ := by
  unfold f_X7_steal_0 f_X8_steal_53
  refine guardR w a0 (fun r hr e => guardP w a1 (fun i hi e2 => ?_))
  subst e e2
  refine Bo.call w (Q := fun _ => True) (Bo.then (K := fun v μ => if v = 0 then (some (0, μ)) else (some (1, μ))) (J := fun v μ => if v = 0 then (some (0, μ)) else (some (1, μ))) (bo_goes w.1 w.2.1 hr hi) (fun v σ1 ρ1 q _ wf rm => ?_))
  rcases q with rfl | rfl
  · exact Bo_ret wf rm trivial
  · exact Bo_ret wf rm trivial
/-! draws -/
def nz (z : Int32) : Int32 := z * 1103515245 + 12345
def dz (z : Int32) : Int32 := (z.toUInt32 >>> ((8 : Int32).toUInt32 &&& Int32.toUInt32 31)).toInt32
theorem dz_nI (z : Int32) : ∃ k : Nat, k < 16777216 ∧ dz z = nI k := by
  refine ⟨(z.toUInt32 >>> 8).toNat, ?_, ?_⟩
  · rw [UInt32.toNat_shiftRight]
    have h := z.toUInt32.toNat_lt
    rw [show (8 : UInt32).toNat % 32 = 8 from rfl, Nat.shiftRight_eq_div_pow]
    omega
  · unfold dz nI
    rw [show ((8 : Int32).toUInt32 &&& Int32.toUInt32 31) = 8 from rfl]
    apply Int32.toBitVec_inj.mp
    show z.toBitVec >>> 8 = BitVec.ofNat 32 ((z.toUInt32 >>> 8).toNat)
    apply BitVec.eq_of_toNat_eq
    have h := z.toUInt32.toNat_lt
    have e : z.toBitVec.toNat = z.toUInt32.toNat := rfl
    rw [BitVec.toNat_ushiftRight, BitVec.toNat_ofNat, UInt32.toNat_shiftRight, show (8 : UInt32).toNat % 32 = 8 from rfl, e, Nat.shiftRight_eq_div_pow, Nat.mod_eq_of_lt (by omega)]
theorem x_draw (σ : Mem) : f_X3_draw_1 σ = some (dz (nz (σ 1 14)), mset σ 1 14 (nz (σ 1 14))) := by
  rw [f_X3_draw_1, nm_mk, nm_mk, nm_mk, nm_mk, nm_mk, nm_mk, mset_at]
  rfl
theorem m_draw {ρ : Nat → Int32} {τ : Mem} {z : Int32} (h : ρ 6 = z) : f_X8_draw_53 (mrow τ 54 ρ) = some (dz (nz z), mrow τ 54 (upd ρ 6 (nz z))) := by
  subst h
  rw [f_X8_draw_53, g6_386, nm_mk, c_6, nm_mk, nm_mk, g6_386, nm_mk, g6_386, nm_mk, nm_mk, mrow_eq, mrow_set, mrow_eq, upd_at]
  rfl
/-- weights as whole numbers -/
def suN (g : Nat → Nat) : Nat → Nat
  | 0 => 0
  | n + 1 => suN g n + g n
theorem suN_le {g : Nat → Nat} (h : ∀ i, i < 6 → g i ≤ 9) : ∀ n, n ≤ 6 → suN g n ≤ 9 * n
  | 0, _ => Nat.le_refl _
  | n + 1, q => by
    have a := suN_le h n (by omega)
    have b := h n (by omega)
    show suN g n + g n ≤ _
    omega
theorem suN_mono {g : Nat → Nat} : ∀ n d, suN g n ≤ suN g (n + d)
  | n, 0 => Nat.le_refl _
  | n, d + 1 => by
    have a := suN_mono (g := g) n d
    show _ ≤ suN g (n + d) + g (n + d)
    omega
theorem sumN_suN {f : Nat → Int32} {g : Nat → Nat} : ∀ n, (∀ i, i < n → f i = nI (g i)) → sumN f n = nI (suN g n)
  | 0, _ => rfl
  | n + 1, h => by
    show sumN f n + f n = nI (suN g n + g n)
    rw [sumN_suN n (fun i hi => h i (by omega)), h n (by omega), nI_add]
def drTail (r : Int32) (x4 : Int32) (μ17 : Mem) : Res := bd (f_X8_draw_53 μ17) fun v18 μ19 => gz 4 <| nm (v18 - v18 / 4 * 4) fun (v20 : Int32) => if v20 = 0 then (bd (f_X8_about_53 r 2 μ19) fun v33 μ34 => bd (f_X8_isPickedAt_53 r v33 μ34) fun v35 μ36 => if v35 = 0 then (bd (f_X8_goes_53 r x4 μ36) fun v37 μ38 => gb v37 (some (v37, μ38))) else (bd (f_X8_isOut_53 r μ36) fun v39 μ40 => gb 0 (some (0, μ40)))) else (bd (f_X8_goes_53 r x4 μ19) fun v21 μ22 => gb v21 (some (v21, μ22)))
theorem nI_sub {a b : Nat} (h : b ≤ a) : nI a - nI b = nI (a - b) := by
  obtain ⟨c, rfl⟩ : ∃ c, a = b + c := ⟨a - b, by omega⟩
  rw [← nI_add, show b + c - b = c by omega, Int32.add_comm, Int32.add_sub_cancel]
theorem byW {σ : Mem} {np : Nat} {g : Nat → Nat} (hn : np ≤ 6) (h24 : σ 2 4 = nI np) (hg : ∀ i, i < 6 → σ 5 i = nI (g i) ∧ g i ≤ 9) (fu : Nat) : ∀ (i q : Nat), i ≤ np → np - i < fu → q + suN g i < suN g np → ∃ j, j < np ∧ f_X0_byWeight_2_L4 fu (nI q) (nI i) σ = some (nI j, σ) ∧ ∀ (r : Int32) (τ : Mem), RM (τ 54) σ → f_X8_drawn_53_L57 fu r (nI q) (nI i) τ = drTail r (nI j) τ := by
  have hle := suN_le (fun i hi => (hg i hi).2) np hn
  induction fu with
  | zero => intro i q h1 h2; omega
  | succ fu ih =>
    intro i q h1 h2 h3
    have hi : i < np := by
      rcases Nat.lt_or_ge i np with h | h
      · exact h
      · have e : i = np := by omega
        subst e
        omega
    have hw := (hg i (by omega)).1
    have h9 := (hg i (by omega)).2
    by_cases hc : q < g i
    · refine ⟨i, hi, ?_, fun r τ hm => ?_⟩
      · show fb_X0_byWeight_2_L4 (f_X0_byWeight_2_L4 fu) (nI q) (nI i) σ = _
        rw [fb_X0_byWeight_2_L4, nm_mk, h24, if_neg (fun e => absurd ((nI_leI (by omega) (by omega)).mp e) (by omega)), gin (by omega), nm_mk, cln (by omega), hw, if_neg (fun e => absurd ((nI_leI (by omega) (by omega)).mp e) (by omega))]
      · show fb_X8_drawn_53_L57 (f_X8_drawn_53_L57 fu) r (nI q) (nI i) τ = _
        rw [fb_X8_drawn_53_L57, m_of2 hm (by omega), bd_mk, hw, if_pos ((nI_ltI (by omega) (by omega)).mpr hc)]
        simp only [if_neg n01, if_pos (show (0 : Int32) = 0 from rfl)]
        rfl
    · obtain ⟨j, hj, e1, e2⟩ := ih (i + 1) (q - g i) (by omega) (by omega) (by show q - g i + (suN g i + g i) < _; omega)
      refine ⟨j, hj, ?_, fun r τ hm => ?_⟩
      · show fb_X0_byWeight_2_L4 (f_X0_byWeight_2_L4 fu) (nI q) (nI i) σ = _
        rw [fb_X0_byWeight_2_L4, nm_mk, h24, if_neg (fun e => absurd ((nI_leI (by omega) (by omega)).mp e) (by omega)), gin (by omega), nm_mk, cln (by omega), hw, if_pos ((nI_leI (by omega) (by omega)).mpr (by omega)), gin (by omega), nm_mk, nm_mk, nm_mk, nI_1, nI_sub (by omega)]
        exact e1
      · show fb_X8_drawn_53_L57 (f_X8_drawn_53_L57 fu) r (nI q) (nI i) τ = _
        rw [fb_X8_drawn_53_L57, m_of2 hm (by omega), bd_mk, hw, if_neg (fun e => absurd ((nI_ltI (by omega) (by omega)).mp e) (by omega)), m_of2 hm (by omega), bd_mk, hw, nm_mk, nm_mk, nI_1, nI_sub (by omega)]
        exact e2 r τ hm
def xTail (r x4 : Int32) (μ16 : Mem) : Res := bd (f_X3_draw_1 μ16) fun v17 μ18 => gz 4 <| nm (v17 - v17 / 4 * 4) fun (v19 : Int32) => if v19 = 0 then (gi r 5 <| nm (μ18 10 r.toNatClampNeg) fun (v22 : Int32) => bd (f_X3_isPicked_1 r v22 μ18) fun v23 μ24 => if v23 = 0 then (bd (f_X3_goes_1 r x4 μ24) fun v25 μ26 => gb v25 (some (v25, μ26))) else (bd (f_X3_isOut_1 r μ24) fun v27 μ28 => gb 0 (some (0, μ28)))) else (bd (f_X3_goes_1 r x4 μ18) fun v20 μ21 => gb v20 (some (v20, μ21)))
theorem bo_goes' {σ : Mem} {ρ : Nat → Int32} (w : WF σ) (m : RM ρ σ) {r i : Nat} (hr : r < 5) (hi : i < 6) : Bo (fun σ => bd (f_X3_goes_1 (nI r) (nI i) σ) fun v μ => gb v (some (v, μ))) (fun τ => bd (f_X8_goes_53 (nI r) (nI i) τ) fun v μ => gb v (some (v, μ))) σ ρ (fun v => v = 0 ∨ v = 1) :=
  Bo.then (K := fun v μ => gb v (some (v, μ))) (J := fun v μ => gb v (some (v, μ))) (bo_goes w m hr hi) (fun v σ1 ρ1 q _ wf rm => by
    rcases q with rfl | rfl
    · exact Bo_ret wf rm (Or.inl rfl)
    · exact Bo_ret wf rm (Or.inr rfl))
theorem bo_tail {σ : Mem} {ρ : Nat → Int32} (w : WF σ) (m : RM ρ σ) {r i : Nat} (hr : r < 5) (hi : i < 6) : Bo (fun σ => xTail (nI r) (nI i) σ) (fun τ => drTail (nI r) (nI i) τ) σ ρ (fun v => v = 0 ∨ v = 1) := by
  obtain ⟨k, hk, ek⟩ := dz_nI (nz (σ 1 14))
  have A : AD 1 14 6 := by unfold AD; omega
  have wB := WF.set w (k := 1) (j := 14) (v := nz (σ 1 14)) (by omega) (fun h => absurd ⟨rfl, rfl⟩ h.2)
  have mB := m.set A (nz (σ 1 14))
  have kB : Kc σ (mset σ 1 14 (nz (σ 1 14))) := (Kc.rf σ).set (by omega)
  have er : nI k - nI k / 4 * 4 = nI (k % 4) := remI (q := 4) (by omega) (by omega)
  by_cases h4 : k % 4 = 0
  · have e0 : nI (k % 4) = 0 := by rw [h4]; rfl
    have hx : xTail (nI r) (nI i) σ = (bd (f_X3_isPicked_1 (nI r) (mset σ 1 14 (nz (σ 1 14)) 10 r) (mset σ 1 14 (nz (σ 1 14)))) fun v23 μ24 => if v23 = 0 then (bd (f_X3_goes_1 (nI r) (nI i) μ24) fun v25 μ26 => gb v25 (some (v25, μ26))) else (bd (f_X3_isOut_1 (nI r) μ24) fun v27 μ28 => gb 0 (some (0, μ28)))) := by
      rw [xTail, x_draw, bd_mk, z4, ek, er, nm_mk, if_pos e0, gin (by omega), nm_mk, cln (by omega)]
    have hm : ∀ τ, τ 54 = ρ → ∃ τa, drTail (nI r) (nI i) τ = (bd (f_X8_about_53 (nI r) 2 τa) fun v33 μ34 => bd (f_X8_isPickedAt_53 (nI r) v33 μ34) fun v35 μ36 => if v35 = 0 then (bd (f_X8_goes_53 (nI r) (nI i) μ36) fun v37 μ38 => gb v37 (some (v37, μ38))) else (bd (f_X8_isOut_53 (nI r) μ36) fun v39 μ40 => gb 0 (some (0, μ40)))) ∧ τa 54 = upd ρ 6 (nz (σ 1 14)) ∧ Km τ τa := fun τ ht => by
      obtain ⟨τ0, rfl⟩ : ∃ τ0, τ = mrow τ0 54 ρ := ⟨τ, (mrow_self ht).symm⟩
      refine ⟨mrow τ0 54 (upd ρ 6 (nz (σ 1 14))), ?_, mrow_eq, fun q h1 h2 h3 h4 h5 => by rw [mrow_ne h3, mrow_ne h3]⟩
      rw [drTail, m_draw m.r6, bd_mk, z4, ek, er, nm_mk, if_pos e0]
    by_cases hp : pk (mset σ 1 14 (nz (σ 1 14))) r (mset σ 1 14 (nz (σ 1 14)) 10 r) = 0
    · refine Bo.step (bo_goes' wB mB hr hi) ?_ kB (fun τ ht => ?_)
      · show xTail _ _ _ = _
        rw [hx, x_pick (Sc.rf _) hr, bd_mk, if_pos hp]
      · obtain ⟨τa, e1, e2, e3⟩ := hm τ ht
        have rm : RM (τa 54) (mset σ 1 14 (nz (σ 1 14))) := by rw [e2]; exact mB
        refine ⟨τa, e1.trans ?_, e2, e3⟩
        rw [m_ab2 rm hr, bd_mk, m_pick rm hr, bd_mk, if_pos hp]
    · refine Bo.step (Bo.then (K := fun _ μ => gb 0 (some (0, μ))) (J := fun _ μ => gb 0 (some (0, μ))) (bo_isOut wB mB hr) (fun v σ1 ρ1 q _ wf rm => Bo_ret wf rm (Or.inl rfl))) ?_ kB (fun τ ht => ?_)
      · show xTail _ _ _ = _
        rw [hx, x_pick (Sc.rf _) hr, bd_mk, if_neg hp]
      · obtain ⟨τa, e1, e2, e3⟩ := hm τ ht
        have rm : RM (τa 54) (mset σ 1 14 (nz (σ 1 14))) := by rw [e2]; exact mB
        refine ⟨τa, e1.trans ?_, e2, e3⟩
        rw [m_ab2 rm hr, bd_mk, m_pick rm hr, bd_mk, if_neg hp]
  · have e0 : ¬ nI (k % 4) = 0 := nI_ne0 (by omega) (by omega)
    refine Bo.step (bo_goes' wB mB hr hi) ?_ kB (fun τ ht => ?_)
    · show xTail _ _ _ = _
      rw [xTail, x_draw, bd_mk, z4, ek, er, nm_mk, if_neg e0]
    · obtain ⟨τ0, rfl⟩ : ∃ τ0, τ = mrow τ0 54 ρ := ⟨τ, (mrow_self ht).symm⟩
      refine ⟨mrow τ0 54 (upd ρ 6 (nz (σ 1 14))), ?_, mrow_eq, fun q h1 h2 h3 h4 h5 => by rw [mrow_ne h3, mrow_ne h3]⟩
      show drTail _ _ _ = _
      rw [drTail, m_draw m.r6, bd_mk, z4, ek, er, nm_mk, if_neg e0]
theorem bo_drawn {σ : Mem} {ρ : Nat → Int32} (w : WF σ) (m : RM ρ σ) : Bo (fun σ => f_X3_isSafeByDraws_1 σ) (fun τ => f_X8_drawn_53 τ) σ ρ (fun v => v = 0 ∨ v = 1) := by
  obtain ⟨np, hn, h24⟩ := w.1.1
  obtain ⟨nr, hnr, h75⟩ := w.1.2
  have m8 : ρ 8 = nI nr := m.r8.trans h75
  have hg : ∃ g : Nat → Nat, ∀ i, i < 6 → σ 5 i = nI (g i) ∧ g i ≤ 9 := ⟨fun i => (σ 5 i).toNatClampNeg, fun i hi => by
    obtain ⟨x, hx, e⟩ := (w.2.1 i hi).2.2.1
    show σ 5 i = nI (σ 5 i).toNatClampNeg ∧ (σ 5 i).toNatClampNeg ≤ 9
    rw [e, cln (by omega)]
    exact ⟨rfl, hx⟩⟩
  obtain ⟨g, hg⟩ := hg
  have eT : sumN (σ 5) np = nI (suN g np) := sumN_suN np (fun i hi => (hg i (by omega)).1)
  have hT := suN_le (fun i hi => (hg i hi).2) np hn
  have mw : ∀ τ0, f_X8_weights_53 (mrow τ0 54 ρ) = some (nI (suN g np), mrow τ0 54 ρ) := fun τ0 => by
    rw [m_allw (S := σ) (by rw [mrow_eq]; exact m) hn h24, eT]
  by_cases hz : nr = 0 ∨ suN g np = 0
  · refine Bo.of (v := 0) (σ1 := σ) (ρ1 := ρ) ?_ (Kc.rf σ) w m (Or.inl rfl) (fun τ => ?_)
    · show f_X3_isSafeByDraws_1 σ = _
      rw [f_X3_isSafeByDraws_1, x_allw (Sc.rf σ) hn h24, bd_mk, nm_mk, h75, eT]
      rcases hz with h | h
      · rw [h, if_pos (by decide), gb_0]
      · rw [h]
        by_cases q : nI nr ≤ 0
        · rw [if_pos q, gb_0]
        · rw [if_neg q, if_neg (by decide), gb_0]
    · show f_X8_drawn_53 _ = _
      rw [f_X8_drawn_53, mw, bd_mk, g8_386, nm_mk, c_8, mrow_eq, m8]
      rcases hz with h | h
      · rw [h, if_pos (show nI 0 = 0 from rfl), gb_0]
      · rw [h]
        by_cases q : nI nr = 0
        · rw [if_pos q, gb_0]
        · rw [if_neg q, if_pos (show nI 0 = 0 from rfl), gb_0]
  · have hr0 : 0 < nr := by omega
    have hT0 : 0 < suN g np := by omega
    obtain ⟨k1, hk1, e1⟩ := dz_nI (nz (σ 1 14))
    obtain ⟨k2, hk2, e2⟩ := dz_nI (nz (nz (σ 1 14)))
    obtain ⟨k3, hk3, e3⟩ := dz_nI (nz (nz (nz (σ 1 14))))
    have r1 : nI k1 - nI k1 / nI nr * nI nr = nI (k1 % nr) := remI (by omega) (by omega)
    have r2 : nI k2 - nI k2 / 21 * 21 = nI (k2 % 21) := remI (q := 21) (by omega) (by omega)
    have r3 : nI k3 - nI k3 / nI (suN g np) * nI (suN g np) = nI (k3 % suN g np) := remI (by omega) (by omega)
    have hr : k1 % nr < 5 := Nat.lt_of_lt_of_le (Nat.mod_lt _ hr0) hnr
    have h3 : k3 % suN g np < suN g np := Nat.mod_lt _ hT0
    have h21 : k2 % 21 ≤ 20 := by have := Nat.mod_lt k2 (show 21 > 0 by omega); omega
    generalize k1 % nr = r at r1 hr
    generalize k2 % 21 = l at r2 h21
    generalize k3 % suN g np = q at r3 h3
    have A1 : AD 1 14 6 := by unfold AD; omega
    have A2 : AD 10 r (35 + 5 * r + 2) := by unfold AD; omega
    have bz : ∀ {v : Int32}, BV 1 14 → bn v (WB 1 14) := fun h => absurd ⟨rfl, rfl⟩ h.2
    have wB := WF.set (WF.set (WF.set (WF.set w (k := 1) (j := 14) (v := nz (σ 1 14)) (by omega) bz) (k := 1) (j := 14) (v := nz (nz (σ 1 14))) (by omega) bz) (k := 10) (j := r) (v := nI l) (by omega) (fun _ => ⟨l, h21, rfl⟩)) (k := 1) (j := 14) (v := nz (nz (nz (σ 1 14)))) (by omega) bz
    have mB := (((m.set A1 (nz (σ 1 14))).set A1 (nz (nz (σ 1 14)))).set A2 (nI l)).set A1 (nz (nz (nz (σ 1 14))))
    have kB : Kc σ (mset (mset (mset (mset σ 1 14 (nz (σ 1 14))) 1 14 (nz (nz (σ 1 14)))) 10 r (nI l)) 1 14 (nz (nz (nz (σ 1 14))))) := ((((Kc.rf σ).set (by omega)).set (by omega)).set (by omega)).set (by omega)
    have b24 : mset (mset (mset (mset σ 1 14 (nz (σ 1 14))) 1 14 (nz (nz (σ 1 14)))) 10 r (nI l)) 1 14 (nz (nz (nz (σ 1 14)))) 2 4 = nI np := by rw [mset_ne (by decide), mset_ne (by decide), mset_ne (by decide), mset_ne (by decide), h24]
    have b5 : mset (mset (mset (mset σ 1 14 (nz (σ 1 14))) 1 14 (nz (nz (σ 1 14)))) 10 r (nI l)) 1 14 (nz (nz (nz (σ 1 14)))) 5 = σ 5 := by rw [mset_ne (by decide), mset_ne (by decide), mset_ne (by decide), mset_ne (by decide)]
    obtain ⟨j, hj, fx, fm⟩ := byW (q := q) hn b24 (g := g) (fun i hi => by rw [b5]; exact hg i hi) 1000 0 (by omega) (by omega) (by show q + 0 < _; omega)
    refine Bo.step (bo_tail wB mB hr (show j < 6 by omega)) ?_ kB (fun τ ht => ?_)
    · show f_X3_isSafeByDraws_1 σ = _
      rw [f_X3_isSafeByDraws_1, x_allw (Sc.rf σ) hn h24, bd_mk, nm_mk, h75, eT, if_neg (nI_nle hr0 (by omega)), if_pos (show (0 : Int32) < nI (suN g np) from nI_lt (a := 0) hT0 (by omega)), x_draw, bd_mk, nm_mk, mset_ne (k' := 7) (by decide), h75, gz_of (nI_ne0 hr0 (by omega)), e1, r1, nm_mk, x_draw, mset_at, bd_mk, z21, e2, r2, nm_mk, gin (by omega), nm_mk, cln (by omega), x_draw, bd_mk]
      rw [show mset (mset (mset σ 1 14 (nz (σ 1 14))) 1 14 (nz (nz (σ 1 14)))) 10 r (nI l) 1 14 = nz (nz (σ 1 14)) by rw [mset_ne (by decide), mset_at]]
      rw [e3, r3, gz_of (nI_ne0 hT0 (by omega)), nm_mk, f_X0_byWeight_2, show f_X0_byWeight_2_L4 1000 (nI q) 0 _ = _ from fx, bd_mk, xTail, cln (by omega)]
    · obtain ⟨τ0, rfl⟩ : ∃ τ0, τ = mrow τ0 54 ρ := ⟨τ, (mrow_self ht).symm⟩
      refine ⟨mrow τ0 54 (upd (upd (upd (upd ρ 6 (nz (σ 1 14))) 6 (nz (nz (σ 1 14)))) (35 + 5 * r + 2) (nI l)) 6 (nz (nz (nz (σ 1 14))))), ?_, mrow_eq, fun q h1 h2 h3 h4 h5 => by rw [mrow_ne h3, mrow_ne h3]⟩
      show f_X8_drawn_53 _ = _
      rw [f_X8_drawn_53, mw, bd_mk, g8_386, nm_mk, c_8, mrow_eq, m8, if_neg (nI_ne0 hr0 (by omega)), if_neg (nI_ne0 hT0 (by omega)), m_draw m.r6, bd_mk, g8_386, nm_mk, mrow_eq, upd_no (by omega), m8, gz_of (nI_ne0 hr0 (by omega)), e1, r1, nm_mk, m_draw (upd_at _ _ _), bd_mk, z21, e2, r2, nm_mk, m_lt2 hr, bd_mk, m_draw (z := nz (nz (σ 1 14))) (by rw [upd_no (by omega), upd_at]), bd_mk, e3, r3, gz_of (nI_ne0 hT0 (by omega)), nm_mk]
      exact fm (nI r) _ (by rw [mrow_eq]; exact mB)
theorem loose_l {n : Nat} (hn : n ≤ 30) (fu : Nat) : ∀ (j : Nat) (x2 : Int32) (σ : Mem) (ρ : Nat → Int32), j ≤ n → n - j < fu → WF σ → RM ρ σ → Bo (fun σ => f_X7_loose_0_L20 fu (nI n) x2 (nI j) σ) (fun τ => f_X8_loose_53_L21 fu (nI n) x2 (nI j) τ) σ ρ (fun _ => True) := by
  induction fu with
  | zero => intro j x2 σ ρ h1 h2; omega
  | succ fu ih =>
    intro j x2 σ ρ h1 h2 w m
    show Bo (fun σ => fb_X7_loose_0_L20 (f_X7_loose_0_L20 fu) (nI n) x2 (nI j) σ) (fun τ => fb_X8_loose_53_L21 (f_X8_loose_53_L21 fu) (nI n) x2 (nI j) τ) σ ρ _
    unfold fb_X7_loose_0_L20 fb_X8_loose_53_L21
    by_cases h : j = n
    · subst h
      exact (Bo_ret (v := x2) (Q := fun _ => True) w m trivial).same (by show ite _ _ _ = _; rw [if_pos (Int32.le_refl _)]) (fun τ _ => by show ite _ _ _ = _; rw [if_pos (Int32.le_refl _)])
    · have q : ¬ nI n ≤ nI j := fun q => absurd ((nI_leI (by omega) (by omega)).mp q) (by omega)
      refine Bo.same (F' := fun σ => bd (f_X3_isSafeByDraws_1 σ) fun v3 μ4 => if v3 = 0 then (f_X7_loose_0_L20 fu (nI n) x2 (nI (j + 1)) μ4) else (f_X7_loose_0_L20 fu (nI n) (x2 + 1) (nI (j + 1)) μ4)) (G' := fun τ => bd (f_X8_drawn_53 τ) fun v3 μ4 => if v3 = 0 then (f_X8_loose_53_L21 fu (nI n) x2 (nI (j + 1)) μ4) else (f_X8_loose_53_L21 fu (nI n) (x2 + 1) (nI (j + 1)) μ4)) ?_ ?_ (fun τ _ => ?_)
      · refine Bo.then (K := fun v3 μ4 => if v3 = 0 then (f_X7_loose_0_L20 fu (nI n) x2 (nI (j + 1)) μ4) else (f_X7_loose_0_L20 fu (nI n) (x2 + 1) (nI (j + 1)) μ4)) (J := fun v3 μ4 => if v3 = 0 then (f_X8_loose_53_L21 fu (nI n) x2 (nI (j + 1)) μ4) else (f_X8_loose_53_L21 fu (nI n) (x2 + 1) (nI (j + 1)) μ4)) (bo_drawn w m) (fun v σ1 ρ1 q _ wf rm => ?_)
        rcases q with rfl | rfl
        · exact ih (j + 1) x2 σ1 ρ1 (by omega) (by omega) wf rm
        · exact ih (j + 1) (x2 + 1) σ1 ρ1 (by omega) (by omega) wf rm
      · show ite _ _ _ = _
        rw [if_neg q]
        simp only [nm_mk, nI_1]
      · show ite _ _ _ = _
        rw [if_neg q]
        simp only [nm_mk, nI_1, Int32.add_zero]
theorem call_loose {c : Nat} {σ : Mem} (w : Rel c σ) (a0 : Int32) : Call c (fun σ => f_X7_loose_0 a0 σ) (fun σ => f_X8_loose_53 a0 σ) σ := by
  unfold f_X7_loose_0 f_X8_loose_53
  refine guard w (within_eq a0 1 30 σ) (fun τ _ => in_eq a0 1 30 τ) (fun hp => ?_)
  obtain ⟨n, hn, rfl⟩ := nI_of2 (M := 30) (n := 30) (by decide) (Int32.not_lt.mpr (Int32.le_trans (by decide) hp.1)) hp.2
  exact Bo.call w (loose_l hn 1000 0 0 σ (σ 54) (by omega) (by omega) w.1 w.2.1)
