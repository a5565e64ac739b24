/-! sheet, put, move, weightsBy, judge -/
theorem Rel.shs {c : Nat} {σ τ : Mem} (w : Rel c σ) (hk : ∀ k, ¬ (47 ≤ k ∧ k ≤ 49) → ¬ (57 ≤ k ∧ k ≤ 59) → τ k = σ k) (h : SR τ) : Rel (c + 1) τ := by
  obtain ⟨a, b, ⟨n, hn, i1, i2, i3⟩, e, _, t⟩ := w
  have q : ∀ k, decide (¬ (47 ≤ k ∧ k ≤ 49) ∧ ¬ (57 ≤ k ∧ k ≤ 59)) = true → τ k = σ k := fun k hk' => by
    obtain ⟨h1, h2⟩ := of_decide_eq_true hk'
    exact hk k h1 h2
  have sc : Sc τ σ := fun k h1 h2 _ _ => hk k (by omega) (by omega)
  have sk : Sc (KP τ) (KP σ) := fun k h1 h2 _ _ => hk (k + 20) (by omega) (by omega)
  refine ⟨a.ext sc, by rw [q 54 rfl]; exact b.ext sc, ⟨n, by omega, by rw [q 0 rfl]; exact i1, by rw [q 53 rfl]; exact i2, ?_⟩, by rw [q 52 rfl, q 56 rfl]; exact e, h, ?_⟩
  · rcases i3 with i3 | ⟨i3, i4⟩
    · exact Or.inl i3
    · exact Or.inr ⟨i3.ext sk, by rw [q 55 rfl]; exact i4.ext sk⟩
  · unfold TR at *
    simp only [q 50 rfl, q 51 rfl, q 53 rfl, q 64 rfl]
    exact t
def zr (f : Nat → Int32) (s k : Nat) : Nat → Int32 := fun x => if s * 24 ≤ x ∧ x < s * 24 + k then 0 else f x
theorem zr_s (f : Nat → Int32) (s k : Nat) : upd (zr f s k) (s * 24 + k) 0 = zr f s (k + 1) := by
  funext x
  unfold upd zr
  by_cases h : x = s * 24 + k
  · rw [if_pos h, if_pos (by omega)]
  · rw [if_neg h]
    by_cases h2 : s * 24 ≤ x ∧ x < s * 24 + k
    · rw [if_pos h2, if_pos (by omega)]
    · rw [if_neg h2, if_neg (by omega)]
theorem zr_0 (f : Nat → Int32) (s : Nat) : zr f s 0 = f := by
  funext x
  exact if_neg (by omega)
theorem mset_mrow (σ : Mem) (k : Nat) (f : Nat → Int32) (j : Nat) (v : Int32) : mset (mrow σ k f) k j v = mrow σ k (upd f j v) := by
  funext q
  by_cases h : q = k
  · subst h; rw [mset_eq, mrow_eq, mrow_eq]
  · rw [mset_ne h, mrow_ne h, mrow_ne h]
theorem x_lay_l {s : Nat} (hs : s < 4) (σ : Mem) (fu : Nat) : ∀ k, k ≤ 24 → 24 - k < fu → f_X4_lay_46_L17 fu (nI s) (nI k) (mrow σ 49 (zr (σ 49) s k)) = some (0, mrow σ 49 (zr (σ 49) s 24)) := by
  induction fu with
  | zero => intro k h1 h2; omega
  | succ fu ih =>
    intro k h1 h2
    show fb_X4_lay_46_L17 (f_X4_lay_46_L17 fu) (nI s) (nI k) _ = _
    rw [fb_X4_lay_46_L17]
    by_cases h : k = 24
    · subst h
      rw [if_pos (show (24 : Int32) ≤ nI 24 from Int32.le_refl _)]
    · rw [if_neg (fun q => by have := (nI_leI (a := 24) (by omega) (by omega)).mp q; omega), nm_mk, nm_mk, i_s24, gin (by omega), nm_mk, cln (by omega), nm_mk, nI_1, mset_mrow, zr_s]
      exact ih (k + 1) (by omega) (by omega)
theorem x_lay {s : Nat} (hs : s < 4) (b n : Int32) (σ : Mem) : f_X4_lay_46 (nI s) b n σ = some (0, mrow (mset (mset σ 47 s b) 48 s n) 49 (zr (σ 49) s 24)) := by
  have h := x_lay_l hs (mset (mset σ 47 s b) 48 s n) 1000 0 (by omega) (by omega)
  rw [zr_0, mrow_self rfl, mset_ne (k' := 49) (by decide), mset_ne (k' := 49) (by decide)] at h
  rw [f_X4_lay_46, gin (by omega), nm_mk, gin (by omega), nm_mk, cln (by omega)]
  exact h
theorem m_lay_l {s : Nat} (hs : s < 4) (σ : Mem) (fu : Nat) : ∀ k, k ≤ 24 → 24 - k < fu → f_X8_sheet_53_L93 fu (nI s) (nI k) (mrow σ 59 (zr (σ 59) s k)) = some (1, mrow σ 59 (zr (σ 59) s 24)) := by
  induction fu with
  | zero => intro k h1 h2; omega
  | succ fu ih =>
    intro k h1 h2
    show fb_X8_sheet_53_L93 (f_X8_sheet_53_L93 fu) (nI s) (nI k) _ = _
    rw [fb_X8_sheet_53_L93]
    by_cases h : k = 24
    · subst h
      rw [if_pos (show (24 : Int32) ≤ nI 24 from Int32.le_refl _)]
    · rw [if_neg (fun q => by have := (nI_leI (a := 24) (by omega) (by omega)).mp q; omega), nm_mk, nm_mk, i_24s, gin (by omega), nm_mk, cln (by omega), nm_mk, nI_1, mset_mrow, zr_s]
      exact ih (k + 1) (by omega) (by omega)
theorem m_lay {s : Nat} (hs : s < 4) (b n : Int32) (σ : Mem) : f_X8_sheet_53_L68 (nI s) b n σ = some (1, mrow (mset (mset σ 57 s b) 58 s (if b = 0 then 0 else n)) 59 (zr (σ 59) s 24)) := by
  rw [f_X8_sheet_53_L68, gin (by omega), nm_mk, gin (by omega), nm_mk, gin (by omega), nm_mk, cln (by omega)]
  by_cases h : b = 0
  · have q := m_lay_l hs (mset (mset σ 57 s b) 58 s 0) 1000 0 (by omega) (by omega)
    rw [zr_0, mrow_self rfl, mset_ne (k' := 59) (by decide), mset_ne (k' := 59) (by decide)] at q
    rw [if_pos h, if_pos h]
    exact q
  · have q := m_lay_l hs (mset (mset σ 57 s b) 58 s n) 1000 0 (by omega) (by omega)
    rw [zr_0, mrow_self rfl, mset_ne (k' := 59) (by decide), mset_ne (k' := 59) (by decide)] at q
    rw [if_neg h, if_neg h]
    exact q
theorem sheet_ok {c : Nat} {σ : Mem} (w : Rel c σ) {s : Nat} (hs : s < 4) {b n : Int32} (hb : b = 0 ∨ b = 8 ∨ b = 16 ∨ b = 32) (hn : bn n 24) {F G : Mem → Res} (hF : F σ = bd (f_X4_lay_46 (nI s) b n σ) fun _ μ => some (1, μ)) (hG : ∀ τ, ∃ n', G τ = f_X8_sheet_53_L68 (nI s) b n' τ ∧ (if b = 0 then 0 else n') = n) : Call c F G σ := by
  obtain ⟨n', g, e⟩ := hG (mrow (mset (mset σ 47 s b) 48 s n) 49 (zr (σ 49) s 24))
  refine ⟨1, _, by rw [hF, x_lay hs, bd_mk], fun k h1 _ _ => by rw [mrow_ne (by omega), mset_ne (by omega), mset_ne (by omega)], _, by rw [g, m_lay hs, e], w.shs (fun k h1 h2 => ?_) (fun t ht => ?_)⟩
  · rw [mrow_ne (by omega), mset_ne (by omega), mset_ne (by omega), mrow_ne (by omega), mset_ne (by omega), mset_ne (by omega)]
  · obtain ⟨p1, p2, p3, p4, p5⟩ := w.sr t ht
    have e47 : mrow (mset (mset (mrow (mset (mset σ 47 s b) 48 s n) 49 (zr (σ 49) s 24)) 57 s b) 58 s n) 59 (zr (mrow (mset (mset σ 47 s b) 48 s n) 49 (zr (σ 49) s 24) 59) s 24) 47 = upd (σ 47) s b := by
      rw [mrow_ne (by decide), mset_ne (by decide), mset_ne (by decide), mrow_ne (by decide), mset_ne (by decide), mset_eq]
    have e48 : mrow (mset (mset (mrow (mset (mset σ 47 s b) 48 s n) 49 (zr (σ 49) s 24)) 57 s b) 58 s n) 59 (zr (mrow (mset (mset σ 47 s b) 48 s n) 49 (zr (σ 49) s 24) 59) s 24) 48 = upd (σ 48) s n := by
      rw [mrow_ne (by decide), mset_ne (by decide), mset_ne (by decide), mrow_ne (by decide), mset_eq, mset_ne (by decide)]
    have e49 : mrow (mset (mset (mrow (mset (mset σ 47 s b) 48 s n) 49 (zr (σ 49) s 24)) 57 s b) 58 s n) 59 (zr (mrow (mset (mset σ 47 s b) 48 s n) 49 (zr (σ 49) s 24) 59) s 24) 49 = zr (σ 49) s 24 := by
      rw [mrow_ne (by decide), mset_ne (by decide), mset_ne (by decide), mrow_eq]
    have e57 : mrow (mset (mset (mrow (mset (mset σ 47 s b) 48 s n) 49 (zr (σ 49) s 24)) 57 s b) 58 s n) 59 (zr (mrow (mset (mset σ 47 s b) 48 s n) 49 (zr (σ 49) s 24) 59) s 24) 57 = upd (σ 57) s b := by
      rw [mrow_ne (by decide), mset_ne (by decide), mset_eq, mrow_ne (by decide), mset_ne (by decide), mset_ne (by decide)]
    have e58 : mrow (mset (mset (mrow (mset (mset σ 47 s b) 48 s n) 49 (zr (σ 49) s 24)) 57 s b) 58 s n) 59 (zr (mrow (mset (mset σ 47 s b) 48 s n) 49 (zr (σ 49) s 24) 59) s 24) 58 = upd (σ 58) s n := by
      rw [mrow_ne (by decide), mset_eq, mset_ne (by decide), mrow_ne (by decide), mset_ne (by decide), mset_ne (by decide)]
    have e59 : mrow (mset (mset (mrow (mset (mset σ 47 s b) 48 s n) 49 (zr (σ 49) s 24)) 57 s b) 58 s n) 59 (zr (mrow (mset (mset σ 47 s b) 48 s n) 49 (zr (σ 49) s 24) 59) s 24) 59 = zr (σ 59) s 24 := by
      rw [mrow_eq, mrow_ne (by decide), mset_ne (by decide), mset_ne (by decide)]
    simp only [e47, e48, e49, e57, e58, e59]
    by_cases h : t = s
    · subst h
      rw [upd_at, upd_at, upd_at, upd_at]
      refine ⟨rfl, rfl, hn, hb, fun i hi => ?_⟩
      rw [zr, zr, if_pos (by omega), if_pos (by omega)]
      exact ⟨fun _ => ⟨rfl, rfl⟩, fun _ => ⟨rfl, rfl⟩, fun _ _ => rfl⟩
    · rw [upd_no h, upd_no h, upd_no h, upd_no h]
      refine ⟨p1, p2, p3, p4, fun i hi => ?_⟩
      rw [zr, zr, if_neg (by omega), if_neg (by omega)]
      exact p5 i hi
theorem bits_le {b : Int32} (hb : b = 8 ∨ b = 16 ∨ b = 32) : ¬ b ≤ 0 ∧ ¬ b = 0 := by
  rcases hb with rfl | rfl | rfl <;> decide
theorem call_sheet {c : Nat} {σ : Mem} (w : Rel c σ) (a0 a1 a2 : Int32) : Call c (fun σ => f_X7_sheet_0 a0 a1 a2 σ) (fun σ => f_X8_sheet_53 a0 a1 a2 σ) σ := by
  unfold f_X7_sheet_0 f_X8_sheet_53
  refine guard w (x_isSheet a0 σ) (fun τ _ => m_isSheet a0 τ) (fun hs => ?_)
  obtain ⟨s, hs, rfl⟩ := nI_of2 (M := 3) (n := 3) (by decide) (Int32.not_lt.mpr hs.1) hs.2
  have hs : s < 4 := by omega
  have go : (a1 = 8 ∨ a1 = 16 ∨ a1 = 32) → Call c (fun σ => f_X7_sheet_0_L35 (nI s) a1 a2 σ) (fun σ => f_X8_sheet_53_L36 (nI s) a1 a2 σ) σ := fun hb => by
    obtain ⟨b1, b2⟩ := bits_le hb
    unfold f_X7_sheet_0_L35 f_X8_sheet_53_L36 f_X8_sheet_53_L51
    by_cases h0 : 0 ≤ a2
    · by_cases h24 : a2 ≤ 24
      · exact sheet_ok w hs (b := a1) (n := a2) (Or.inr hb) (bn_of (by decide) rfl ⟨h0, h24⟩) (by show ite _ _ _ = _; rw [if_neg b2, if_pos h0, if_pos h24]) (fun τ => ⟨a2, by show ite _ _ _ = _; rw [if_neg b1, if_pos h0, if_neg b1, if_pos h24], if_neg b2⟩)
      · exact Call_of (Call_e1 w) (by show ite _ _ _ = _; rw [if_neg b2, if_pos h0, if_neg h24, bd_et]) (fun τ _ => by show ite _ _ _ = _; rw [if_neg b1, if_pos h0, if_neg b1, if_neg h24, bd_et])
    · exact Call_of (Call_e3 w) (by show ite _ _ _ = _; rw [if_neg b2, if_neg h0, bd_et]) (fun τ _ => by show ite _ _ _ = _; rw [if_neg b1, if_neg h0, bd_et])
  by_cases h0 : a1 = 0
  · subst h0
    exact sheet_ok w hs (b := 0) (n := 0) (Or.inl rfl) ⟨0, by omega, rfl⟩ (by show ite _ _ _ = _; rw [if_pos rfl, f_X7_sheet_0_L35, if_pos rfl]) (fun τ => ⟨a2, by show ite _ _ _ = _; rw [if_pos rfl, f_X8_sheet_53_L36, if_pos (by decide), f_X8_sheet_53_L51, if_pos (by decide)], if_pos rfl⟩)
  · by_cases h8 : a1 = 8
    · exact Call_of (go (Or.inl h8)) (by show ite _ _ _ = _; rw [if_neg h0, if_pos h8]) (fun τ _ => by show ite _ _ _ = _; rw [if_neg h0, if_pos h8])
    · by_cases h16 : a1 = 16
      · exact Call_of (go (Or.inr (Or.inl h16))) (by show ite _ _ _ = _; rw [if_neg h0, if_neg h8, if_pos h16]) (fun τ _ => by show ite _ _ _ = _; rw [if_neg h0, if_neg h8, if_pos h16])
      · by_cases h32 : a1 = 32
        · exact Call_of (go (Or.inr (Or.inr h32))) (by show ite _ _ _ = _; rw [if_neg h0, if_neg h8, if_neg h16, if_pos h32]) (fun τ _ => by show ite _ _ _ = _; rw [if_neg h0, if_neg h8, if_neg h16, if_pos h32])
        · exact Call_of (Call_e1 w) (by show ite _ _ _ = _; rw [if_neg h0, if_neg h8, if_neg h16, if_neg h32, bd_et]) (fun τ _ => by show ite _ _ _ = _; rw [if_neg h0, if_neg h8, if_neg h16, if_neg h32, bd_et])
theorem a255 (v : Int32) : v &&& 255 = v.toInt8.toInt32 &&& 255 ∧ v.toInt8.toInt32.toInt8.toInt32 = v.toInt8.toInt32 := by
  constructor
  · apply Int32.toBitVec_inj.mp
    show v.toBitVec &&& 255#32 = (v.toBitVec.signExtend 8).signExtend 32 &&& 255#32
    rw [show (255#32) = (BitVec.allOnes 8).setWidth 32 from rfl]
    apply BitVec.eq_of_getLsbD_eq
    intro i hi
    simp only [BitVec.getLsbD_and, BitVec.getLsbD_signExtend, BitVec.getLsbD_setWidth, BitVec.getLsbD_allOnes]
    by_cases h : i < 8
    · simp [h, hi]
    · simp [h]
  · apply Int32.toBitVec_inj.mp
    show (((v.toBitVec.signExtend 8).signExtend 32).signExtend 8).signExtend 32 = (v.toBitVec.signExtend 8).signExtend 32
    congr 1
    apply BitVec.eq_of_getLsbD_eq
    intro i hi
    simp only [BitVec.getLsbD_signExtend]
    simp [hi, show i < 32 by omega]
theorem a65535 (v : Int32) : v &&& 65535 = v.toInt16.toInt32 &&& 65535 ∧ v.toInt16.toInt32.toInt16.toInt32 = v.toInt16.toInt32 := by
  constructor
  · apply Int32.toBitVec_inj.mp
    show v.toBitVec &&& 65535#32 = (v.toBitVec.signExtend 16).signExtend 32 &&& 65535#32
    rw [show (65535#32) = (BitVec.allOnes 16).setWidth 32 from rfl]
    apply BitVec.eq_of_getLsbD_eq
    intro i hi
    simp only [BitVec.getLsbD_and, BitVec.getLsbD_signExtend, BitVec.getLsbD_setWidth, BitVec.getLsbD_allOnes]
    by_cases h : i < 16
    · simp [h, hi]
    · simp [h]
  · apply Int32.toBitVec_inj.mp
    show (((v.toBitVec.signExtend 16).signExtend 32).signExtend 16).signExtend 32 = (v.toBitVec.signExtend 16).signExtend 32
    congr 1
    apply BitVec.eq_of_getLsbD_eq
    intro i hi
    simp only [BitVec.getLsbD_signExtend]
    simp [hi, show i < 32 by omega]
theorem x_miss {s : Nat} (hs : s < 4) (σ : Mem) : f_X4_isMissing_46 (nI s) σ = some (if σ 47 s = 0 then 1 else 0, σ) := by
  rw [f_X4_isMissing_46, gin (by omega), nm_mk, cln (by omega), gb_0, gb_1, ite_some]
theorem m_notThere {a : Int32} {σ : Mem} (h : ¬ (0 ≤ a ∧ a ≤ 3)) : f_X8_notThere_53 a σ = some (-1000000001, σ) := by
  rw [f_X8_notThere_53, m_isSheet, bd_mk, ifz, if_neg h]
theorem m_there {s : Nat} (hs : s < 4) (σ : Mem) : f_X8_notThere_53 (nI s) σ = some (if σ 57 s = 0 then -1000000002 else 0, σ) := by
  rw [f_X8_notThere_53, m_isSheet, bd_mk, ifz, if_pos ⟨nI_pos' (by omega), (nI_leI (b := 3) (by omega) (by omega)).mpr (by omega)⟩, gin (by omega), nm_mk, cln (by omega), ite_some]
/-- a SHEET that isn't there -/
theorem sheet_guard {c : Nat} {σ : Mem} (w : Rel c σ) (a : Int32) {K J : Mem → Res} (h : ∀ s, s < 4 → a = nI s → ¬ σ 47 s = 0 → Call c K J σ) : Call c (fun σ => bd (f_X7_isSheet a σ) fun v μ => if v = 0 then bd (f_X7_error_0 1 μ) (fun r s => some (r, s)) else bd (f_X4_isMissing_46 a μ) fun v3 μ4 => if v3 = 0 then K μ4 else bd (f_X7_error_0 2 μ4) (fun r s => some (r, s))) (fun σ => bd (f_X8_notThere_53 a σ) fun v μ => if v = 0 then J μ else bd (f_X8_error_53 v μ) (fun r s => some (r, s))) σ := by
  by_cases hp : 0 ≤ a ∧ a ≤ 3
  · obtain ⟨s, hs, rfl⟩ := nI_of2 (M := 3) (n := 3) (by decide) (Int32.not_lt.mpr hp.1) hp.2
    have hs : s < 4 := by omega
    have e := (w.sr s hs).1
    by_cases h0 : σ 47 s = 0
    · refine Call_of (Call_e2 w) ?_ (fun τ ht => ?_)
      · show bd _ _ = _
        rw [x_isSheet, bd_mk, ifz, if_pos hp, x_miss hs, bd_mk, if_pos h0, if_neg n01, bd_et]
      · show bd _ _ = _
        rw [m_there hs, bd_mk, ht 57 (by decide) (by decide) (by decide), ← e, if_pos h0, if_neg (by decide), bd_et]
    · refine Call_of (h s hs rfl h0) ?_ (fun τ ht => ?_)
      · show bd _ _ = _
        rw [x_isSheet, bd_mk, ifz, if_pos hp, x_miss hs, bd_mk, if_neg h0, if_pos rfl]
      · show bd _ _ = _
        rw [m_there hs, bd_mk, ht 57 (by decide) (by decide) (by decide), ← e, if_neg h0, if_pos rfl]
  · refine Call_of (Call_e1 w) ?_ (fun τ ht => ?_)
    · show bd _ _ = _
      rw [x_isSheet, bd_mk, ifz, if_neg hp, bd_et]
    · show bd _ _ = _
      rw [m_notThere hp, bd_mk, if_neg (by decide), bd_et]
theorem x_stands {σ : Mem} {s L : Nat} (hs : s < 4) (h : σ 48 s = nI L) (i n : Int32) : f_X4_standsAt_46 (nI s) i n σ = some (if ¬ n < 0 ∧ ¬ i < 0 ∧ ¬ nI L < i ∧ ¬ nI L - i < n then 1 else 0, σ) := by
  rw [f_X4_standsAt_46, gin (by omega), nm_mk, gin (by omega), nm_mk, cln (by omega), h, nm_mk, gb_0, gb_1]
  by_cases h1 : n < 0
  · rw [if_pos h1, if_neg (fun q => q.1 h1)]
  · rw [if_neg h1]
    by_cases h2 : i < 0
    · rw [if_pos h2, if_neg (fun q => q.2.1 h2)]
    · rw [if_neg h2]
      by_cases h3 : nI L < i
      · rw [if_pos h3, if_neg (fun q => q.2.2.1 h3)]
      · rw [if_neg h3]
        by_cases h4 : nI L - i < n
        · rw [if_pos h4, if_neg (fun q => q.2.2.2 h4)]
        · rw [if_neg h4, if_pos ⟨h1, h2, h3, h4⟩]
def wrx (b v : Int32) : Int32 := if b = 8 then v &&& 255 else if b = 16 then v &&& 65535 else v
def wrm (b v : Int32) : Int32 := if b = 8 then v.toInt8.toInt32 else if b = 16 then v.toInt16.toInt32 else v
theorem cr_w (b v : Int32) : cr b (wrx b v) (wrm b v) := by
  unfold wrx wrm
  refine ⟨fun h => ?_, fun h => ?_, fun h1 h2 => ?_⟩
  · rw [if_pos h, if_pos h]; exact a255 v
  · have e8 : ¬ b = 8 := by rw [h]; decide
    rw [if_neg e8, if_neg e8, if_pos h, if_pos h]; exact a65535 v
  · rw [if_neg h1, if_neg h1, if_neg h2, if_neg h2]
theorem x_write {s k : Nat} (hs : s < 4) (hk : k < 24) (v : Int32) (σ : Mem) : f_X4_write_46 (nI s) (nI k) v σ = some (0, mset σ 49 (s * 24 + k) (wrx (σ 47 s) v)) := by
  rw [f_X4_write_46, gin (by omega), nm_mk, cln (by omega), wrx]
  by_cases h8 : σ 47 s = 8
  · rw [if_pos h8, if_pos h8, nm_mk, nm_mk, nm_mk, i_s24, gin (by omega), nm_mk, cln (by omega)]
  · rw [if_neg h8, if_neg h8, gin (by omega), nm_mk]
    by_cases h16 : σ 47 s = 16
    · rw [if_pos h16, if_pos h16, nm_mk, nm_mk, nm_mk, i_s24, gin (by omega), nm_mk, cln (by omega)]
    · rw [if_neg h16, if_neg h16, nm_mk, nm_mk, i_s24, gin (by omega), nm_mk, cln (by omega)]
theorem SR.put {σ : Mem} (h : SR σ) {s k : Nat} (hs : s < 4) (hk : k < 24) (v : Int32) {τ : Mem} (e47 : τ 47 = σ 47) (e48 : τ 48 = σ 48) (e49 : τ 49 = upd (σ 49) (s * 24 + k) (wrx (σ 47 s) v)) (e57 : τ 57 = σ 57) (e58 : τ 58 = σ 58) (e59 : τ 59 = upd (σ 59) (s * 24 + k) (wrm (σ 47 s) v)) : SR τ := by
  intro t ht
  obtain ⟨p1, p2, p3, p4, p5⟩ := h t ht
  rw [e47, e48, e49, e57, e58, e59]
  refine ⟨p1, p2, p3, p4, fun i hi => ?_⟩
  by_cases q : t * 24 + i = s * 24 + k
  · obtain rfl : t = s := by omega
    rw [q, upd_at, upd_at]
    exact cr_w _ _
  · rw [upd_no q, upd_no q]
    exact p5 i hi
theorem call_put {c : Nat} {σ : Mem} (w : Rel c σ) (a0 a1 a2 : Int32) : Call c (fun σ => f_X7_put_0 a0 a1 a2 σ) (fun σ => f_X8_put_53 a0 a1 a2 σ) σ := by
  have key : ∀ s, s < 4 → a0 = nI s → ¬ σ 47 s = 0 → Call c (fun μ4 => bd (f_X4_standsAt_46 a0 a1 1 μ4) fun v5 μ6 => if v5 = 0 then (bd (f_X7_error_0 1 μ6) fun v9 μ10 => some (v9, μ10)) else (bd (f_X4_write_46 a0 a1 a2 μ6) fun v7 μ8 => some (1, μ8))) (fun μ2 => gi a0 4 <| nm (μ2 58 a0.toNatClampNeg) fun (v14 : Int32) => nm (v14 - 1) fun (v15 : Int32) => bd (f_X8_in a1 0 v15 μ2) fun v16 μ17 => if v16 = 0 then bd (f_X8_error_53 (-1000000001) μ17) (fun r s => some (r, s)) else some (1, mset μ17 59 ((24 * a0 + a1).toNatClampNeg) (wrm (μ17 57 a0.toNatClampNeg) a2))) σ := fun s hs e hm => by
    subst e
    obtain ⟨p1, p2, ⟨L, hL, p3⟩, p4, p5⟩ := w.sr s hs
    by_cases hr : 0 ≤ a1 ∧ a1 < nI L
    · obtain ⟨k, hk, rfl⟩ := nI_of (Int32.not_lt.mpr hr.1)
      have hkL : k < L := (nI_ltI hk (by omega)).mp hr.2
      have c1 : ¬ (1 : Int32) < 0 ∧ ¬ nI k < 0 ∧ ¬ nI L < nI k ∧ ¬ nI L - nI k < 1 := ⟨by decide, nI_pos hk, fun q => by have := (nI_ltI (by omega) (by omega)).mp q; omega, fun q => by
        rw [nI_sub (by omega)] at q
        have := (nI_ltI (b := 1) (by omega) (by omega)).mp q
        omega⟩
      refine ⟨1, mset σ 49 (s * 24 + k) (wrx (σ 47 s) a2), ?_, fun q h1 _ _ => by rw [mset_ne (by omega)], mset (mset σ 49 (s * 24 + k) (wrx (σ 47 s) a2)) 59 (s * 24 + k) (wrm (σ 47 s) a2), ?_, w.shs (fun q h1 h2 => by rw [mset_ne (by omega), mset_ne (by omega)]) (w.sr.put hs (show k < 24 by omega) a2 ?_ ?_ ?_ ?_ ?_ ?_)⟩
      · show bd _ _ = _
        rw [x_stands hs p3, bd_mk, if_pos c1, if_neg n01, x_write hs (by omega), bd_mk]
      · show gi _ _ _ = _
        rw [gin (by omega), nm_mk, cln (by omega), mset_ne (k' := 58) (by decide), ← p2, p3, nm_mk, in_eq, bd_mk, ifz, if_pos ⟨hr.1, by rw [lt_pred (by omega)]; exact hr.2⟩, i_24s, cln (by omega), mset_ne (k' := 57) (by decide), ← p1]
      · rw [mset_ne (by decide), mset_ne (by decide)]
      · rw [mset_ne (by decide), mset_ne (by decide)]
      · rw [mset_ne (by decide), mset_eq]
      · rw [mset_ne (by decide), mset_ne (by decide)]
      · rw [mset_ne (by decide), mset_ne (by decide)]
      · rw [mset_eq, mset_ne (by decide)]
    · have c1 : ¬ (¬ (1 : Int32) < 0 ∧ ¬ a1 < 0 ∧ ¬ nI L < a1 ∧ ¬ nI L - a1 < 1) := fun ⟨_, h2, h3, h4⟩ => by
        obtain ⟨k, hk, rfl⟩ := nI_of h2
        have hkL : k ≤ L := by
          rcases Nat.lt_or_ge L k with q | q
          · exact absurd ((nI_ltI (by omega) hk).mpr q) h3
          · exact q
        rw [nI_sub hkL] at h4
        have h5 : ¬ L - k < 1 := fun q => h4 ((nI_ltI (b := 1) (by omega) (by omega)).mpr q)
        exact hr ⟨nI_pos' hk, (nI_ltI hk (by omega)).mpr (by omega)⟩
      refine Call_of (Call_e1 w) ?_ (fun τ ht => ?_)
      · show bd _ _ = _
        rw [x_stands hs p3, bd_mk, if_neg c1, if_pos rfl, bd_et]
      · show gi _ _ _ = _
        rw [gin (by omega), nm_mk, cln (by omega), ht 58 (by decide) (by decide) (by decide), ← p2, p3, nm_mk, in_eq, bd_mk, ifz, if_neg (fun q => hr ⟨q.1, by have := q.2; rw [lt_pred (by omega)] at this; exact this⟩), bd_et]
  refine Call_of (sheet_guard w a0 key) rfl (fun τ ht => ?_)
  show f_X8_put_53 a0 a1 a2 τ = _
  rw [f_X8_put_53]
  by_cases hp : 0 ≤ a0 ∧ a0 ≤ 3
  · obtain ⟨s, hs, rfl⟩ := nI_of2 (M := 3) (n := 3) (by decide) (Int32.not_lt.mpr hp.1) hp.2
    have hs : s < 4 := by omega
    obtain ⟨p1, p2, ⟨L, hL, p3⟩, p4, p5⟩ := w.sr s hs
    rw [m_there hs, bd_mk, bd_mk]
    by_cases h0 : τ 57 s = 0
    · rw [if_pos h0, if_neg (by decide), f_X8_put_53_L33, if_neg (by decide), if_neg (by decide)]
    · rw [if_neg h0, if_pos rfl, if_pos rfl, gin (by omega), gin (by omega), nm_mk, nm_mk, nm_mk, nm_mk, in_eq, bd_mk, bd_mk, ifz, ifz]
      by_cases hr : 0 ≤ a1 ∧ a1 ≤ τ 58 (nI s).toNatClampNeg - 1
      · rw [if_pos hr, if_pos hr, f_X8_put_53_L33, if_pos rfl, nm_mk, nm_mk, gin (by omega), nm_mk]
        obtain ⟨hr1, hr2⟩ := hr
        rw [cln (by omega), ht 58 (by decide) (by decide) (by decide), ← p2, p3, lt_pred (by omega)] at hr2
        obtain ⟨k, hk, rfl⟩ := nI_of (Int32.not_lt.mpr hr1)
        have hkL : k < L := (nI_ltI hk (by omega)).mp hr2
        rw [wrm, i_24s, cln (by omega)]
        by_cases h8 : τ 57 s = 8
        · rw [if_pos h8, if_pos h8, nm_mk, gin (by omega), nm_mk, cln (by omega)]
        · rw [if_neg h8, if_neg h8, gin (by omega), nm_mk]
          by_cases h16 : τ 57 s = 16
          · rw [if_pos h16, if_pos h16, nm_mk, gin (by omega), nm_mk, cln (by omega)]
          · rw [if_neg h16, if_neg h16, gin (by omega), nm_mk, cln (by omega)]
      · rw [if_neg hr, if_neg hr, if_neg (by decide)]
  · rw [m_notThere hp, bd_mk, bd_mk, if_neg (by decide), f_X8_put_53_L33, if_neg (by decide), if_neg (by decide)]
