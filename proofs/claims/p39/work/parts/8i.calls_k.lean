/-! feed -/
theorem byt (X : BitVec 64) {k : Nat} (hk : k ≤ 56) : (((((X >>> k).signExtend 32).signExtend 8).signExtend 32).signExtend 8).signExtend 32 &&& 255#32 = ((X.sshiftRight k) &&& 255#64).signExtend 32 := by
  rw [show (255#32) = (BitVec.allOnes 8).setWidth 32 from rfl, show (255#64) = (BitVec.allOnes 8).setWidth 64 from rfl]
  apply BitVec.eq_of_getLsbD_eq
  intro i hi
  simp only [BitVec.getLsbD_and, BitVec.getLsbD_signExtend, BitVec.getLsbD_setWidth, BitVec.getLsbD_allOnes, BitVec.getLsbD_ushiftRight, BitVec.getLsbD_sshiftRight]
  by_cases h : i < 8
  · have h1 : i < 64 := by omega
    have h2 : ¬ 64 ≤ i := by omega
    have h3 : k + i < 64 := by omega
    simp [h, hi, h1, h2, h3]
  · have e : ((BitVec.allOnes 8).setWidth 64).msb = false := rfl
    simp [h]
    intro _ _ _
    exact e
theorem fby (x : Int64) {k : Nat} (hk : k < 8) : ((x.toUInt64 >>> ((8 * nI k).toInt64.toUInt64 &&& Int64.toUInt64 63)).toInt64).toInt32.toInt8.toInt32.toInt8.toInt32 &&& 255 = ((x >>> ((8 * nI k).toInt64 &&& 63)) &&& 255).toInt32 := by
  apply Int32.toBitVec_inj.mp
  match k, hk with
  | 0, _ => exact byt x.toBitVec (k := 0) (by omega)
  | 1, _ => exact byt x.toBitVec (k := 8) (by omega)
  | 2, _ => exact byt x.toBitVec (k := 16) (by omega)
  | 3, _ => exact byt x.toBitVec (k := 24) (by omega)
  | 4, _ => exact byt x.toBitVec (k := 32) (by omega)
  | 5, _ => exact byt x.toBitVec (k := 40) (by omega)
  | 6, _ => exact byt x.toBitVec (k := 48) (by omega)
  | 7, _ => exact byt x.toBitVec (k := 56) (by omega)
def fbx (x : Int64) (k : Nat) : Int32 := ((x.toUInt64 >>> ((8 * nI k).toInt64.toUInt64 &&& Int64.toUInt64 63)).toInt64).toInt32.toInt8.toInt32.toInt8.toInt32
def fbm (x : Int64) (k : Nat) : Int32 := ((x >>> ((8 * nI k).toInt64 &&& 63)) &&& 255).toInt32
def tfx (f : Nat → Int32) (x : Int64) (p : Nat) : Nat → Nat → Int32
  | 0 => f
  | k + 1 => upd (tfx f x p k) (p + k) (fbx x k)
def tfm (f : Nat → Int32) (x : Int64) (p : Nat) : Nat → Nat → Int32
  | 0 => f
  | k + 1 => upd (upd (tfm f x p k) (60 + (p + k)) (fbm x k)) 9 (nI (p + k + 1))
theorem x_feed_l {S : Mem} {p n : Nat} (hp : p + n ≤ 60) (x : Int64) (h15 : S 1 5 = nI p) (fu : Nat) : ∀ k, k ≤ n → n - k < fu → f_X7_feed_0_L39 fu x (nI n) (nI k) (mrow S 19 (tfx (S 19) x p k)) = some (nI (p + n), mset (mrow S 19 (tfx (S 19) x p n)) 1 5 (nI (p + n))) := by
  induction fu with
  | zero => intro k h1 h2; omega
  | succ fu ih =>
    intro k h1 h2
    show fb_X7_feed_0_L39 (f_X7_feed_0_L39 fu) x (nI n) (nI k) _ = _
    have e1 : ∀ f, mrow S 19 f 1 5 = nI p := fun f => by rw [mrow_ne (by decide), h15]
    by_cases hk : k = n
    · subst hk
      rw [fb_X7_feed_0_L39, if_pos (Int32.le_refl _), nm_mk, e1, nm_mk, nI_add, nm_mk, nm_mk, mset_at]
    · rw [fb_X7_feed_0_L39, if_neg (fun q => absurd ((nI_leI (by omega) (by omega)).mp q) (by omega)), nm_mk, e1, nm_mk, nI_add, nm_mk, nm_mk, nm_mk, nm_mk, gin (by omega), nm_mk, cln (by omega), nm_mk, nI_1]
      have e2 : ∀ v, mset (mrow S 19 (tfx (S 19) x p k)) 19 (p + k) v = mrow S 19 (upd (tfx (S 19) x p k) (p + k) v) := fun v => by
        funext q
        by_cases h : q = 19
        · subst h; rw [mset_eq, mrow_eq, mrow_eq]
        · rw [mset_ne h, mrow_ne h, mrow_ne h]
      rw [e2]
      exact ih (k + 1) (by omega) (by omega)
theorem m_feed_l {T : Mem} {ρ : Nat → Int32} {p n : Nat} (hp : p + n ≤ 60) (x : Int64) (h9 : ρ 9 = nI p) (fu : Nat) : ∀ k, k ≤ n → n - k < fu → tfm ρ x p k 9 = nI (p + k) → f_X8_feed_53_L41 fu x (nI n) (nI k) (mrow T 54 (tfm ρ x p k)) = some (nI (p + n), mrow T 54 (tfm ρ x p n)) := by
  induction fu with
  | zero => intro k h1 h2; omega
  | succ fu ih =>
    intro k h1 h2 h3
    show fb_X8_feed_53_L41 (f_X8_feed_53_L41 fu) x (nI n) (nI k) _ = _
    by_cases hk : k = n
    · subst hk
      rw [fb_X8_feed_53_L41, if_pos (Int32.le_refl _), g9_386, nm_mk, c_9, mrow_eq, h3]
    · rw [fb_X8_feed_53_L41, if_neg (fun q => absurd ((nI_leI (by omega) (by omega)).mp q) (by omega)), g9_386, nm_mk, c_9, mrow_eq, h3, nm_mk, i_60, nm_mk, nm_mk, nm_mk, nm_mk, gin (by omega), nm_mk, cln (by omega), mrow_set, g9_386, nm_mk, mrow_eq, upd_no (by omega), h3, nm_mk, nI_1, g9_386, nm_mk, mrow_set, nm_mk, nI_1]
      exact ih (k + 1) (by omega) (by omega) (upd_at _ _ _)
theorem tf_rel {S : Mem} {ρ : Nat → Int32} (x : Int64) {p : Nat} (hf : ∀ i, i < 60 → fits .byte (.int (S 19 i)) = true) (h : ∀ i, i < 60 → ρ (60 + i) = S 19 i &&& 255) : ∀ k, k ≤ 8 → p + k ≤ 60 → (∀ i, i < 60 → fits .byte (.int (tfx (S 19) x p k i)) = true) ∧ (∀ i, i < 60 → tfm ρ x p k (60 + i) = tfx (S 19) x p k i &&& 255) ∧ (∀ q, ¬ q = 9 → ¬ (60 ≤ q ∧ q < 120) → tfm ρ x p k q = ρ q)
  | 0, _, _ => ⟨hf, h, fun _ _ _ => rfl⟩
  | k + 1, h8, hp => by
    obtain ⟨a, b, d⟩ := tf_rel (p := p) x hf h k (by omega) (by omega)
    refine ⟨fun i hi => ?_, fun i hi => ?_, fun q h1 h2 => ?_⟩
    · show fits .byte (.int (upd _ _ _ i)) = true
      by_cases e : i = p + k
      · rw [e, upd_at]
        exact pk_fb _
      · rw [upd_no e]
        exact a i hi
    · show upd (upd _ _ _) _ _ (60 + i) = upd _ _ _ i &&& 255
      rw [upd_no (by omega)]
      by_cases e : i = p + k
      · rw [e, upd_at, upd_at]
        exact (fby x (show k < 8 by omega)).symm
      · rw [upd_no e, upd_no (by omega)]
        exact b i hi
    · show upd (upd _ _ _) _ _ q = _
      rw [upd_no h1, upd_no (by omega)]
      exact d q h1 h2
/-- THE TAPE alone has changed -/
theorem WF.tape {S S' : Mem} (w : WF S) (hk : ∀ k, (2 ≤ k ∧ k ≤ 14) ∨ k = 16 ∨ k = 17 → S' k = S k) (h1 : ∀ j, ¬ j = 5 → S' 1 j = S 1 j) (h5 : bn (S' 1 5) 60) (ht : ∀ i, i < 60 → fits .byte (.int (S' 19 i)) = true) : WF S' := by
  obtain ⟨a, b, d, e, f, g, h, i⟩ := w
  unfold WF
  rw [hk 2 (by omega), hk 3 (by omega), hk 4 (by omega), hk 5 (by omega), hk 6 (by omega), hk 7 (by omega), hk 8 (by omega), hk 9 (by omega), hk 10 (by omega), hk 11 (by omega), hk 12 (by omega), h1 7 (by omega), h1 8 (by omega), h1 9 (by omega), h1 10 (by omega), h1 11 (by omega), h1 12 (by omega), h1 13 (by omega)]
  exact ⟨a, b, d, e, ⟨h5, f.2⟩, ht, h.ext (hk 13 (by omega)) (hk 14 (by omega)), i.ext (hk 16 (by omega)) (hk 17 (by omega))⟩
theorem RM.tape {ρ ρ' : Nat → Int32} {S S' : Mem} (m : RM ρ S) (hk : ∀ k, (2 ≤ k ∧ k ≤ 14) ∨ k = 16 ∨ k = 17 ∨ k = 20 → S' k = S k) (h1 : ∀ j, ¬ j = 5 → S' 1 j = S 1 j) (hr : ∀ q, ¬ q = 9 → ¬ (60 ≤ q ∧ q < 120) → ρ' q = ρ q) (h9 : ρ' 9 = S' 1 5) (ht : ∀ i, i < 60 → ρ' (60 + i) = S' 19 i &&& 255) : RM ρ' S' := by
  obtain ⟨a, b, d, e, f, g, h, i⟩ := m
  unfold RM
  rw [hk 2 (by omega), hk 3 (by omega), hk 4 (by omega), hk 5 (by omega), hk 6 (by omega), hk 7 (by omega), hk 8 (by omega), hk 9 (by omega), hk 10 (by omega), hk 11 (by omega), hk 12 (by omega), hk 20 (by omega), h1 7 (by omega), h1 8 (by omega), h1 9 (by omega), h1 10 (by omega), h1 11 (by omega), h1 12 (by omega), h1 13 (by omega), h1 14 (by omega), hr 0 (by omega) (by omega), hr 1 (by omega) (by omega), hr 2 (by omega) (by omega), hr 3 (by omega) (by omega), hr 4 (by omega) (by omega), hr 5 (by omega) (by omega), hr 6 (by omega) (by omega), hr 7 (by omega) (by omega), hr 8 (by omega) (by omega), hr 10 (by omega) (by omega)]
  refine ⟨a, ⟨b.1, b.2.1, h9, b.2.2.2⟩, fun i hi => ?_, fun i hi => ?_, ht, fun i hi => ?_, h.ext2 (fun x h1 h2 => hr x (by omega) (by omega)) (hk 13 (by omega)) (hk 14 (by omega)), i.ext2 (fun x h1 h2 => hr x (by omega) (by omega)) (hk 16 (by omega)) (hk 17 (by omega))⟩
  · rw [hr _ (by omega) (by omega), hr _ (by omega) (by omega), hr _ (by omega) (by omega), hr _ (by omega) (by omega)]; exact d i hi
  · rw [hr _ (by omega) (by omega), hr _ (by omega) (by omega), hr _ (by omega) (by omega), hr _ (by omega) (by omega), hr _ (by omega) (by omega)]; exact e i hi
  · rw [hr _ (by omega) (by omega)]; exact g i hi
theorem call_feed {c : Nat} {σ : Mem} (w : Rel c σ) (a0 : Int64) (a1 : Int32) : Call c (fun σ => f_X7_feed_0 a0 a1 σ) (fun σ => f_X8_feed_53 a0 a1 σ) σ := by
  unfold f_X7_feed_0 f_X8_feed_53
  refine guard w (within_eq a1 1 8 σ) (fun τ _ => in_eq a1 1 8 τ) (fun hp => ?_)
  obtain ⟨n, hn, rfl⟩ := nI_of2 (M := 8) (n := 8) (by decide) (Int32.not_lt.mpr (Int32.le_trans (by decide) hp.1)) hp.2
  obtain ⟨p, hp60, h15⟩ := w.1.2.2.2.2.1.1
  have h9 : σ 54 9 = nI p := w.2.1.r9.trans h15
  by_cases h : p + n ≤ 60
  · have q : nI (p + n) ≤ 60 := (nI_leI (b := 60) (by omega) (by omega)).mpr h
    have tr := tf_rel (S := σ) (ρ := σ 54) a0 (p := p) w.1.2.2.2.2.2.1 w.2.1.tp n hn h
    have e9 : tfm (σ 54) a0 p n 9 = nI (p + n) := by
      cases n with
      | zero => exact h9
      | succ k => exact upd_at _ _ _
    refine Call_chg w (r := nI (p + n)) (σ1 := mset (mrow σ 19 (tfx (σ 19) a0 p n)) 1 5 (nI (p + n))) (ρ := tfm (σ 54) a0 p n) ?_ (fun q hq => by rw [mset_ne (by omega), mrow_ne (by omega)]) ?_ ?_ ?_
    · show nm _ _ = _
      rw [nm_mk, h15, nm_mk, nI_add, if_pos q]
      have := x_feed_l (S := σ) h a0 h15 1000 0 (by omega) (by omega)
      rw [show mrow σ 19 (tfx (σ 19) a0 p 0) = σ from mrow_self rfl] at this
      exact this
    · exact w.1.tape (fun k hk => by rw [mset_ne (by omega), mrow_ne (by omega)]) (fun j hj => by rw [mset_eq, upd_no hj, mrow_ne (by decide)]) ⟨p + n, h, mset_at⟩ (fun i hi => by rw [mset_ne (by decide), mrow_eq]; exact tr.1 i hi)
    · exact w.2.1.tape (fun k hk => by rw [mset_ne (by omega), mrow_ne (by omega)]) (fun j hj => by rw [mset_eq, upd_no hj, mrow_ne (by decide)]) tr.2.2 (by rw [mset_at, e9]) (fun i hi => by rw [mset_ne (by decide), mrow_eq]; exact tr.2.1 i hi)
    · show gi _ _ _ = _
      have e54 : mset (mrow σ 19 (tfx (σ 19) a0 p n)) 1 5 (nI (p + n)) 54 = σ 54 := by rw [mset_ne (by decide), mrow_ne (by decide)]
      rw [g9_386, nm_mk, c_9, e54, h9, nm_mk, nI_add, if_pos q]
      have := m_feed_l (T := mset (mrow σ 19 (tfx (σ 19) a0 p n)) 1 5 (nI (p + n))) (ρ := σ 54) h a0 h9 1000 0 (by omega) (by omega) h9
      rw [show mrow (mset (mrow σ 19 (tfx (σ 19) a0 p n)) 1 5 (nI (p + n))) 54 (tfm (σ 54) a0 p 0) = mset (mrow σ 19 (tfx (σ 19) a0 p n)) 1 5 (nI (p + n)) from mrow_self e54] at this
      exact this
  · have q : ¬ nI (p + n) ≤ 60 := fun q => h ((nI_leI (b := 60) (by omega) (by omega)).mp q)
    refine Call_of (Call_e4 w) ?_ (fun τ ht => ?_)
    · show nm _ _ = _
      rw [nm_mk, h15, nm_mk, nI_add, if_neg q, bd_et]
    · show gi _ _ _ = _
      rw [g9_386, nm_mk, c_9, ht.r, h9, nm_mk, nI_add, if_neg q, bd_et]
