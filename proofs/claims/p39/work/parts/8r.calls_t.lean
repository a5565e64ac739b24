/-! voice: PARTED, and the call -/
theorem mset_self {σ : Mem} {k j : Nat} {v : Int32} (h : σ k j = v) : mset σ k j v = σ := by
  funext q
  by_cases e : q = k
  · subst e
    rw [mset_eq]
    funext i
    by_cases hi : i = j
    · subst hi; rw [upd_at, h]
    · rw [upd_no hi]
  · rw [mset_ne e]
/-- both end alike; PARTED on both sides or on none -/
def Vq (F G : Mem → Res) (σ τ : Mem) : Prop := ∃ (v fl : Int32) (σ1 τ1 : Mem), (fl = 0 ∨ fl = 1) ∧ F σ = some (v, mset σ1 50 2 fl) ∧ G τ = some (v, mset τ1 53 18 fl) ∧ VF σ σ1 ∧ VG τ τ1 ∧ VT σ1 τ1
theorem Vo.q {F G : Mem → Res} {σ τ : Mem} (h : Vo F G σ τ) (h0 : σ 50 2 = 0) (h1 : τ 53 18 = 0) : Vq F G σ τ := by
  obtain ⟨v, σ1, τ1, a, b, f, g, t⟩ := h
  refine ⟨v, 0, σ1, τ1, Or.inl rfl, ?_, ?_, f, g, t⟩
  · rw [mset_self ((f.2 2 (by decide)).trans h0)]; exact a
  · rw [mset_self ((g.2 18 (by decide)).trans h1)]; exact b
theorem Vq.same {F F' G G' : Mem → Res} {σ τ : Mem} (h : Vq F' G' σ τ) (hF : F σ = F' σ) (hG : G τ = G' τ) : Vq F G σ τ := by
  obtain ⟨v, fl, σ1, τ1, hf, a, b, r⟩ := h
  exact ⟨v, fl, σ1, τ1, hf, hF.trans a, hG.trans b, r⟩
theorem Vo.thenq {F G : Mem → Res} {K J : Int32 → Mem → Res} {σ τ : Mem} (h : Vo F G σ τ) (k : ∀ v σ1 τ1, VF σ σ1 → VG τ τ1 → VT σ1 τ1 → Vq (K v) (J v) σ1 τ1) : Vq (fun σ => bd (F σ) K) (fun τ => bd (G τ) J) σ τ := by
  obtain ⟨v, σ1, τ1, a, b, f, g, t⟩ := h
  obtain ⟨v', fl, σ2, τ2, hf, a', b', f', g', t'⟩ := k v σ1 τ1 f g t
  exact ⟨v', fl, σ2, τ2, hf, by show bd (F σ) K = _; rw [a]; exact a', by show bd (G τ) J = _; rw [b]; exact b', f.tr f', g.tr g', t'⟩
def Sq (S : Mem) (p : Nat) (f d : Nat) (K V x : Int32) (G : Mem → Res) : Prop := ∀ σ τ, VC S p σ τ → VT σ τ → σ 50 2 = 0 → τ 53 18 = 0 → Vq (fun σ => f_X6_say_50 f K V x (nI d) σ) G σ τ
theorem sq_of {S : Mem} {p f d : Nat} {K V x B : Int32} (hb : ∀ σ, f_X6_bodyOf K V σ = some (B, σ)) (hd : d < 20) {J : Mem → Res} (h : ∀ σ τ, VC S p σ τ → VT σ τ → σ 50 2 = 0 → τ 53 18 = 0 → Vq (fun σ => bodyX (f_X6_say_50 f) B x (nI (d + 1)) σ) J σ τ) : Sq S p (f + 1) d K V x (fun τ => bd (f_X8_begins_53 B τ) fun _ μ => J μ) := fun σ τ vc vt h0 h1 =>
  Vq.same (Vo.thenq (K := fun _ μ => bodyX (f_X6_say_50 f) B x (nI (d + 1)) μ) (J := fun _ μ => J μ) (vo_begin vt B) (fun v σ1 τ1 a b t => h σ1 τ1 (vc.to a b) t ((a.2 2 (by decide)).trans h0) ((b.2 18 (by decide)).trans h1))) (say_eq hb hd x σ) rfl
theorem sq_plainParts {S : Mem} {p f d : Nat} {K x : Int32} (hp : p < 6) (hb : ∀ σ, f_X6_bodyOf K 3 σ = some (13, σ)) (hd : d < 20) : Sq S p (f + 1) d K 3 x (fun τ => f_X8_plainParts_53 (nI p) x τ) :=
  sq_of hb hd (J := fun μ2 => bd (f_X8_of_53 (nI p) 1 μ2) fun v3 μ4 => nm (v3 - nI p) fun (v5 : Int32) => if v5 = 0 then (gb 1 <| nm (mset μ4 53 18 1) fun (μ9 : Mem) => nm (μ9 53 18) fun (v10 : Int32) => if v10 = 0 then (gz v5 <| nm (x / v5) fun (v11 : Int32) => some (v11, μ9)) else (some (0, μ9))) else (gb 0 <| nm (mset μ4 53 18 0) fun (μ6 : Mem) => nm (μ6 53 18) fun (v7 : Int32) => if v7 = 0 then (gz v5 <| nm (x / v5) fun (v8 : Int32) => some (v8, μ6)) else (some (0, μ6)))) (fun σ τ vc vt h0 h1 => by
    have hx : bodyX (f_X6_say_50 f) 13 x (nI (d + 1)) σ = if S 4 p - nI p = 0 then some (0, mset σ 50 2 1) else some (x / (S 4 p - nI p), σ) := by
      rw [bodyX, if_neg (by decide), if_neg (by decide), if_neg (by decide), if_pos rfl, bd_et, f_X6_parts_50, nm_mk, vc.2.1, nm_mk, vc.1, nm_mk]
      by_cases h : S 4 p - nI p = 0
      · rw [if_pos h, if_pos h, gb_1, nm_mk]
      · rw [if_neg h, if_neg h, gz_of h, nm_mk]
    by_cases h : S 4 p - nI p = 0
    · refine ⟨0, 1, σ, τ, Or.inr rfl, ?_, ?_, VF.rf σ, VG.rf τ, vt⟩
      · show bodyX _ _ _ _ _ = _
        rw [hx, if_pos h]
      · show bd _ _ = _
        rw [m_of1 vc.2.2.2 hp, bd_mk, nm_mk, if_pos h, gb_1, nm_mk, nm_mk, mset_at, if_neg n01]
    · refine Vo.q ((Vo_ret vt (x / (S 4 p - nI p))).same ?_ ?_) h0 h1
      · show bodyX _ _ _ _ _ = _
        rw [hx, if_neg h]
      · show bd _ _ = _
        rw [m_of1 vc.2.2.2 hp, bd_mk, nm_mk, if_neg h, gb_0, nm_mk, nm_mk, mset_at, if_pos rfl, gz_of h, nm_mk, mset_self h1])
theorem sq_curveParts {S : Mem} {p f d : Nat} {K x : Int32} (hp : p < 6) {k : Nat} (hk : k ≤ 6) (eK : S 3 p = nI k) (hb : ∀ σ, f_X6_bodyOf K 3 σ = some (21, σ)) (hd : d + 6 < 20) : Sq S p (f + 7) d K 3 x (fun τ => f_X8_partsBy_53_L20 (nI p) x τ) :=
  sq_of hb (by omega) (J := fun μ4 => bd (f_X8_plainParts_53 (nI p) x μ4) fun v5 μ6 => nm (μ6 53 18) fun (v7 : Int32) => if v7 = 0 then (bd (f_X8_drops_53 (nI p) 1 μ6) fun v8 μ9 => nm (v5 + v8) fun (v10 : Int32) => some (v10, μ9)) else (some (0, μ6))) (fun σ τ vc vt h0 h1 => by
    obtain ⟨v, fl, σ1, τ1, hf, a, b, fx, fm, t⟩ := sq_plainParts (S := S) (K := 0) (x := x) (f := f + 5) (d := d + 1) hp (fun _ => rfl) (by omega) σ τ vc vt h0 h1
    have hx : bodyX (f_X6_say_50 (f + 6)) 21 x (nI (d + 1)) σ = if fl = 0 then (bd (f_X6_say_50 (f + 6) (nI k) 1 1 (nI (d + 1)) (mset σ1 50 2 fl)) fun v5 μ6 => some (v + v5, μ6)) else some (0, mset σ1 50 2 fl) := by
      have a : f_X6_say_50 (f + 6) 0 3 x (nI (d + 1)) σ = some (v, mset σ1 50 2 fl) := a
      rw [bodyX, if_neg (by decide), if_neg (by decide), if_neg (by decide), if_neg (by decide), if_neg (by decide), if_pos rfl, bd_et, f_X6_partsOfCurve_50, a, bd_mk, nm_mk, mset_at, nm_mk, show mset σ1 50 2 fl 50 5 = nI k by rw [mset_eq, upd_no (by decide), fx.2 5 (by decide), vc.2.2.1, eK]]
      rfl
    have hm : (bd (f_X8_plainParts_53 (nI p) x τ) fun v5 μ6 => nm (μ6 53 18) fun (v7 : Int32) => if v7 = 0 then (bd (f_X8_drops_53 (nI p) 1 μ6) fun v8 μ9 => nm (v5 + v8) fun (v10 : Int32) => some (v10, μ9)) else (some (0, μ6))) = if fl = 0 then (bd (f_X8_drops_53 (nI p) 1 (mset τ1 53 18 fl)) fun v8 μ9 => some (v + v8, μ9)) else some (0, mset τ1 53 18 fl) := by
      have b : f_X8_plainParts_53 (nI p) x τ = some (v, mset τ1 53 18 fl) := b
      rw [b, bd_mk, nm_mk, mset_at]
      rfl
    rcases hf with rfl | rfl
    · have g1 : σ1 50 2 = 0 := (fx.2 2 (by decide)).trans h0
      have g2 : τ1 53 18 = 0 := (fm.2 18 (by decide)).trans h1
      rw [mset_self g1] at hx
      rw [mset_self g2] at hm
      obtain ⟨v2, σ2, τ2, a2, b2, fx2, fm2, t2⟩ := sy_drops (S := S) (x := 1) (f := f) (d := d + 1) hp hk eK (by omega) σ1 τ1 (vc.to fx fm) t
      have a2 : f_X6_say_50 (f + 6) (nI k) 1 1 (nI (d + 1)) σ1 = some (v2, σ2) := a2
      have b2 : f_X8_drops_53 (nI p) 1 τ1 = some (v2, τ2) := b2
      refine Vo.q ⟨v + v2, σ2, τ2, ?_, ?_, fx.tr fx2, fm.tr fm2, t2⟩ h0 h1
      · show bodyX _ _ _ _ _ = _
        rw [hx, if_pos rfl, a2, bd_mk]
      · show bd _ _ = _
        rw [hm, if_pos rfl, b2, bd_mk]
    · refine ⟨0, 1, σ1, τ1, Or.inr rfl, ?_, ?_, fx, fm, t⟩
      · show bodyX _ _ _ _ _ = _
        rw [hx, if_neg n01]
      · show bd _ _ = _
        rw [hm, if_neg n01])
theorem sq_parts {S : Mem} {p f d : Nat} {x : Int32} (hp : p < 6) {K : Nat} (hK : K ≤ 6) (eK : S 3 p = nI K) (hd : d + 6 < 20) : Sq S p (f + 7) d (nI K) 3 x (fun τ => f_X8_partsBy_53 (nI p) x τ) := fun σ τ vc vt h0 h1 => by
  have hm : f_X8_partsBy_53 (nI p) x τ = (fun τ => if nI K = 1 then f_X8_partsBy_53_L20 (nI p) x τ else if nI K = 4 then f_X8_partsBy_53_L20 (nI p) x τ else bd (f_X8_plainParts_53 (nI p) x τ) fun v13 μ14 => some (v13, μ14)) τ := by
    rw [f_X8_partsBy_53, m_of0 vc.2.2.2 hp, bd_mk, eK, m_of0 vc.2.2.2 hp, bd_mk, eK]
  have hk := hK
  have ek := eK
  match K, hK with
  | 0, _ => exact (sq_plainParts (K := 0) (f := f + 6) hp (fun _ => rfl) (by omega) σ τ vc vt h0 h1).same rfl (hm.trans (bd_et _))
  | 1, _ => exact (sq_curveParts (K := 1) (f := f) hp hk ek (fun _ => rfl) hd σ τ vc vt h0 h1).same rfl hm
  | 2, _ => exact (sq_plainParts (K := 2) (f := f + 6) hp (fun _ => rfl) (by omega) σ τ vc vt h0 h1).same rfl (hm.trans (bd_et _))
  | 3, _ => exact (sq_plainParts (K := 3) (f := f + 6) hp (fun _ => rfl) (by omega) σ τ vc vt h0 h1).same rfl (hm.trans (bd_et _))
  | 4, _ => exact (sq_curveParts (K := 4) (f := f) hp hk ek (fun _ => rfl) hd σ τ vc vt h0 h1).same rfl hm
  | 5, _ => exact (sq_plainParts (K := 5) (f := f + 6) hp (fun _ => rfl) (by omega) σ τ vc vt h0 h1).same rfl (hm.trans (bd_et _))
  | 6, _ => exact (sq_plainParts (K := 6) (f := f + 6) hp (fun _ => rfl) (by omega) σ τ vc vt h0 h1).same rfl (hm.trans (bd_et _))
theorem Rel.trc {c : Nat} {σ τ : Mem} (w : Rel c σ) (hk : ∀ k, ¬ k = 50 → ¬ k = 51 → ¬ k = 52 → ¬ k = 53 → ¬ k = 56 → ¬ k = 64 → τ k = σ k) (h53 : τ 53 2 = σ 53 2) (he : τ 52 = τ 56) (t : TR τ) : Rel (c + 1) τ := by
  obtain ⟨a, b, ⟨n, hn, i1, i2, i3⟩, e, s, _⟩ := w
  have q : ∀ k, decide (¬ k = 50 ∧ ¬ k = 51 ∧ ¬ k = 52 ∧ ¬ k = 53 ∧ ¬ k = 56 ∧ ¬ k = 64) = true → τ k = σ k := fun k hk' => by
    obtain ⟨h1, h2, h3, h4, h5, h6⟩ := of_decide_eq_true hk'
    exact hk k h1 h2 h3 h4 h5 h6
  have sc : Sc τ σ := fun k h1 h2 _ _ => hk k (by omega) (by omega) (by omega) (by omega) (by omega) (by omega)
  have sk : Sc (KP τ) (KP σ) := fun k h1 h2 _ _ => hk (k + 20) (by omega) (by omega) (by omega) (by omega) (by omega) (by omega)
  refine ⟨a.ext sc, by rw [q 54 rfl]; exact b.ext sc, ⟨n, by omega, by rw [q 0 rfl]; exact i1, h53.trans i2, ?_⟩, he, ?_, t⟩
  · rcases i3 with i3 | ⟨i3, i4⟩
    · exact Or.inl i3
    · exact Or.inr ⟨i3.ext sk, by rw [q 55 rfl]; exact i4.ext sk⟩
  · unfold SR at *
    simp only [q 47 rfl, q 48 rfl, q 49 rfl, q 57 rfl, q 58 rfl, q 59 rfl]
    exact s
/-- the memory as a VOICE begins -/
def vx0 (σ : Mem) (p : Nat) : Mem := mset (mset (mset (mset (mset σ 50 1 0) 50 2 0) 50 3 (nI p)) 50 5 (σ 3 p)) 50 4 (σ 4 p)
def vm0 (τ : Mem) : Mem := mset (mset τ 53 17 0) 53 18 0
theorem vx0_k {σ : Mem} {p k : Nat} (h : ¬ k = 50) : vx0 σ p k = σ k := by
  unfold vx0
  rw [mset_ne h, mset_ne h, mset_ne h, mset_ne h, mset_ne h]
theorem vm0_k {τ : Mem} {k : Nat} (h : ¬ k = 53) : vm0 τ k = τ k := by
  unfold vm0
  rw [mset_ne h, mset_ne h]
theorem vx0_50 (σ : Mem) (p : Nat) : vx0 σ p 50 1 = 0 ∧ vx0 σ p 50 2 = 0 ∧ vx0 σ p 50 3 = nI p ∧ vx0 σ p 50 4 = σ 4 p ∧ vx0 σ p 50 5 = σ 3 p := ⟨rfl, rfl, rfl, rfl, rfl⟩
theorem vm0_53 (τ : Mem) : vm0 τ 53 17 = 0 ∧ vm0 τ 53 18 = 0 ∧ vm0 τ 53 2 = τ 53 2 := ⟨rfl, rfl, rfl⟩
theorem voice_end {c : Nat} {σ : Mem} (w : Rel c σ) {p : Nat} {F G : Mem → Res} (h : ∀ τ, VC σ p (vx0 σ p) τ → VT (vx0 σ p) τ → τ 53 18 = 0 → Vq F G (vx0 σ p) τ) : Call c (fun σ => bd (F (vx0 σ p)) fun v9 μ10 => nm (μ10 50 2) fun (v11 : Int32) => if v11 = 0 then (some (v9, μ10)) else (bd (f_X7_error_0 6 μ10) fun v12 μ13 => some (v12, μ13))) (fun τ => bd (G (vm0 τ)) fun v9 μ10 => nm (μ10 53 18) fun (v11 : Int32) => if v11 = 0 then (some (v9, μ10)) else (bd (f_X8_error_53 (-1000000006) μ10) fun v12 μ13 => some (v12, μ13))) σ := by
  have key : ∀ τ, (∀ k, ¬ k = 50 → ¬ k = 51 → ¬ k = 52 → τ k = σ k) → Vq F G (vx0 σ p) (vm0 τ) := fun τ hk => by
    refine h (vm0 τ) ⟨(vx0_50 σ p).2.2.1, (vx0_50 σ p).2.2.2.1, (vx0_50 σ p).2.2.2.2, ?_⟩ ⟨0, by omega, (vx0_50 σ p).1, (vm0_53 τ).1, fun i hi => ?_⟩ (vm0_53 τ).2.1
    · rw [vm0_k (by decide), hk 54 (by decide) (by decide) (by decide)]
      exact w.2.1
    · rw [vx0_k (by decide), vm0_k (by decide), hk 64 (by decide) (by decide) (by decide)]
      exact w.2.2.2.2.2.2.2 i hi
  obtain ⟨v, fl, σ1, τ1, hf, a, b, fx, fm, t⟩ := key σ (fun _ _ _ _ => rfl)
  have e1 : ∀ k, ¬ k = 50 → ¬ k = 51 → mset σ1 50 2 fl k = σ k := fun k h1 h2 => by rw [mset_ne h1, fx.1 k h1 h2, vx0_k h1]
  have tr : ∀ (M : Mem) (v' fl' : Int32) (σ2 τ2 : Mem), F (vx0 σ p) = some (v', mset σ2 50 2 fl') → VT σ2 τ2 → v' = v ∧ fl' = fl ∧ VT (mset σ1 50 2 fl) τ2 := fun M v' fl' σ2 τ2 hF t2 => by
    rw [a] at hF
    injection hF with hF
    injection hF with h1 h2
    have h3 : fl' = fl := by
      have := congrFun (congrFun h2 50) 2
      rw [mset_at, mset_at] at this
      exact this.symm
    obtain ⟨n, hn, q1, q2, q3⟩ := t2
    refine ⟨h1.symm, h3, n, hn, ?_, q2, fun i hi => ?_⟩
    · rw [h2, mset_eq, upd_no (by decide)]; exact q1
    · rw [h2, mset_ne (by decide)]; exact q3 i hi
  rcases hf with rfl | rfl
  · have e2 : Mo σ (mset σ1 50 2 0) := fun k h1 _ _ => e1 k (by omega) (by omega)
    obtain ⟨v', fl', σ2, τ2, _, a2, b2, fx2, fm2, t2⟩ := key (mset σ1 50 2 0) (fun k h1 h2 _ => e1 k h1 h2)
    obtain ⟨rfl, rfl, n, hn, q1, q2, q3⟩ := tr σ v' fl' σ2 τ2 a2 t2
    refine ⟨v', mset σ1 50 2 0, ?_, e2, mset τ2 53 18 0, ?_, w.trc (fun k h1 h2 h3 h4 h5 h6 => ?_) ?_ ?_ ?_⟩
    · show bd _ _ = _
      rw [a, bd_mk, nm_mk, mset_at, if_pos rfl]
    · show bd _ _ = _
      rw [b2, bd_mk, nm_mk, mset_at, if_pos rfl]
    · rw [mset_ne h4, fm2.1 k h4 h6, vm0_k h4, e1 k h1 h2]
    · rw [mset_eq, upd_no (by decide), fm2.2 2 (by decide), (vm0_53 _).2.2, e1 53 (by decide) (by decide)]
    · rw [mset_ne (by decide), mset_ne (by decide), fm2.1 52 (by decide) (by decide), fm2.1 56 (by decide) (by decide), vm0_k (by decide), vm0_k (by decide), e1 52 (by decide) (by decide), e1 56 (by decide) (by decide)]
      exact w.2.2.2.1
    · refine ⟨?_, ⟨n, hn, ?_⟩, fun i hi => ?_⟩
      · rw [mset_ne (by decide), mset_eq, upd_no (by decide), fm2.1 50 (by decide) (by decide), vm0_k (by decide), q1, q2]
      · rw [mset_ne (by decide), fm2.1 50 (by decide) (by decide), vm0_k (by decide), q1]
      · rw [mset_ne (by decide), mset_ne (by decide), fm2.1 51 (by decide) (by decide), vm0_k (by decide)]
        exact q3 i hi
  · have e52 : mset σ1 50 2 1 52 = σ 52 := e1 52 (by decide) (by decide)
    have e3 : ∀ k, ¬ k = 50 → ¬ k = 51 → ¬ k = 52 → mset (mset σ1 50 2 1) 52 6 (σ 52 6 + 1) k = σ k := fun k h1 h2 h3 => by rw [mset_ne h3, e1 k h1 h2]
    have e2 : Mo σ (mset (mset σ1 50 2 1) 52 6 (σ 52 6 + 1)) := fun k h1 _ _ => e3 k (by omega) (by omega) (by omega)
    obtain ⟨v', fl', σ2, τ2, _, a2, b2, fx2, fm2, t2⟩ := key _ e3
    obtain ⟨rfl, rfl, n, hn, q1, q2, q3⟩ := tr σ v' fl' σ2 τ2 a2 t2
    have e56 : mset τ2 53 18 1 56 = σ 56 := by rw [mset_ne (by decide), fm2.1 56 (by decide) (by decide), vm0_k (by decide), e3 56 (by decide) (by decide) (by decide)]
    refine ⟨-1000000006, mset (mset σ1 50 2 1) 52 6 (σ 52 6 + 1), ?_, e2, mset (mset τ2 53 18 1) 56 6 (σ 56 6 + 1), ?_, w.trc (fun k h1 h2 h3 h4 h5 h6 => ?_) ?_ ?_ ?_⟩
    · show bd _ _ = _
      rw [a, bd_mk, nm_mk, mset_at, if_neg n01, bd_et, x_err6, e52]
    · show bd _ _ = _
      rw [b2, bd_mk, nm_mk, mset_at, if_neg n01, bd_et, m_err6, e56]
    · rw [mset_ne h5, mset_ne h4, fm2.1 k h4 h6, vm0_k h4, e3 k h1 h2 h3]
    · rw [mset_ne (by decide), mset_eq, upd_no (by decide), fm2.2 2 (by decide), (vm0_53 _).2.2, e3 53 (by decide) (by decide) (by decide)]
    · rw [mset_ne (by decide), mset_ne (by decide), fm2.1 52 (by decide) (by decide), vm0_k (by decide), mset_eq, e52, mset_eq, e56, w.2.2.2.1]
    · refine ⟨?_, ⟨n, hn, ?_⟩, fun i hi => ?_⟩
      · rw [mset_ne (by decide), mset_ne (by decide), mset_ne (by decide), mset_eq, upd_no (by decide), fm2.1 50 (by decide) (by decide), vm0_k (by decide), mset_ne (by decide), q1, q2]
      · rw [mset_ne (by decide), mset_ne (by decide), fm2.1 50 (by decide) (by decide), vm0_k (by decide), mset_ne (by decide), q1]
      · rw [mset_ne (by decide), mset_ne (by decide), mset_ne (by decide), mset_ne (by decide), fm2.1 51 (by decide) (by decide), vm0_k (by decide), mset_ne (by decide)]
        exact q3 i hi
theorem call_voice {c : Nat} {σ : Mem} (w : Rel c σ) (a0 a1 a2 : Int32) : Call c (fun σ => f_X7_voice_0 a0 a1 a2 σ) (fun σ => f_X8_voice_53 a0 a1 a2 σ) σ := by
  unfold f_X7_voice_0 f_X8_voice_53
  refine guardP w a0 (fun p hp e => guard w (within_eq a1 0 3 σ) (fun τ _ => in_eq a1 0 3 τ) (fun hv => ?_))
  subst e
  obtain ⟨K, hK, eK⟩ := (w.1.2.1 p hp).1
  obtain ⟨V, hV, rfl⟩ := nI_of2 (M := 3) (n := 3) (by decide) (Int32.not_lt.mpr hv.1) hv.2
  have hx : ∀ {V : Int32}, (gi (nI p) 6 <| nm (σ 3 (nI p).toNatClampNeg) fun (v7 : Int32) => gi (nI p) 6 <| nm (σ 4 (nI p).toNatClampNeg) fun (v8 : Int32) => bd (f_X6_speak_50 (nI p) v7 v8 V a2 σ) fun v9 μ10 => nm (μ10 50 2) fun (v11 : Int32) => if v11 = 0 then (some (v9, μ10)) else (bd (f_X7_error_0 6 μ10) fun v12 μ13 => some (v12, μ13))) = bd (f_X6_say_50 25 (nI K) V a2 (nI 0) (vx0 σ p)) fun v9 μ10 => nm (μ10 50 2) fun (v11 : Int32) => if v11 = 0 then (some (v9, μ10)) else (bd (f_X7_error_0 6 μ10) fun v12 μ13 => some (v12, μ13)) := fun {V} => by
    rw [gin (by omega), nm_mk, gin (by omega), nm_mk, cln (by omega), f_X6_speak_50, nm_mk, gb_0, nm_mk, nm_mk, nm_mk, nm_mk, bd_et, eK, vx0, eK]
    rfl
  match V, hV with
  | 0, _ => exact Call_of (voice_end w (p := p) (F := fun μ => f_X6_say_50 25 (nI K) 0 a2 (nI 0) μ) (G := fun μ => f_X8_hisses_53 (nI p) a2 μ) (fun τ vc vt h1 => (sy_hisses (S := σ) (f := 22) (d := 0) hp hK eK (by omega) _ τ vc vt).q rfl h1)) hx (fun τ _ => rfl)
  | 1, _ => exact Call_of (voice_end w (p := p) (F := fun μ => f_X6_say_50 25 (nI K) 1 a2 (nI 0) μ) (G := fun μ => f_X8_drops_53 (nI p) a2 μ) (fun τ vc vt h1 => (sy_drops (S := σ) (f := 19) (d := 0) hp hK eK (by omega) _ τ vc vt).q rfl h1)) hx (fun τ _ => rfl)
  | 2, _ => exact Call_of (voice_end w (p := p) (F := fun μ => f_X6_say_50 25 (nI K) 2 a2 (nI 0) μ) (G := fun μ => f_X8_thuds_53 (nI p) a2 μ) (fun τ vc vt h1 => (sy_thuds (S := σ) (f := 17) (d := 0) hp hK eK (by omega) _ τ vc vt).q rfl h1)) hx (fun τ _ => rfl)
  | 3, _ => exact Call_of (voice_end w (p := p) (F := fun μ => f_X6_say_50 25 (nI K) 3 a2 (nI 0) μ) (G := fun μ => f_X8_partsBy_53 (nI p) a2 μ) (fun τ vc vt h1 => sq_parts (S := σ) (f := 18) (d := 0) hp hK eK (by omega) _ τ vc vt rfl h1)) hx (fun τ _ => rfl)
