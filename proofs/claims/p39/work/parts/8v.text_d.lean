/-! the reference's reader against the machine: what is used, the bytes, how many -/
abbrev Ev : Type := Int32 × (Nat → Int32) × Nat
def mrun (e : Ev) (i : Nat) (st : XS) : Nat × XS := xr e.1 e.2.1 (e.2.2 - i) i st
theorem mrun_some {e : Ev} {i : Nat} {st st' : XS} (hi : i < e.2.2) (h : xstep e.1 (e.2.1 i) st = some st') : mrun e i st = mrun e (i + 1) st' := by
  unfold mrun
  obtain ⟨k, hk⟩ : ∃ k, e.2.2 - i = k + 1 := ⟨e.2.2 - i - 1, by omega⟩
  rw [hk, show e.2.2 - (i + 1) = k by omega]
  show (match xstep e.1 (e.2.1 i) st with | none => (i, st) | some st' => xr e.1 e.2.1 k (i + 1) st') = _
  rw [h]
theorem mrun_none {e : Ev} {i : Nat} {st : XS} (h : i < e.2.2 → xstep e.1 (e.2.1 i) st = none) : mrun e i st = (i, st) := by
  unfold mrun
  cases hk : e.2.2 - i with
  | zero => rfl
  | succ k =>
    show (match xstep e.1 (e.2.1 i) st with | none => (i, st) | some st' => xr e.1 e.2.1 k (i + 1) st') = _
    rw [h (by omega)]
def LE2 (f g : Nat → Int32) : LI → Prop
  | [] => True
  | s :: D => enc s (f D.length) (g D.length) ∧ LE2 f g D
theorem LE2.up {f g : Nat → Int32} {k : Nat} {v w : Int32} : ∀ {D : LI}, D.length ≤ k → LE2 f g D → LE2 (upd f k v) (upd g k w) D
  | [], _, _ => trivial
  | s :: D, h, q => by
    have h : D.length + 1 ≤ k := h
    exact ⟨by rw [upd_no (by omega), upd_no (by omega)]; exact q.1, LE2.up (by omega) q.2⟩
def ENV (e : Ev) (σ : Mem) : Prop := σ 54 9 = nI e.2.2 ∧ (∀ j, j < e.2.2 → σ 54 (60 + j) = e.2.1 j) ∧ σ 53 15 = e.1
def RS (e : Ev) (σ : Mem) (i o : Nat) (D : LI) : Prop := ENV e σ ∧ σ 53 12 = nI i ∧ σ 53 13 = nI o ∧ σ 53 14 = 0 ∧ σ 53 11 = nI D.length ∧ LE2 (σ 60) (σ 61) D
def Fm (σ σ' : Mem) : Prop := (∀ k, ¬ k = 53 → ¬ k = 60 → ¬ k = 61 → σ' k = σ k) ∧ ∀ j, ¬ j = 11 → ¬ j = 12 → ¬ j = 13 → ¬ j = 14 → σ' 53 j = σ 53 j
theorem Fm.rf (σ : Mem) : Fm σ σ := ⟨fun _ _ _ _ => rfl, fun _ _ _ _ _ => rfl⟩
theorem Fm.tr {a b c : Mem} (h : Fm a b) (g : Fm b c) : Fm a c := ⟨fun k h1 h2 h3 => (g.1 k h1 h2 h3).trans (h.1 k h1 h2 h3), fun j h1 h2 h3 h4 => (g.2 j h1 h2 h3 h4).trans (h.2 j h1 h2 h3 h4)⟩
theorem Fm.set {a b : Mem} (h : Fm a b) {k j : Nat} {v : Int32} (hk : (k = 53 ∧ 11 ≤ j ∧ j ≤ 14) ∨ k = 60 ∨ k = 61) : Fm a (mset b k j v) := by
  refine ⟨fun q h1 h2 h3 => by rw [mset_ne (by omega)]; exact h.1 q h1 h2 h3, fun q h1 h2 h3 h4 => ?_⟩
  by_cases e : k = 53
  · subst e
    rw [mset_eq, upd_no (by omega)]; exact h.2 q h1 h2 h3 h4
  · rw [mset_ne (by omega)]; exact h.2 q h1 h2 h3 h4
theorem ENV.fm {e : Ev} {σ σ' : Mem} (f : Fm σ σ') (h : ENV e σ) : ENV e σ' := by
  have k := f.1 54 (by decide) (by decide) (by decide)
  exact ⟨by rw [k]; exact h.1, fun j hj => by rw [k]; exact h.2.1 j hj, by rw [f.2 15 (by decide) (by decide) (by decide) (by decide)]; exact h.2.2⟩
def lk (e : Ev) (i : Nat) : Int32 := if i < e.2.2 then e.2.1 i else -1
theorem m_look {e : Ev} {σ : Mem} {i : Nat} (he : e.2.2 ≤ 60) (hv : ENV e σ) (h : σ 53 12 = nI i) (hi : i ≤ e.2.2) : f_X8_look_53 σ = some (lk e i, σ) := by
  unfold lk
  rw [f_X8_look_53, nm_mk, h, g9_386, nm_mk, c_9, hv.1]
  by_cases q : i < e.2.2
  · rw [if_neg (nI_ge q (by omega)), if_pos q, nm_mk, nm_mk, i_60, gin (by omega), nm_mk, cln (by omega), hv.2.1 i q]
  · rw [if_pos (nI_le (by omega) (by omega)), if_neg q]
theorem m_name (b : Int32) (σ : Mem) : f_X8_nameOf_53 b σ = some (nameI (σ 53 15) b, σ) := by
  unfold f_X8_nameOf_53 nameI
  by_cases h97 : b = 97
  · rw [if_pos h97, if_pos h97, f_X8_nameOf_53_L54, nm_mk]
    by_cases q : σ 53 15 = 0
    · rw [if_pos q, if_pos h97, if_pos q]
    · rw [if_neg q, if_neg q]
  rw [if_neg h97, if_neg h97]
  by_cases h109 : b = 109
  · rw [if_pos h109, if_pos h109, f_X8_nameOf_53_L77, nm_mk]
    by_cases q : σ 53 15 = 1
    · rw [if_pos q, if_neg (show ¬ b = 115 by rw [h109]; decide), if_pos q]
    · rw [if_neg q, if_neg q]
  rw [if_neg h109, if_neg h109]
  by_cases h111 : b = 111
  · rw [if_pos h111, if_pos h111]
  rw [if_neg h111, if_neg h111]
  by_cases h115 : b = 115
  · rw [if_pos h115, if_pos h115, f_X8_nameOf_53_L77, nm_mk]
    by_cases q : σ 53 15 = 1
    · rw [if_pos q, if_pos h115, if_pos q]
    · rw [if_neg q, if_neg q]
  rw [if_neg h115, if_neg h115]
  by_cases h119 : b = 119
  · rw [if_pos h119, if_pos h119, f_X8_nameOf_53_L54, nm_mk]
    by_cases q : σ 53 15 = 0
    · rw [if_pos q, if_neg h97, if_pos q]
    · rw [if_neg q, if_neg q]
  rw [if_neg h119, if_neg h119]
theorem m_lays1 {σ : Mem} {l : Nat} (h : σ 53 11 = nI l) (hl : l < 60) (a w : Int32) : f_X8_lays_53 a w σ = some (0, mset (mset (mset σ 60 l a) 61 l w) 53 11 (nI (l + 1))) := by
  rw [f_X8_lays_53, nm_mk, h, if_neg (show ¬ (60 : Int32) ≤ nI l from nI_ge (b := 60) hl (by omega)), nm_mk, gin (by omega), nm_mk, cln (by omega), nm_mk, mset_ne (k' := 53) (by decide), h, gin (by omega), nm_mk, cln (by omega), nm_mk, mset_ne (k' := 53) (by decide), mset_ne (k' := 53) (by decide), h, nm_mk, nI_1, nm_mk]
theorem m_lays2 {σ : Mem} {l : Nat} (h : σ 53 11 = nI l) (hl : 60 ≤ l) (h2 : l ≤ 60) (a w : Int32) : f_X8_lays_53 a w σ = some (0, σ) := by
  rw [f_X8_lays_53, nm_mk, h, if_pos (show (60 : Int32) ≤ nI l from nI_le (a := 60) hl (by omega))]
/-- the next step is laid -/
theorem RS.lay {e : Ev} {σ : Mem} {i o : Nat} {D : LI} (h : RS e σ i o D) (hl : D.length < 60) {s a w : Int32} (hs : enc s a w) : ∃ σ', f_X8_lays_53 a w σ = some (0, σ') ∧ RS e σ' i o (s :: D) ∧ Fm σ σ' := by
  obtain ⟨h1, h2, h3, h4, h5, h6⟩ := h
  have fm : Fm σ (mset (mset (mset σ 60 D.length a) 61 D.length w) 53 11 (nI (D.length + 1))) := (((Fm.rf σ).set (by omega)).set (by omega)).set (by omega)
  refine ⟨_, m_lays1 h5 hl a w, ⟨h1.fm fm, ?_, ?_, ?_, mset_at, ?_⟩, fm⟩
  · rw [mset_eq, upd_no (by decide), mset_ne (by decide), mset_ne (by decide)]; exact h2
  · rw [mset_eq, upd_no (by decide), mset_ne (by decide), mset_ne (by decide)]; exact h3
  · rw [mset_eq, upd_no (by decide), mset_ne (by decide), mset_ne (by decide)]; exact h4
  · rw [mset_ne (by decide), mset_ne (by decide), mset_eq, mset_ne (by decide), mset_eq, mset_ne (by decide)]
    exact ⟨by rw [upd_at, upd_at]; exact hs, h6.up (Nat.le_refl _)⟩
def hdL : LI → Nat
  | [] => 0
  | s :: D => if s < -3 then (if s = -33 then hdL D else hdL D - 1) else hdL D + 1
def okL : LI → Prop
  | [] => True
  | s :: D => (s < -3 → (s = -33 ∧ 1 ≤ hdL D) ∨ (¬ s = -33 ∧ isSg (-s) ∧ 2 ≤ hdL D)) ∧ okL D
def GD (D D' : LI) : Prop := hdL D' = hdL D + 1 ∧ (okL D → okL D')
theorem GD.push (D : LI) {s : Int32} (h : ¬ s < -3) : GD D (s :: D) := ⟨if_neg h, fun o => ⟨fun q => absurd q h, o⟩⟩
theorem GD.neg {D D1 : LI} (h : GD D D1) : GD D (-33 :: D1) := by
  refine ⟨?_, fun o => ⟨fun _ => Or.inl ⟨rfl, by rw [h.1]; omega⟩, h.2 o⟩⟩
  rw [hdL, if_pos (by decide), if_pos rfl]; exact h.1
theorem GD.two {D D1 D2 : LI} (h : GD D D1) (g : GD D1 D2) {u : Int32} (hr : 1 ≤ rk u) (h6 : ¬ rk u = 6) : GD D (-u :: D2) := by
  obtain ⟨s1, _, _, _, _, s2, s3, _⟩ := rk_sg hr h6
  have := h.1
  have g1 := g.1
  refine ⟨?_, fun o => ⟨fun _ => Or.inr ⟨s3, by rw [Int32.neg_neg]; exact s1, by omega⟩, g.2 (h.2 o)⟩⟩
  rw [hdL, if_pos s2, if_neg s3]; omega
def push : LI → LI → LI
  | [], D => D
  | p :: P, D => push P (-p :: D)
theorem push_app : ∀ (P : LI) (u : Int32) (D : LI), push (P ++ [u]) D = -u :: push P D
  | [], u, D => rfl
  | p :: P, u, D => push_app P u (-p :: D)
theorem push_len : ∀ (P D : LI), (push P D).length = P.length + D.length
  | [], D => by show D.length = 0 + D.length; omega
  | p :: P, D => by
    show (push P (-p :: D)).length = P.length + 1 + D.length
    rw [push_len P]
    show P.length + (D.length + 1) = _
    omega
theorem settle_top {r : Nat} : ∀ {H D : LI}, top H < r → settle r H D = (H, D)
  | [], D, _ => rfl
  | s :: H, D, h => if_pos h
theorem settle_app {r : Nat} : ∀ {P H D : LI}, (∀ p ∈ P, r ≤ rk p) → top H < r → settle r (P ++ H) D = (H, push P D)
  | [], H, D, _, h => settle_top h
  | p :: P, H, D, hp, h => by
    have h1 : r ≤ rk p := hp p (List.mem_cons_self ..)
    show (if rk p < r then (p :: (P ++ H), D) else settle r (P ++ H) (-p :: D)) = (H, push P (-p :: D))
    rw [if_neg (by omega)]
    exact settle_app (fun q hq => hp q (List.mem_cons_of_mem _ hq)) h
theorem grp_app : ∀ {P H : LI}, (∀ p ∈ P, 1 ≤ rk p) → grp (P ++ H) = grp H
  | [], H, _ => rfl
  | p :: P, H, hp => by
    have h1 : 1 ≤ rk p := hp p (List.mem_cons_self ..)
    show (if p = 40 then grp (P ++ H) + 1 else grp (P ++ H)) = grp H
    rw [if_neg (fun q => by rw [q] at h1; exact absurd h1 (by decide))]
    exact grp_app (fun q hq => hp q (List.mem_cons_of_mem _ hq))
/-- it went wrong -/
def Pb (e : Ev) (y : Nat × XS) (σ : Mem) : Prop := ENV e σ ∧ y.1 ≤ e.2.2 ∧ σ 53 12 = nI y.1 ∧ σ 53 14 = 1 ∧ (∃ l, l ≤ 60 ∧ σ 53 11 = nI l) ∧ xfin e.2.2 y = none
def NX (e : Ev) (r j : Nat) (st : XS) : Prop := j < e.2.2 → xstep e.1 (e.2.1 j) st = none ∨ e.2.1 j = 41 ∨ (1 ≤ rk (e.2.1 j) ∧ rk (e.2.1 j) < r)
/-- it went well: what waits is of rank rp and above -/
def Pg (e : Ev) (rp rn i : Nat) (y : Nat × XS) (H D : LI) (σ : Mem) : Prop := ∃ (j : Nat) (P : LI) (d : Nat) (Dm : LI), i ≤ j ∧ j ≤ e.2.2 ∧ RS e σ j (opn H) (push P Dm) ∧ y = mrun e j (P ++ H, d, false, Dm) ∧ (∀ p ∈ P, rp ≤ rk p) ∧ NX e rn j (P ++ H, d, false, Dm) ∧ GD D (push P Dm) ∧ H.length + (push P Dm).length ≤ j
def SP (e : Ev) (r t m : Nat) (F : Mem → Res) : Prop := ∀ (H : LI) (d : Nat) (D : LI) (i : Nat) (σ : Mem), RS e σ i (opn H) D → top H < t → m ≤ opn H → opn H ≤ 5 → H.length + D.length ≤ i → i ≤ e.2.2 → ∃ σ', F σ = some (0, σ') ∧ Fm σ σ' ∧ (Pb e (mrun e i (H, d, true, D)) σ' ∨ Pg e r r i (mrun e i (H, d, true, D)) H D σ')
def SO (e : Ev) (m : Nat) (rc : Int32 → Mem → Res) : Prop := ∀ (a : Int32) (H : LI) (d : Nat) (D : LI) (i : Nat) (σ : Mem), (a = 33 ∨ a = 40) → i < e.2.2 → e.2.1 i = a → RS e σ i (opn H) D → m ≤ opn H → opn H ≤ 5 → H.length + D.length ≤ i → ∃ σ', rc a σ = some (0, σ') ∧ Fm σ σ' ∧ (Pb e (mrun e i (H, d, true, D)) σ' ∨ Pg e 6 6 i (mrun e i (H, d, true, D)) H D σ')
theorem Pb.lay {e : Ev} {y : Nat × XS} {σ : Mem} (h : Pb e y σ) (a w : Int32) : ∃ σ', f_X8_lays_53 a w σ = some (0, σ') ∧ Fm σ σ' ∧ Pb e y σ' := by
  obtain ⟨h0, h1, h2, h3, ⟨l, hl, h4⟩, h5⟩ := h
  by_cases q : l < 60
  · have fm : Fm σ (mset (mset (mset σ 60 l a) 61 l w) 53 11 (nI (l + 1))) := (((Fm.rf σ).set (by omega)).set (by omega)).set (by omega)
    refine ⟨_, m_lays1 h4 q a w, fm, h0.fm fm, h1, ?_, ?_, ⟨l + 1, by omega, mset_at⟩, h5⟩
    · rw [mset_eq, upd_no (by decide), mset_ne (by decide), mset_ne (by decide)]; exact h2
    · rw [mset_eq, upd_no (by decide), mset_ne (by decide), mset_ne (by decide)]; exact h3
  · exact ⟨σ, m_lays2 h4 (by omega) hl a w, Fm.rf σ, h0, h1, h2, h3, ⟨l, hl, h4⟩, h5⟩
theorem Pb.op {e : Ev} {y : Nat × XS} {σ : Mem} (h : Pb e y σ) (v : Int32) : Pb e y (mset σ 53 13 v) := by
  obtain ⟨h0, h1, h2, h3, ⟨l, hl, h4⟩, h5⟩ := h
  refine ⟨h0.fm ((Fm.rf σ).set (by omega)), h1, ?_, ?_, ⟨l, hl, ?_⟩, h5⟩
  · rw [mset_eq, upd_no (by decide)]; exact h2
  · rw [mset_eq, upd_no (by decide)]; exact h3
  · rw [mset_eq, upd_no (by decide)]; exact h4
theorem xcon_no {u : Int32} {H : LI} {d : Nat} {D : LI} (hd : 48 ≤ u ∧ u ≤ 57 → d < 1 ∨ 4 ≤ d) (h41 : ¬ u = 41) (h : rk u = 0 ∨ rk u = 6) : xcon u H d D = none := by
  unfold xcon
  by_cases n : 48 ≤ u ∧ u ≤ 57
  · rw [if_pos n, if_pos (hd n)]
  · rw [if_neg n, if_neg h41, if_pos h]
theorem NX6 {e : Ev} {j : Nat} {H : LI} {d : Nat} {D : LI} (hd : j < e.2.2 → 48 ≤ e.2.1 j ∧ e.2.1 j ≤ 57 → d < 1 ∨ 4 ≤ d) : NX e 6 j (H, d, false, D) := by
  intro hj
  by_cases h41 : e.2.1 j = 41
  · exact Or.inr (Or.inl h41)
  have h6 := rk_le (e.2.1 j)
  by_cases h : rk (e.2.1 j) = 0 ∨ rk (e.2.1 j) = 6
  · exact Or.inl (xcon_no (hd hj) h41 h)
  · exact Or.inr (Or.inr ⟨by omega, by omega⟩)
