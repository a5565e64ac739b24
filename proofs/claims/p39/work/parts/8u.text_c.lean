/-! all bytes, one behind the other -/
def JJ (i : Nat) (st : XS) : Prop := HI st.1 ∧ st.2.1 ≤ 4 ∧ st.1.length + st.2.2.2.length ≤ i
theorem JJ.beg {use u : Int32} {i : Nat} {H : LI} {d : Nat} {D : LI} {st : XS} (h : HI H ∧ d ≤ 4 ∧ H.length + D.length ≤ i) (e : xbeg use u H d D = some st) : JJ (i + 1) st := by
  obtain ⟨h1, h2, h3⟩ := h
  unfold xbeg at e
  by_cases q : u = 33 ∨ u = 40
  · rw [if_pos q] at e
    by_cases o : opn H < 5
    · rw [if_pos o] at e
      cases e
      refine ⟨⟨?_, h1⟩, h2, by show H.length + 1 + D.length ≤ i + 1; omega⟩
      rcases q with q | q
      · right; rw [q]; decide
      · left; exact q
    · rw [if_neg o] at e; cases e
  · rw [if_neg q] at e
    by_cases n : 48 ≤ u ∧ u ≤ 57
    · rw [if_pos n] at e
      cases e
      exact ⟨h1, by show 1 ≤ 4; omega, by show H.length + (D.length + 1) ≤ i + 1; omega⟩
    · rw [if_neg n] at e
      by_cases a : nameI use u < 0
      · rw [if_pos a] at e; cases e
      · rw [if_neg a] at e
        cases e
        exact ⟨h1, by show 0 ≤ 4; omega, by show H.length + (D.length + 1) ≤ i + 1; omega⟩
theorem JJ.con {u : Int32} {i : Nat} {H : LI} {d : Nat} {D : LI} {st : XS} (h : HI H ∧ d ≤ 4 ∧ H.length + D.length ≤ i) (e : xcon u H d D = some st) : JJ (i + 1) st := by
  obtain ⟨h1, h2, h3⟩ := h
  unfold xcon at e
  by_cases n : 48 ≤ u ∧ u ≤ 57
  · rw [if_pos n] at e
    by_cases q : d < 1 ∨ 4 ≤ d
    · rw [if_pos q] at e; cases e
    · rw [if_neg q] at e
      match D, e, h3 with
      | [], e, _ => cases e
      | x :: D, e, h3 =>
        have h3 : H.length + (D.length + 1) ≤ i := h3
        cases e
        exact ⟨h1, by show d + 1 ≤ 4; omega, by show H.length + (D.length + 1) ≤ i + 1; omega⟩
  rw [if_neg n] at e
  by_cases h41 : u = 41
  · rw [if_pos h41] at e
    have a := settle_HI (r := 1) (D := D) h1
    have b := settle_len (r := 1) (H := H) (D := D)
    generalize (settle 1 H D).1 = H1 at a b e
    generalize (settle 1 H D).2 = D1 at b e
    match H1, a, b, e with
    | [], _, _, e => cases e
    | s :: H1, a, b, e =>
      have b : H1.length + 1 + D1.length = H.length + D.length := b
      cases e
      exact ⟨a.2, by show 0 ≤ 4; omega, by show H1.length + D1.length ≤ i + 1; omega⟩
  rw [if_neg h41] at e
  by_cases r0 : rk u = 0 ∨ rk u = 6
  · rw [if_pos r0] at e; cases e
  rw [if_neg r0] at e
  by_cases r3 : rk u = 3 ∧ top (settle 4 H D).1 = 3
  · rw [if_pos r3] at e; cases e
  rw [if_neg r3] at e
  have a := settle_HI (r := if rk u = 3 then 4 else rk u) (D := D) h1
  have b := settle_len (r := if rk u = 3 then 4 else rk u) (H := H) (D := D)
  cases e
  exact ⟨⟨Or.inr (by omega), a⟩, by show 0 ≤ 4; omega, by show (settle (if rk u = 3 then 4 else rk u) H D).1.length + 1 + (settle (if rk u = 3 then 4 else rk u) H D).2.length ≤ i + 1; omega⟩
def xfin (n : Nat) (r : Nat × XS) : Option LI := if r.1 < n then none else if r.2.2.2.1 = true ∨ 0 < grp r.2.1 then none else some (settle 1 r.2.1 r.2.2.2.2).2
def xans (n : Nat) (r : Nat × XS) : Int32 := match xfin n r with
  | none => nI r.1
  | some _ => -1
theorem xans_no {n : Nat} {r : Nat × XS} (h : xfin n r = none) : xans n r = nI r.1 := by unfold xans; rw [h]
theorem xans_so {n : Nat} {r : Nat × XS} {D : LI} (h : xfin n r = some D) : xans n r = -1 := by unfold xans; rw [h]
def XL (n : Nat) (y : Nat × XS) (r : Res) (σ : Mem) : Prop := ∃ σ', r = some (xans n y, σ') ∧ Fr σ σ' ∧ ∀ D, xfin n y = some D → σ' 42 2 = nI D.length ∧ LSt (σ' 43) D
theorem XL.no {n : Nat} {y : Nat × XS} {r : Res} {σ σ' : Mem} (h : xfin n y = none) (e : r = some (nI y.1, σ')) (f : Fr σ σ') : XL n y r σ := ⟨σ', by rw [xans_no h]; exact e, f, fun D q => by rw [h] at q; cases q⟩
theorem x_loop {use : Int32} (hu : use = 0 ∨ use = 1) {n : Nat} (hn : n ≤ 60) (c : Nat → Int32) : ∀ (k fu i : Nat) (H : LI) (d : Nat) (w : Bool) (D : LI) (σ : Mem), i + k = n → k < fu → CS σ H d w D → JJ i (H, d, w, D) → (∀ j, j < n → σ 19 j = c j) → XL n (xr use c k i (H, d, w, D)) (f_X1_faultOf_41_19_L44 fu (nI n) use (nI i) σ) σ := by
  intro k
  induction k with
  | zero =>
    intro fu i H d w D σ hik hf hc hj ht
    obtain ⟨f, rfl⟩ : ∃ f, fu = f + 1 := ⟨fu - 1, by omega⟩
    have hik : i = n := hik
    subst hik
    show XL i (i, H, d, w, D) (fb_X1_faultOf_41_19_L44 (f_X1_faultOf_41_19_L44 f) (nI i) use (nI i) σ) σ
    obtain ⟨h1, h2, h3⟩ := hj
    have h3 : H.length + D.length ≤ i := h3
    have hg := grp_le H
    have ho := opn_le H
    rw [fb_X1_faultOf_41_19_L44, if_pos (Int32.le_refl _), f_X1_faultOf_41_19_L102, nm_mk, hc.2.2.2.2.2.1]
    cases w with
    | true =>
      rw [if_pos rfl, if_neg (by decide)]
      exact XL.no (by unfold xfin; rw [if_neg (Nat.lt_irrefl _), if_pos (Or.inl rfl)]) rfl (Fr.rf σ)
    | false =>
      rw [if_neg (show ¬ false = true by decide), if_pos rfl, nm_mk, hc.2.2.2.1]
      by_cases g : 0 < grp H
      · rw [if_neg (nI_nle g (by omega))]
        exact XL.no (by unfold xfin; rw [if_neg (Nat.lt_irrefl _), if_pos (Or.inr g)]) rfl (Fr.rf σ)
      · have g0 : grp H = 0 := by omega
        obtain ⟨σ1, e1, c1, fr1⟩ := x_settle (r := 1) (by omega) (by omega) 1000 H D d false σ hc (by omega) (by omega)
        have ef : xfin i (i, H, d, false, D) = some (settle 1 H D).2 := by
          unfold xfin
          rw [if_neg (Nat.lt_irrefl _), if_neg (fun q => q.elim (by intro h; cases h) g)]
        rw [g0, if_pos (show nI 0 ≤ 0 from Int32.le_refl _), show f_X1_settle_41 1 σ = some (0, σ1) from e1, bd_mk]
        refine ⟨σ1, by rw [xans_so ef], fr1, fun D' q => ?_⟩
        rw [ef] at q
        cases q
        exact c1.2.2.2.2.2.2
  | succ k ih =>
    intro fu i H d w D σ hik hf hc hj ht
    obtain ⟨f, rfl⟩ : ∃ f, fu = f + 1 := ⟨fu - 1, by omega⟩
    show XL n (match xstep use (c i) (H, d, w, D) with | none => (i, (H, d, w, D)) | some st' => xr use c k (i + 1) st') (fb_X1_faultOf_41_19_L44 (f_X1_faultOf_41_19_L44 f) (nI n) use (nI i) σ) σ
    have h3 : H.length + D.length ≤ i := hj.2.2
    have xf : xfin n (i, H, d, w, D) = none := by unfold xfin; rw [if_pos (show i < n by omega)]
    rw [fb_X1_faultOf_41_19_L44, if_neg (nI_ge (by omega) (by omega)), if_neg (show ¬ (60 : Int32) ≤ nI i from nI_ge (b := 60) (by omega) (by omega)), gin (by omega), nm_mk, cln (by omega), ht i (by omega), nm_mk, hc.2.2.2.2.2.1]
    have key : ∀ (r : Res) (K : Int32 → Mem → Res), Xo (xstep use (c i) (H, d, w, D)) r σ → (∀ μ, K 0 μ = some (nI i, μ)) → (∀ μ, K 1 μ = f_X1_faultOf_41_19_L44 f (nI n) use (nI i + 1) μ) → (∀ st, xstep use (c i) (H, d, w, D) = some st → JJ (i + 1) st) → XL n (match xstep use (c i) (H, d, w, D) with | none => (i, (H, d, w, D)) | some st' => xr use c k (i + 1) st') (bd r K) σ := by
      intro r K hx k0 k1 hJ
      cases e : xstep use (c i) (H, d, w, D) with
      | none =>
        rw [e] at hx
        obtain ⟨σ1, e1, fr1⟩ := hx
        exact XL.no xf (by rw [e1, bd_mk, k0]) fr1
      | some st =>
        rw [e] at hx
        have hJ := hJ st e
        obtain ⟨H1, d1, w1, D1⟩ := st
        obtain ⟨σ1, e1, c1, fr1⟩ := hx
        obtain ⟨σ2, e2, fr2, hD⟩ := ih f (i + 1) H1 d1 w1 D1 σ1 (by omega) (by omega) c1 hJ (fun j hj => by rw [fr1.1 19 (by decide) (by decide) (by decide) (by decide)]; exact ht j hj)
        exact ⟨σ2, by rw [e1, bd_mk, k1, nI_1]; exact e2, fr1.tr fr2, hD⟩
    cases w with
    | true =>
      rw [if_pos rfl, if_neg (by decide)]
      have hx := x_begins (u := c i) hu hc (by omega) (by omega)
      exact key _ _ hx (fun μ => rfl) (fun μ => rfl) (fun st e => JJ.beg hj e)
    | false =>
      rw [if_neg (show ¬ false = true by decide), if_pos rfl]
      have hx := x_continues (u := c i) hc hj.1 hj.2.1 (by omega)
      exact key _ _ hx (fun μ => rfl) (fun μ => rfl) (fun st e => JJ.con hj e)
theorem x_fault {use : Int32} (hu : use = 0 ∨ use = 1) {n : Nat} (hn : n ≤ 60) (σ : Mem) : ∃ σ', f_X1_faultOf_41_19 (nI n) use σ = some (xans n (xr use (σ 19) n 0 ([], 0, true, [])), σ') ∧ (∀ k, ¬ k = 41 → ¬ k = 42 → ¬ k = 43 → ¬ k = 45 → σ' k = σ k) ∧ σ' 42 3 = 1 ∧ ∀ D, xfin n (xr use (σ 19) n 0 ([], 0, true, [])) = some D → σ' 42 2 = nI D.length ∧ LSt (σ' 43) D := by
  rw [f_X1_faultOf_41_19, nm_mk, gb_1, nm_mk, nm_mk, nm_mk, nm_mk, nm_mk, gb_1, nm_mk]
  have cs : CS (mset (mset (mset (mset (mset (mset (mset σ 42 2 0) 42 3 1) 41 2 0) 41 3 0) 41 4 0) 41 5 0) 41 6 1) [] 0 true [] := by
    refine ⟨?_, trivial, ?_, ?_, ?_, mset_at, ?_, trivial⟩
    · rw [mset_eq, upd_no (by decide), mset_eq, upd_no (by decide), mset_eq, upd_no (by decide), mset_eq, upd_no (by decide), mset_at]; rfl
    · rw [mset_eq, upd_no (by decide), mset_eq, upd_no (by decide), mset_eq, upd_no (by decide), mset_at]; rfl
    · rw [mset_eq, upd_no (by decide), mset_eq, upd_no (by decide), mset_at]; rfl
    · rw [mset_eq, upd_no (by decide), mset_at]; rfl
    · rw [mset_ne (by decide), mset_ne (by decide), mset_ne (by decide), mset_ne (by decide), mset_ne (by decide), mset_eq, upd_no (by decide), mset_at]; rfl
  have k : ∀ q, ¬ q = 41 → ¬ q = 42 → mset (mset (mset (mset (mset (mset (mset σ 42 2 0) 42 3 1) 41 2 0) 41 3 0) 41 4 0) 41 5 0) 41 6 1 q = σ q := fun q h1 h2 => by rw [mset_ne h1, mset_ne h1, mset_ne h1, mset_ne h1, mset_ne h1, mset_ne h2, mset_ne h2]
  obtain ⟨σ', e, fr, hD⟩ := x_loop hu hn (σ 19) n 1000 0 [] 0 true [] _ (by omega) (by omega) cs ⟨trivial, by show 0 ≤ 4; omega, Nat.le_refl _⟩ (fun j _ => by rw [k 19 (by decide) (by decide)])
  refine ⟨σ', e, fun q h1 h2 h3 h4 => ?_, ?_, hD⟩
  · rw [fr.1 q h1 h2 h3 h4]; exact k q h1 h2
  · rw [fr.2, mset_ne (by decide), mset_ne (by decide), mset_ne (by decide), mset_ne (by decide), mset_ne (by decide), mset_at]
