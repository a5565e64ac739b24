/-! TEXTS read: the class's reader as a machine on lists (the signs that wait and the steps, the latest first) -/
abbrev LI : Type := List Int32
abbrev XS : Type := LI × Nat × Bool × LI
def rk (a : Int32) : Nat := if a = 33 then 6 else if a = 37 then 5 else if a = 38 then 2 else if a = 42 then 5 else if a = 43 then 4 else if a = 45 then 4 else if a = 47 then 5 else if a = 60 then 3 else if a = 61 then 3 else if a = 62 then 3 else if a = 124 then 1 else 0
theorem x_rank (a : Int32) (σ : Mem) : f_X1_rankOf a σ = some (nI (rk a), σ) := by
  unfold f_X1_rankOf rk
  by_cases h0 : a = 33
  · rw [if_pos h0, if_pos h0]; rfl
  rw [if_neg h0, if_neg h0]
  by_cases h1 : a = 37
  · rw [if_pos h1, if_pos h1]; rfl
  rw [if_neg h1, if_neg h1]
  by_cases h2 : a = 38
  · rw [if_pos h2, if_pos h2]; rfl
  rw [if_neg h2, if_neg h2]
  by_cases h3 : a = 42
  · rw [if_pos h3, if_pos h3]; rfl
  rw [if_neg h3, if_neg h3]
  by_cases h4 : a = 43
  · rw [if_pos h4, if_pos h4]; rfl
  rw [if_neg h4, if_neg h4]
  by_cases h5 : a = 45
  · rw [if_pos h5, if_pos h5]; rfl
  rw [if_neg h5, if_neg h5]
  by_cases h6 : a = 47
  · rw [if_pos h6, if_pos h6]; rfl
  rw [if_neg h6, if_neg h6]
  by_cases h7 : a = 60
  · rw [if_pos h7, if_pos h7]; rfl
  rw [if_neg h7, if_neg h7]
  by_cases h8 : a = 61
  · rw [if_pos h8, if_pos h8]; rfl
  rw [if_neg h8, if_neg h8]
  by_cases h9 : a = 62
  · rw [if_pos h9, if_pos h9]; rfl
  rw [if_neg h9, if_neg h9]
  by_cases h10 : a = 124
  · rw [if_pos h10, if_pos h10]; rfl
  rw [if_neg h10, if_neg h10]
  rfl
theorem rk_le (a : Int32) : rk a ≤ 6 := by
  unfold rk
  by_cases h0 : a = 33
  · rw [if_pos h0]; omega
  rw [if_neg h0]
  by_cases h1 : a = 37
  · rw [if_pos h1]; omega
  rw [if_neg h1]
  by_cases h2 : a = 38
  · rw [if_pos h2]; omega
  rw [if_neg h2]
  by_cases h3 : a = 42
  · rw [if_pos h3]; omega
  rw [if_neg h3]
  by_cases h4 : a = 43
  · rw [if_pos h4]; omega
  rw [if_neg h4]
  by_cases h5 : a = 45
  · rw [if_pos h5]; omega
  rw [if_neg h5]
  by_cases h6 : a = 47
  · rw [if_pos h6]; omega
  rw [if_neg h6]
  by_cases h7 : a = 60
  · rw [if_pos h7]; omega
  rw [if_neg h7]
  by_cases h8 : a = 61
  · rw [if_pos h8]; omega
  rw [if_neg h8]
  by_cases h9 : a = 62
  · rw [if_pos h9]; omega
  rw [if_neg h9]
  by_cases h10 : a = 124
  · rw [if_pos h10]; omega
  rw [if_neg h10]
  omega
theorem rk_in {a : Int32} (h : 1 ≤ rk a) : a = 33 ∨ a = 37 ∨ a = 38 ∨ a = 42 ∨ a = 43 ∨ a = 45 ∨ a = 47 ∨ a = 60 ∨ a = 61 ∨ a = 62 ∨ a = 124 := by
  unfold rk at h
  by_cases h0 : a = 33
  · exact Or.inl h0
  rw [if_neg h0] at h
  by_cases h1 : a = 37
  · exact Or.inr (Or.inl h1)
  rw [if_neg h1] at h
  by_cases h2 : a = 38
  · exact Or.inr (Or.inr (Or.inl h2))
  rw [if_neg h2] at h
  by_cases h3 : a = 42
  · exact Or.inr (Or.inr (Or.inr (Or.inl h3)))
  rw [if_neg h3] at h
  by_cases h4 : a = 43
  · exact Or.inr (Or.inr (Or.inr (Or.inr (Or.inl h4))))
  rw [if_neg h4] at h
  by_cases h5 : a = 45
  · exact Or.inr (Or.inr (Or.inr (Or.inr (Or.inr (Or.inl h5)))))
  rw [if_neg h5] at h
  by_cases h6 : a = 47
  · exact Or.inr (Or.inr (Or.inr (Or.inr (Or.inr (Or.inr (Or.inl h6))))))
  rw [if_neg h6] at h
  by_cases h7 : a = 60
  · exact Or.inr (Or.inr (Or.inr (Or.inr (Or.inr (Or.inr (Or.inr (Or.inl h7)))))))
  rw [if_neg h7] at h
  by_cases h8 : a = 61
  · exact Or.inr (Or.inr (Or.inr (Or.inr (Or.inr (Or.inr (Or.inr (Or.inr (Or.inl h8))))))))
  rw [if_neg h8] at h
  by_cases h9 : a = 62
  · exact Or.inr (Or.inr (Or.inr (Or.inr (Or.inr (Or.inr (Or.inr (Or.inr (Or.inr (Or.inl h9)))))))))
  rw [if_neg h9] at h
  by_cases h10 : a = 124
  · exact Or.inr (Or.inr (Or.inr (Or.inr (Or.inr (Or.inr (Or.inr (Or.inr (Or.inr (Or.inr (h10))))))))))
  rw [if_neg h10] at h
  omega
/-- a sign between two values -/
theorem rk_sg {a : Int32} (h : 1 ≤ rk a) (h6 : ¬ rk a = 6) : isSg a ∧ ¬ a = 33 ∧ ¬ a = 40 ∧ ¬ a = 41 ∧ ¬ (48 ≤ a ∧ a ≤ 57) ∧ -a < -3 ∧ ¬ -a = -33 ∧ ¬ a = -1 := by
  rcases rk_in h with e | e | e | e | e | e | e | e | e | e | e
  · exact absurd (by rw [e]; rfl) h6
  · subst e; exact ⟨by unfold isSg; decide, by decide, by decide, by decide, by decide, by decide, by decide, by decide⟩
  · subst e; exact ⟨by unfold isSg; decide, by decide, by decide, by decide, by decide, by decide, by decide, by decide⟩
  · subst e; exact ⟨by unfold isSg; decide, by decide, by decide, by decide, by decide, by decide, by decide, by decide⟩
  · subst e; exact ⟨by unfold isSg; decide, by decide, by decide, by decide, by decide, by decide, by decide, by decide⟩
  · subst e; exact ⟨by unfold isSg; decide, by decide, by decide, by decide, by decide, by decide, by decide, by decide⟩
  · subst e; exact ⟨by unfold isSg; decide, by decide, by decide, by decide, by decide, by decide, by decide, by decide⟩
  · subst e; exact ⟨by unfold isSg; decide, by decide, by decide, by decide, by decide, by decide, by decide, by decide⟩
  · subst e; exact ⟨by unfold isSg; decide, by decide, by decide, by decide, by decide, by decide, by decide, by decide⟩
  · subst e; exact ⟨by unfold isSg; decide, by decide, by decide, by decide, by decide, by decide, by decide, by decide⟩
  · subst e; exact ⟨by unfold isSg; decide, by decide, by decide, by decide, by decide, by decide, by decide, by decide⟩
theorem rk_no {a : Int32} (h : a = 40 ∨ a = 41 ∨ (48 ≤ a ∧ a ≤ 57)) : rk a = 0 := by
  rcases Nat.eq_zero_or_pos (rk a) with q | q
  · exact q
  · exfalso
    by_cases h6 : rk a = 6
    · rcases rk_in q with e | e | e | e | e | e | e | e | e | e | e <;> subst e <;> revert h <;> decide
    · obtain ⟨_, _, h1, h2, h3, _⟩ := rk_sg q h6
      rcases h with h | h | h
      · exact h1 h
      · exact h2 h
      · exact h3 h
def settle (r : Nat) : LI → LI → LI × LI
  | [], D => ([], D)
  | s :: H, D => if rk s < r then (s :: H, D) else settle r H (-s :: D)
def opn : LI → Nat
  | [] => 0
  | s :: H => if s = 33 ∨ s = 40 then opn H + 1 else opn H
def grp : LI → Nat
  | [] => 0
  | s :: H => if s = 40 then grp H + 1 else grp H
def top : LI → Nat
  | [] => 0
  | s :: _ => rk s
def nameI (use u : Int32) : Int32 := if u = 97 then (if use = 0 then 0 else -1) else if u = 109 then (if use = 1 then 1 else -1) else if u = 111 then 2 else if u = 115 then (if use = 1 then 0 else -1) else if u = 119 then (if use = 0 then 1 else -1) else -1
def xbeg (use u : Int32) (H : LI) (d : Nat) (D : LI) : Option XS := if u = 33 ∨ u = 40 then (if opn H < 5 then some (u :: H, d, true, D) else none) else if 48 ≤ u ∧ u ≤ 57 then some (H, 1, false, (u - 48) :: D) else if nameI use u < 0 then none else some (H, 0, false, (-1 - nameI use u) :: D)
def xlen (u : Int32) (H : LI) (d : Nat) : LI → Option XS
  | [] => none
  | x :: D => some (H, d + 1, false, (x * 10 + (u - 48)) :: D)
def xclo (D : LI) : LI → Option XS
  | [] => none
  | _ :: H => some (H, 0, false, D)
def xcon (u : Int32) (H : LI) (d : Nat) (D : LI) : Option XS := if 48 ≤ u ∧ u ≤ 57 then (if d < 1 ∨ 4 ≤ d then none else xlen u H d D) else if u = 41 then xclo (settle 1 H D).2 (settle 1 H D).1 else if rk u = 0 ∨ rk u = 6 then none else if rk u = 3 ∧ top (settle 4 H D).1 = 3 then none else some (u :: (settle (if rk u = 3 then 4 else rk u) H D).1, 0, true, (settle (if rk u = 3 then 4 else rk u) H D).2)
def xstep (use u : Int32) (st : XS) : Option XS := if st.2.2.1 = true then xbeg use u st.1 st.2.1 st.2.2.2 else xcon u st.1 st.2.1 st.2.2.2
def xr (use : Int32) (c : Nat → Int32) : Nat → Nat → XS → Nat × XS
  | 0, i, st => (i, st)
  | k + 1, i, st => match xstep use (c i) st with
    | none => (i, st)
    | some st' => xr use c k (i + 1) st'
def LSt (f : Nat → Int32) : LI → Prop
  | [] => True
  | s :: D => f D.length = s ∧ LSt f D
theorem LSt.up {f : Nat → Int32} {k : Nat} {v : Int32} : ∀ {D : LI}, D.length ≤ k → LSt f D → LSt (upd f k v) D
  | [], _, _ => trivial
  | s :: D, h, w => by
    have h : D.length + 1 ≤ k := h
    exact ⟨by rw [upd_no (by omega)]; exact w.1, LSt.up (by omega) w.2⟩
theorem LSt.add {f : Nat → Int32} {v : Int32} {D : LI} (w : LSt f D) : LSt (upd f D.length v) (v :: D) := ⟨upd_at _ _ _, w.up (Nat.le_refl _)⟩
/-- the reader's cells -/
def CS (σ : Mem) (H : LI) (d : Nat) (w : Bool) (D : LI) : Prop := σ 41 2 = nI H.length ∧ LSt (σ 45) H ∧ σ 41 3 = nI (opn H) ∧ σ 41 4 = nI (grp H) ∧ σ 41 5 = nI d ∧ σ 41 6 = (if w = true then 1 else 0) ∧ σ 42 2 = nI D.length ∧ LSt (σ 43) D
def Fr (σ σ' : Mem) : Prop := (∀ k, ¬ k = 41 → ¬ k = 42 → ¬ k = 43 → ¬ k = 45 → σ' k = σ k) ∧ σ' 42 3 = σ 42 3
theorem Fr.rf (σ : Mem) : Fr σ σ := ⟨fun _ _ _ _ _ => rfl, rfl⟩
theorem Fr.tr {a b c : Mem} (h : Fr a b) (g : Fr b c) : Fr a c := ⟨fun k h1 h2 h3 h4 => (g.1 k h1 h2 h3 h4).trans (h.1 k h1 h2 h3 h4), g.2.trans h.2⟩
theorem Fr.set {a b : Mem} (h : Fr a b) {k j : Nat} {v : Int32} (hk : k = 41 ∨ (k = 42 ∧ ¬ j = 3) ∨ k = 43 ∨ k = 45) : Fr a (mset b k j v) := by
  refine ⟨fun q h1 h2 h3 h4 => by rw [mset_ne (by omega)]; exact h.1 q h1 h2 h3 h4, ?_⟩
  by_cases e : k = 42
  · subst e
    rw [mset_eq, upd_no (by omega)]; exact h.2
  · rw [mset_ne (by omega)]; exact h.2
theorem CS.len {σ : Mem} {H : LI} {d : Nat} {w : Bool} {D : LI} (h : CS σ H d w D) : σ 41 2 = nI H.length := h.1
theorem opn_le : ∀ H : LI, opn H ≤ H.length
  | [] => Nat.le_refl _
  | s :: H => by
    have := opn_le H
    show (if s = 33 ∨ s = 40 then opn H + 1 else opn H) ≤ H.length + 1
    split <;> omega
theorem grp_le : ∀ H : LI, grp H ≤ opn H
  | [] => Nat.le_refl _
  | s :: H => by
    have := grp_le H
    show (if s = 40 then grp H + 1 else grp H) ≤ (if s = 33 ∨ s = 40 then opn H + 1 else opn H)
    by_cases h : s = 40
    · rw [if_pos h, if_pos (Or.inr h)]; omega
    · rw [if_neg h]; split <;> omega
theorem x_add {σ : Mem} {D : LI} (h : σ 42 2 = nI D.length) (hl : D.length < 60) (v : Int32) : f_X5_add_42 v σ = some (0, mset (mset σ 43 D.length v) 42 2 (nI (D.length + 1))) := by
  rw [f_X5_add_42, nm_mk, h, if_neg (fun q => by have := (nI_leI (a := 60) (by omega) (by omega)).mp q; omega), nm_mk, gin (by omega), nm_mk, cln (by omega), nm_mk, mset_ne (k' := 42) (by decide), h, nm_mk, nI_1, nm_mk]
theorem x_park {σ : Mem} {H : LI} (h : σ 41 2 = nI H.length) (hl : H.length < 60) (v : Int32) : f_X1_park_41 v σ = some (0, mset (mset σ 45 H.length v) 41 2 (nI (H.length + 1))) := by
  rw [f_X1_park_41, nm_mk, h, if_neg (fun q => by have := (nI_leI (a := 60) (by omega) (by omega)).mp q; omega), nm_mk, gin (by omega), nm_mk, cln (by omega), nm_mk, mset_ne (k' := 41) (by decide), h, nm_mk, nI_1, nm_mk]
theorem CS.add {σ : Mem} {H : LI} {d : Nat} {w : Bool} {D : LI} (h : CS σ H d w D) (v : Int32) : CS (mset (mset σ 43 D.length v) 42 2 (nI (D.length + 1))) H d w (v :: D) := by
  obtain ⟨a, b, c, e, f, g, i, j⟩ := h
  have k : ∀ q, ¬ q = 42 → ¬ q = 43 → mset (mset σ 43 D.length v) 42 2 (nI (D.length + 1)) q = σ q := fun q h1 h2 => by rw [mset_ne h1, mset_ne h2]
  refine ⟨?_, ?_, ?_, ?_, ?_, ?_, mset_at, ?_⟩
  · rw [k 41 (by decide) (by decide)]; exact a
  · rw [k 45 (by decide) (by decide)]; exact b
  · rw [k 41 (by decide) (by decide)]; exact c
  · rw [k 41 (by decide) (by decide)]; exact e
  · rw [k 41 (by decide) (by decide)]; exact f
  · rw [k 41 (by decide) (by decide)]; exact g
  · rw [mset_ne (by decide), mset_eq]; exact j.add
/-- the signs' side alone -/
theorem CS.sg {σ σ' : Mem} {H H' : LI} {d d' : Nat} {w w' : Bool} {D : LI} (h : CS σ H d w D) (k42 : σ' 42 = σ 42) (k43 : σ' 43 = σ 43) (a : σ' 41 2 = nI H'.length) (b : LSt (σ' 45) H') (c : σ' 41 3 = nI (opn H')) (e : σ' 41 4 = nI (grp H')) (f : σ' 41 5 = nI d') (g : σ' 41 6 = (if w' = true then 1 else 0)) : CS σ' H' d' w' D :=
  ⟨a, b, c, e, f, g, by rw [k42]; exact h.2.2.2.2.2.2.1, by rw [k43]; exact h.2.2.2.2.2.2.2⟩
theorem x_settle {r : Nat} (hr : 1 ≤ r) (hr6 : r ≤ 6) (fu : Nat) : ∀ (H D : LI) (d : Nat) (w : Bool) (σ : Mem), CS σ H d w D → H.length < fu → H.length + D.length ≤ 60 → ∃ σ', f_X1_settle_41_L0 fu (nI r) σ = some (0, σ') ∧ CS σ' (settle r H D).1 d w (settle r H D).2 ∧ Fr σ σ' := by
  induction fu with
  | zero => intro H D d w σ h h1; omega
  | succ fu ih =>
    intro H D d w σ h h1 h2
    show ∃ σ', fb_X1_settle_41_L0 (f_X1_settle_41_L0 fu) (nI r) σ = some (0, σ') ∧ _
    match H, h, h1, h2 with
    | [], h, _, _ =>
      exact ⟨σ, by rw [fb_X1_settle_41_L0, nm_mk, h.1, if_pos (by decide)], h, Fr.rf σ⟩
    | s :: H, h, h1, h2 =>
      have hl : H.length + 1 + D.length ≤ 60 := h2
      have h1 : H.length + 1 < fu + 1 := h1
      obtain ⟨a, ⟨b1, b2⟩, c, e, f, g, i, j⟩ := h
      have a : σ 41 2 = nI (H.length + 1) := a
      have s0 : fb_X1_settle_41_L0 (f_X1_settle_41_L0 fu) (nI r) σ = if nI (rk s) < nI r then some (0, σ) else (nm (mset σ 41 2 (nI H.length)) fun (μ9 : Mem) => nm (μ9 41 2) fun (v10 : Int32) => gi v10 60 <| nm (μ9 45 v10.toNatClampNeg) fun (v11 : Int32) => nm (-v11) fun (v12 : Int32) => bd (f_X5_add_42 v12 μ9) fun v13 μ14 => nm (μ14 41 2) fun (v15 : Int32) => gi v15 60 <| nm (μ14 45 v15.toNatClampNeg) fun (v16 : Int32) => if v16 = 33 then (nm (μ14 41 3) fun (v17 : Int32) => nm (v17 - 1) fun (v18 : Int32) => nm (mset μ14 41 3 v18) fun (μ19 : Mem) => f_X1_settle_41_L0 fu (nI r) μ19) else (f_X1_settle_41_L0 fu (nI r) μ14)) := by
        rw [fb_X1_settle_41_L0, nm_mk, a, if_neg (nI_nle (by omega) (by omega)), nm_mk, nI_pred, nm_mk, gin (by omega), nm_mk, cln (by omega), b1, x_rank, bd_mk, nm_mk, a, nI_pred, nm_mk]
      by_cases hs : rk s < r
      · refine ⟨σ, by rw [s0, if_pos (nI_lt hs (by omega))], ?_, Fr.rf σ⟩
        rw [settle, if_pos hs]
        exact ⟨a, ⟨b1, b2⟩, c, e, f, g, i, j⟩
      · have n40 : ¬ s = 40 := fun q => hs (by rw [q]; exact hr)
        have D1 : D.length < 60 := by omega
        have e42 : mset σ 41 2 (nI H.length) 42 2 = nI D.length := by rw [mset_ne (by decide)]; exact i
        have key : ∀ σ2, (∃ j', σ2 = mset (mset (mset (mset σ 41 2 (nI H.length)) 43 D.length (-s)) 42 2 (nI (D.length + 1))) 41 3 j' ∧ j' = nI (opn H)) → ∃ σ', f_X1_settle_41_L0 fu (nI r) σ2 = some (0, σ') ∧ CS σ' (settle r (s :: H) D).1 d w (settle r (s :: H) D).2 ∧ Fr σ σ' := fun σ2 ⟨j', e2, ej⟩ => by
          have cs2 : CS σ2 H d w (-s :: D) := by
            subst e2 ej
            refine ⟨?_, ?_, mset_at, ?_, ?_, ?_, ?_, ?_⟩
            · rw [mset_eq, upd_no (by decide), mset_ne (by decide), mset_ne (by decide), mset_at]
            · rw [mset_ne (by decide), mset_ne (by decide), mset_ne (by decide), mset_ne (by decide)]; exact b2
            · rw [mset_eq, upd_no (by decide), mset_ne (by decide), mset_ne (by decide), mset_eq, upd_no (by decide), e, grp, if_neg n40]
            · rw [mset_eq, upd_no (by decide), mset_ne (by decide), mset_ne (by decide), mset_eq, upd_no (by decide)]; exact f
            · rw [mset_eq, upd_no (by decide), mset_ne (by decide), mset_ne (by decide), mset_eq, upd_no (by decide)]; exact g
            · rw [mset_ne (by decide), mset_at]; rfl
            · rw [mset_ne (by decide), mset_ne (by decide), mset_eq, mset_ne (by decide)]; exact j.add
          obtain ⟨σ', e3, cs3, fr3⟩ := ih H (-s :: D) d w σ2 cs2 (by omega) (by show H.length + (D.length + 1) ≤ 60; omega)
          refine ⟨σ', e3, by rw [settle, if_neg hs]; exact cs3, Fr.tr ?_ fr3⟩
          rw [e2]
          exact ((((Fr.rf σ).set (by omega)).set (by omega)).set (by omega)).set (by omega)
        have s1 : fb_X1_settle_41_L0 (f_X1_settle_41_L0 fu) (nI r) σ = if s = 33 then f_X1_settle_41_L0 fu (nI r) (mset (mset (mset (mset σ 41 2 (nI H.length)) 43 D.length (-s)) 42 2 (nI (D.length + 1))) 41 3 (σ 41 3 - 1)) else f_X1_settle_41_L0 fu (nI r) (mset (mset (mset σ 41 2 (nI H.length)) 43 D.length (-s)) 42 2 (nI (D.length + 1))) := by
          rw [s0, if_neg (nI_nlt (by omega) (by have := rk_le s; omega)), nm_mk, mset_at, nm_mk, gin (by omega), mset_ne (k' := 45) (by decide), cln (by omega), b1, nm_mk, nm_mk, x_add e42 D1, bd_mk, mset_ne (k' := 41) (by decide), mset_ne (k' := 41) (by decide), mset_at, nm_mk, gin (by omega), mset_ne (k' := 45) (by decide), mset_ne (k' := 45) (by decide), mset_ne (k' := 45) (by decide), cln (by omega), b1, nm_mk, mset_eq (k := 41) (σ := σ), upd_no (by decide)]
          rfl
        by_cases h33 : s = 33
        · have ho : σ 41 3 - 1 = nI (opn H) := by
            rw [c, opn, if_pos (Or.inl h33), nI_pred]
          rw [s1, if_pos h33]
          exact key _ ⟨_, rfl, ho⟩
        · rw [s1, if_neg h33]
          refine key _ ⟨nI (opn H), ?_, rfl⟩
          refine (mset_self ?_).symm
          rw [mset_ne (by decide), mset_ne (by decide), mset_eq, upd_no (by decide), c, opn, if_neg (fun q => q.elim h33 n40)]
