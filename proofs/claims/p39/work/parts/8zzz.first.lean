/-! the first world is related; a call of the law's on both sides -/
theorem row0 {a : Nat} (h : ¬ a = 0) (h1 : ¬ a = 1) (h6 : ¬ a = 6) : s0_row a = 0 := by
  unfold s0_row
  rw [upd_no h6, upd_no h1, upd_no h]
theorem rel_0 : Rel 0 σ0 := by
  have b0 : ∀ n, bn 0 n := fun n => ⟨0, Nat.zero_le n, rfl⟩
  refine ⟨⟨⟨b0 6, b0 5⟩, fun i _ => ⟨b0 6, b0 9, b0 9, b0 9999⟩, fun i _ => ⟨b0 99, b0 60, b0 20, b0 9999, b0 9999⟩, ⟨⟨100, by omega, rfl⟩, ⟨130, by omega, rfl⟩, b0 9, b0 2, b0 9999, ⟨by decide, by decide⟩⟩, ⟨b0 60, b0 24⟩, fun i _ => rfl, Or.inl rfl, Or.inl rfl⟩, ?_, ⟨0, Nat.le_refl _, rfl, rfl, Or.inl rfl⟩, rfl, fun s _ => ⟨rfl, rfl, b0 24, Or.inl rfl, fun i _ => ⟨fun q => absurd (show (0 : Int32) = 8 from q) (by decide), fun q => absurd (show (0 : Int32) = 16 from q) (by decide), fun _ _ => rfl⟩⟩, ⟨rfl, b0 30, fun i _ => rfl⟩⟩
  show RM s0_row σ0
  refine ⟨⟨rfl, rfl, rfl, rfl, rfl, rfl, rfl⟩, ⟨rfl, rfl, rfl, rfl⟩, fun i _ => ⟨row0 (by omega) (by omega) (by omega), row0 (by omega) (by omega) (by omega), row0 (by omega) (by omega) (by omega), row0 (by omega) (by omega) (by omega)⟩, fun i _ => ⟨row0 (by omega) (by omega) (by omega), row0 (by omega) (by omega) (by omega), row0 (by omega) (by omega) (by omega), row0 (by omega) (by omega) (by omega), row0 (by omega) (by omega) (by omega)⟩, fun i _ => ?_, fun i _ => row0 (by omega) (by omega) (by omega), Or.inl ⟨rfl, rfl⟩, Or.inl ⟨rfl, rfl⟩⟩
  rw [row0 (by omega) (by omega) (by omega)]
  show (0 : Int32) = 0 &&& 255
  decide
def Go (c i : Nat) (r : Res) (bk : Int32 → Mem → Res) : Prop := ∃ σ2, r = bk (nI (i + 6)) σ2 ∧ Rel (c + 1) σ2
theorem go_free {c i : Nat} {F G : Mem → Res} {σ : Mem} (h : Call c F G σ) {bk : Int32 → Mem → Res} : Go c i (bd (F σ) fun _ μ => bd (G μ) fun _ μ' => bk (nI (i + 6)) μ') bk := by
  obtain ⟨r, σ1, e1, _, σ2, e2, w⟩ := h
  exact ⟨σ2, by rw [e1, bd_mk, e2, bd_mk], w⟩
theorem go_freeV {c i : Nat} {F G : Mem → Res} {σ : Mem} (h : CallV c F G σ) {bk : Int32 → Mem → Res} : Go c i (bd (F σ) fun _ μ => bd (G μ) fun _ μ' => bk (nI (i + 6)) μ') bk := by
  obtain ⟨r, σ1, e1, _, q, σ2, e2, w⟩ := h
  exact ⟨σ2, by rw [e1, bd_mk, e2, bd_mk], w⟩
theorem go_cmp {c i : Nat} {F G : Mem → Res} {σ : Mem} (h : Call c F G σ) {bk : Int32 → Mem → Res} : Go c i (bd (F σ) fun v μ => bd (G μ) fun v' μ' => if v = v' then bk (nI (i + 6)) μ' else some (0, μ')) bk := by
  obtain ⟨r, σ1, e1, _, σ2, e2, w⟩ := h
  exact ⟨σ2, by rw [e1, bd_mk, e2, bd_mk, if_pos rfl], w⟩
theorem rd {i L : Nat} (hi : i + 6 ≤ L) (hL : L ≤ 3072) (k : Nat) (hk : k < 6) (x : Res) : gi (nI (i + k)) L x = x := gin (by omega)
theorem rc {i L : Nat} (hi : i + 6 ≤ L) (hL : L ≤ 3072) (k : Nat) (hk : k < 6) : (nI (i + k)).toNatClampNeg = i + k := cln (by omega)
theorem rd0 {i L : Nat} (hi : i + 6 ≤ L) (hL : L ≤ 3072) (x : Res) : gi (nI i) L x = x := gin (by omega)
theorem i_a5 (i : Nat) : nI i + 5 = nI (i + 5) := nI_add i 5
theorem i_a6 (i : Nat) : nI i + 6 = nI (i + 6) := nI_add i 6
theorem len6 {L i : Nat} (hL : L ≤ 3072) (hi : i ≤ L) : (Int32.ofNat L - 6 < nI i) = (L < i + 6) := by
  apply propext
  rcases Nat.lt_or_ge L 6 with h | h
  · refine ⟨fun _ => by omega, fun _ => Int32.lt_of_lt_of_le ?_ (nI_pos' (by omega))⟩
    have : L = 0 ∨ L = 1 ∨ L = 2 ∨ L = 3 ∨ L = 4 ∨ L = 5 := by omega
    rcases this with q | q | q | q | q | q <;> subst q <;> decide
  · rw [show Int32.ofNat L - 6 = nI (L - 6) from nI_sub (a := L) (b := 6) h]
    exact (nI_ltI (by omega) (by omega)).trans (by omega)
