/-! the law call by call, from the first world to its end -/
theorem p_case_0 {c L i : Nat} {xs : Nat → Int32} {σ : Mem} (w : Rel c σ) (hc : c < 100000) (hi : i + 6 ≤ L) (hL : L ≤ 3072) (bk : Int32 → Mem → Res) : Go c i (fc_law_0 bk L xs (nI i) σ) bk := by
  simp only [fc_law_0, nm_mk, nI_1, i_a2, i_a3, i_a4, i_a5, i_a6, rd hi hL 1 (by decide), rd hi hL 2 (by decide), rd hi hL 3 (by decide), rd hi hL 4 (by decide), rd hi hL 5 (by decide), rc hi hL 1 (by decide), rc hi hL 2 (by decide), rc hi hL 3 (by decide), rc hi hL 4 (by decide), rc hi hL 5 (by decide)]
  exact go_free (call_pitch w _ _)
theorem p_case_1 {c L i : Nat} {xs : Nat → Int32} {σ : Mem} (w : Rel c σ) (hc : c < 100000) (hi : i + 6 ≤ L) (hL : L ≤ 3072) (bk : Int32 → Mem → Res) : Go c i (fc_law_1 bk L xs (nI i) σ) bk := by
  simp only [fc_law_1, nm_mk, nI_1, i_a2, i_a3, i_a4, i_a5, i_a6, rd hi hL 1 (by decide), rd hi hL 2 (by decide), rd hi hL 3 (by decide), rd hi hL 4 (by decide), rd hi hL 5 (by decide), rc hi hL 1 (by decide), rc hi hL 2 (by decide), rc hi hL 3 (by decide), rc hi hL 4 (by decide), rc hi hL 5 (by decide)]
  exact go_free (call_pitchIs w _ _)
theorem p_case_2 {c L i : Nat} {xs : Nat → Int32} {σ : Mem} (w : Rel c σ) (hc : c < 100000) (hi : i + 6 ≤ L) (hL : L ≤ 3072) (bk : Int32 → Mem → Res) : Go c i (fc_law_2 bk L xs (nI i) σ) bk := by
  simp only [fc_law_2, nm_mk, nI_1, i_a2, i_a3, i_a4, i_a5, i_a6, rd hi hL 1 (by decide), rd hi hL 2 (by decide), rd hi hL 3 (by decide), rd hi hL 4 (by decide), rd hi hL 5 (by decide), rc hi hL 1 (by decide), rc hi hL 2 (by decide), rc hi hL 3 (by decide), rc hi hL 4 (by decide), rc hi hL 5 (by decide)]
  exact go_free (call_become w _ _)
theorem p_case_3 {c L i : Nat} {xs : Nat → Int32} {σ : Mem} (w : Rel c σ) (hc : c < 100000) (hi : i + 6 ≤ L) (hL : L ≤ 3072) (bk : Int32 → Mem → Res) : Go c i (fc_law_3 bk L xs (nI i) σ) bk := by
  simp only [fc_law_3, nm_mk, nI_1, i_a2, i_a3, i_a4, i_a5, i_a6, rd hi hL 1 (by decide), rd hi hL 2 (by decide), rd hi hL 3 (by decide), rd hi hL 4 (by decide), rd hi hL 5 (by decide), rc hi hL 1 (by decide), rc hi hL 2 (by decide), rc hi hL 3 (by decide), rc hi hL 4 (by decide), rc hi hL 5 (by decide)]
  exact go_free (call_as w _ _)
theorem p_case_4 {c L i : Nat} {xs : Nat → Int32} {σ : Mem} (w : Rel c σ) (hc : c < 100000) (hi : i + 6 ≤ L) (hL : L ≤ 3072) (bk : Int32 → Mem → Res) : Go c i (fc_law_4 bk L xs (nI i) σ) bk := by
  simp only [fc_law_4, nm_mk, nI_1, i_a2, i_a3, i_a4, i_a5, i_a6, rd hi hL 1 (by decide), rd hi hL 2 (by decide), rd hi hL 3 (by decide), rd hi hL 4 (by decide), rd hi hL 5 (by decide), rc hi hL 1 (by decide), rc hi hL 2 (by decide), rc hi hL 3 (by decide), rc hi hL 4 (by decide), rc hi hL 5 (by decide)]
  exact go_free (call_weighs w _ _)
theorem p_case_5 {c L i : Nat} {xs : Nat → Int32} {σ : Mem} (w : Rel c σ) (hc : c < 100000) (hi : i + 6 ≤ L) (hL : L ≤ 3072) (bk : Int32 → Mem → Res) : Go c i (fc_law_5 bk L xs (nI i) σ) bk := by
  simp only [fc_law_5, nm_mk, nI_1, i_a2, i_a3, i_a4, i_a5, i_a6, rd hi hL 1 (by decide), rd hi hL 2 (by decide), rd hi hL 3 (by decide), rd hi hL 4 (by decide), rd hi hL 5 (by decide), rc hi hL 1 (by decide), rc hi hL 2 (by decide), rc hi hL 3 (by decide), rc hi hL 4 (by decide), rc hi hL 5 (by decide)]
  exact go_free (call_runner w _ _)
theorem p_case_6 {c L i : Nat} {xs : Nat → Int32} {σ : Mem} (w : Rel c σ) (hc : c < 100000) (hi : i + 6 ≤ L) (hL : L ≤ 3072) (bk : Int32 → Mem → Res) : Go c i (fc_law_6 bk L xs (nI i) σ) bk := by
  simp only [fc_law_6, nm_mk, nI_1, i_a2, i_a3, i_a4, i_a5, i_a6, rd hi hL 1 (by decide), rd hi hL 2 (by decide), rd hi hL 3 (by decide), rd hi hL 4 (by decide), rd hi hL 5 (by decide), rc hi hL 1 (by decide), rc hi hL 2 (by decide), rc hi hL 3 (by decide), rc hi hL 4 (by decide), rc hi hL 5 (by decide)]
  exact go_free (call_runnerIs w _ _)
theorem p_case_7 {c L i : Nat} {xs : Nat → Int32} {σ : Mem} (w : Rel c σ) (hc : c < 100000) (hi : i + 6 ≤ L) (hL : L ≤ 3072) (bk : Int32 → Mem → Res) : Go c i (fc_law_7 bk L xs (nI i) σ) bk := by
  simp only [fc_law_7, nm_mk, nI_1, i_a2, i_a3, i_a4, i_a5, i_a6, rd hi hL 1 (by decide), rd hi hL 2 (by decide), rd hi hL 3 (by decide), rd hi hL 4 (by decide), rd hi hL 5 (by decide), rc hi hL 1 (by decide), rc hi hL 2 (by decide), rc hi hL 3 (by decide), rc hi hL 4 (by decide), rc hi hL 5 (by decide)]
  exact go_free (call_leads w _ _)
theorem p_case_8 {c L i : Nat} {xs : Nat → Int32} {σ : Mem} (w : Rel c σ) (hc : c < 100000) (hi : i + 6 ≤ L) (hL : L ≤ 3072) (bk : Int32 → Mem → Res) : Go c i (fc_law_8 bk L xs (nI i) σ) bk := by
  simp only [fc_law_8, nm_mk, nI_1, i_a2, i_a3, i_a4, i_a5, i_a6, rd hi hL 1 (by decide), rd hi hL 2 (by decide), rd hi hL 3 (by decide), rd hi hL 4 (by decide), rd hi hL 5 (by decide), rc hi hL 1 (by decide), rc hi hL 2 (by decide), rc hi hL 3 (by decide), rc hi hL 4 (by decide), rc hi hL 5 (by decide)]
  exact go_free (call_set w _ _)
theorem p_case_9 {c L i : Nat} {xs : Nat → Int32} {σ : Mem} (w : Rel c σ) (hc : c < 100000) (hi : i + 6 ≤ L) (hL : L ≤ 3072) (bk : Int32 → Mem → Res) : Go c i (fc_law_9 bk L xs (nI i) σ) bk := by
  simp only [fc_law_9, nm_mk, nI_1, i_a2, i_a3, i_a4, i_a5, i_a6, rd hi hL 1 (by decide), rd hi hL 2 (by decide), rd hi hL 3 (by decide), rd hi hL 4 (by decide), rd hi hL 5 (by decide), rc hi hL 1 (by decide), rc hi hL 2 (by decide), rc hi hL 3 (by decide), rc hi hL 4 (by decide), rc hi hL 5 (by decide)]
  exact go_free (call_steal w _ _)
theorem p_case_10 {c L i : Nat} {xs : Nat → Int32} {σ : Mem} (w : Rel c σ) (hc : c < 100000) (hi : i + 6 ≤ L) (hL : L ≤ 3072) (bk : Int32 → Mem → Res) : Go c i (fc_law_10 bk L xs (nI i) σ) bk := by
  simp only [fc_law_10, nm_mk, nI_1, i_a2, i_a3, i_a4, i_a5, i_a6, rd hi hL 1 (by decide), rd hi hL 2 (by decide), rd hi hL 3 (by decide), rd hi hL 4 (by decide), rd hi hL 5 (by decide), rc hi hL 1 (by decide), rc hi hL 2 (by decide), rc hi hL 3 (by decide), rc hi hL 4 (by decide), rc hi hL 5 (by decide)]
  exact go_free (call_over w _)
theorem p_case_11 {c L i : Nat} {xs : Nat → Int32} {σ : Mem} (w : Rel c σ) (hc : c < 100000) (hi : i + 6 ≤ L) (hL : L ≤ 3072) (bk : Int32 → Mem → Res) : Go c i (fc_law_11 bk L xs (nI i) σ) bk := by
  simp only [fc_law_11, nm_mk, nI_1, i_a2, i_a3, i_a4, i_a5, i_a6, rd hi hL 1 (by decide), rd hi hL 2 (by decide), rd hi hL 3 (by decide), rd hi hL 4 (by decide), rd hi hL 5 (by decide), rc hi hL 1 (by decide), rc hi hL 2 (by decide), rc hi hL 3 (by decide), rc hi hL 4 (by decide), rc hi hL 5 (by decide)]
  exact go_free (call_feed w _ _)
theorem p_case_12 {c L i : Nat} {xs : Nat → Int32} {σ : Mem} (w : Rel c σ) (hc : c < 100000) (hi : i + 6 ≤ L) (hL : L ≤ 3072) (bk : Int32 → Mem → Res) : Go c i (fc_law_12 bk L xs (nI i) σ) bk := by
  simp only [fc_law_12, nm_mk, nI_1, i_a2, i_a3, i_a4, i_a5, i_a6, rd hi hL 1 (by decide), rd hi hL 2 (by decide), rd hi hL 3 (by decide), rd hi hL 4 (by decide), rd hi hL 5 (by decide), rc hi hL 1 (by decide), rc hi hL 2 (by decide), rc hi hL 3 (by decide), rc hi hL 4 (by decide), rc hi hL 5 (by decide)]
  exact go_free (call_text w _)
theorem p_case_13 {c L i : Nat} {xs : Nat → Int32} {σ : Mem} (w : Rel c σ) (hc : c < 100000) (hi : i + 6 ≤ L) (hL : L ≤ 3072) (bk : Int32 → Mem → Res) : Go c i (fc_law_13 bk L xs (nI i) σ) bk := by
  simp only [fc_law_13, nm_mk, nI_1, i_a2, i_a3, i_a4, i_a5, i_a6, rd hi hL 1 (by decide), rd hi hL 2 (by decide), rd hi hL 3 (by decide), rd hi hL 4 (by decide), rd hi hL 5 (by decide), rc hi hL 1 (by decide), rc hi hL 2 (by decide), rc hi hL 3 (by decide), rc hi hL 4 (by decide), rc hi hL 5 (by decide)]
  exact go_free (call_untell w _)
theorem p_case_14 {c L i : Nat} {xs : Nat → Int32} {σ : Mem} (w : Rel c σ) (hc : c < 100000) (hi : i + 6 ≤ L) (hL : L ≤ 3072) (bk : Int32 → Mem → Res) : Go c i (fc_law_14 bk L xs (nI i) σ) bk := by
  simp only [fc_law_14, nm_mk, nI_1, i_a2, i_a3, i_a4, i_a5, i_a6, rd hi hL 1 (by decide), rd hi hL 2 (by decide), rd hi hL 3 (by decide), rd hi hL 4 (by decide), rd hi hL 5 (by decide), rc hi hL 1 (by decide), rc hi hL 2 (by decide), rc hi hL 3 (by decide), rc hi hL 4 (by decide), rc hi hL 5 (by decide)]
  exact go_free (call_law w _ _ _ _)
theorem p_case_15 {c L i : Nat} {xs : Nat → Int32} {σ : Mem} (w : Rel c σ) (hc : c < 100000) (hi : i + 6 ≤ L) (hL : L ≤ 3072) (bk : Int32 → Mem → Res) : Go c i (fc_law_15 bk L xs (nI i) σ) bk := by
  simp only [fc_law_15, nm_mk, nI_1, i_a2, i_a3, i_a4, i_a5, i_a6, rd hi hL 1 (by decide), rd hi hL 2 (by decide), rd hi hL 3 (by decide), rd hi hL 4 (by decide), rd hi hL 5 (by decide), rc hi hL 1 (by decide), rc hi hL 2 (by decide), rc hi hL 3 (by decide), rc hi hL 4 (by decide), rc hi hL 5 (by decide)]
  exact go_free (call_margin w _ _ _)
theorem p_case_16 {c L i : Nat} {xs : Nat → Int32} {σ : Mem} (w : Rel c σ) (hc : c < 100000) (hi : i + 6 ≤ L) (hL : L ≤ 3072) (bk : Int32 → Mem → Res) : Go c i (fc_law_16 bk L xs (nI i) σ) bk := by
  simp only [fc_law_16, nm_mk, nI_1, i_a2, i_a3, i_a4, i_a5, i_a6, rd hi hL 1 (by decide), rd hi hL 2 (by decide), rd hi hL 3 (by decide), rd hi hL 4 (by decide), rd hi hL 5 (by decide), rc hi hL 1 (by decide), rc hi hL 2 (by decide), rc hi hL 3 (by decide), rc hi hL 4 (by decide), rc hi hL 5 (by decide)]
  exact go_free (call_leadFor w _ _)
theorem p_case_17 {c L i : Nat} {xs : Nat → Int32} {σ : Mem} (w : Rel c σ) (hc : c < 100000) (hi : i + 6 ≤ L) (hL : L ≤ 3072) (bk : Int32 → Mem → Res) : Go c i (fc_law_17 bk L xs (nI i) σ) bk := by
  simp only [fc_law_17, nm_mk, nI_1, i_a2, i_a3, i_a4, i_a5, i_a6, rd hi hL 1 (by decide), rd hi hL 2 (by decide), rd hi hL 3 (by decide), rd hi hL 4 (by decide), rd hi hL 5 (by decide), rc hi hL 1 (by decide), rc hi hL 2 (by decide), rc hi hL 3 (by decide), rc hi hL 4 (by decide), rc hi hL 5 (by decide)]
  exact go_free (call_bestLead w _ _)
theorem p_case_18 {c L i : Nat} {xs : Nat → Int32} {σ : Mem} (w : Rel c σ) (hc : c < 100000) (hi : i + 6 ≤ L) (hL : L ≤ 3072) (bk : Int32 → Mem → Res) : Go c i (fc_law_18 bk L xs (nI i) σ) bk := by
  simp only [fc_law_18, nm_mk, nI_1, i_a2, i_a3, i_a4, i_a5, i_a6, rd hi hL 1 (by decide), rd hi hL 2 (by decide), rd hi hL 3 (by decide), rd hi hL 4 (by decide), rd hi hL 5 (by decide), rc hi hL 1 (by decide), rc hi hL 2 (by decide), rc hi hL 3 (by decide), rc hi hL 4 (by decide), rc hi hL 5 (by decide)]
  exact go_free (call_odds w _ _)
theorem p_case_19 {c L i : Nat} {xs : Nat → Int32} {σ : Mem} (w : Rel c σ) (hc : c < 100000) (hi : i + 6 ≤ L) (hL : L ≤ 3072) (bk : Int32 → Mem → Res) : Go c i (fc_law_19 bk L xs (nI i) σ) bk := by
  simp only [fc_law_19, nm_mk, nI_1, i_a2, i_a3, i_a4, i_a5, i_a6, rd hi hL 1 (by decide), rd hi hL 2 (by decide), rd hi hL 3 (by decide), rd hi hL 4 (by decide), rd hi hL 5 (by decide), rc hi hL 1 (by decide), rc hi hL 2 (by decide), rc hi hL 3 (by decide), rc hi hL 4 (by decide), rc hi hL 5 (by decide)]
  exact go_free (call_go w _ _)
theorem p_case_20 {c L i : Nat} {xs : Nat → Int32} {σ : Mem} (w : Rel c σ) (hc : c < 100000) (hi : i + 6 ≤ L) (hL : L ≤ 3072) (bk : Int32 → Mem → Res) : Go c i (fc_law_20 bk L xs (nI i) σ) bk := by
  simp only [fc_law_20, nm_mk, nI_1, i_a2, i_a3, i_a4, i_a5, i_a6, rd hi hL 1 (by decide), rd hi hL 2 (by decide), rd hi hL 3 (by decide), rd hi hL 4 (by decide), rd hi hL 5 (by decide), rc hi hL 1 (by decide), rc hi hL 2 (by decide), rc hi hL 3 (by decide), rc hi hL 4 (by decide), rc hi hL 5 (by decide)]
  exact go_free (call_duel w _ _ _ _)
theorem p_case_21 {c L i : Nat} {xs : Nat → Int32} {σ : Mem} (w : Rel c σ) (hc : c < 100000) (hi : i + 6 ≤ L) (hL : L ≤ 3072) (bk : Int32 → Mem → Res) : Go c i (fc_law_21 bk L xs (nI i) σ) bk := by
  simp only [fc_law_21, nm_mk, nI_1, i_a2, i_a3, i_a4, i_a5, i_a6, rd hi hL 1 (by decide), rd hi hL 2 (by decide), rd hi hL 3 (by decide), rd hi hL 4 (by decide), rd hi hL 5 (by decide), rc hi hL 1 (by decide), rc hi hL 2 (by decide), rc hi hL 3 (by decide), rc hi hL 4 (by decide), rc hi hL 5 (by decide)]
  exact go_free (call_surely w _ _)
theorem p_case_22 {c L i : Nat} {xs : Nat → Int32} {σ : Mem} (w : Rel c σ) (hc : c < 100000) (hi : i + 6 ≤ L) (hL : L ≤ 3072) (bk : Int32 → Mem → Res) : Go c i (fc_law_22 bk L xs (nI i) σ) bk := by
  simp only [fc_law_22, nm_mk, nI_1, i_a2, i_a3, i_a4, i_a5, i_a6, rd hi hL 1 (by decide), rd hi hL 2 (by decide), rd hi hL 3 (by decide), rd hi hL 4 (by decide), rd hi hL 5 (by decide), rc hi hL 1 (by decide), rc hi hL 2 (by decide), rc hi hL 3 (by decide), rc hi hL 4 (by decide), rc hi hL 5 (by decide)]
  exact go_free (call_fits w _ _ _)
theorem p_case_23 {c L i : Nat} {xs : Nat → Int32} {σ : Mem} (w : Rel c σ) (hc : c < 100000) (hi : i + 6 ≤ L) (hL : L ≤ 3072) (bk : Int32 → Mem → Res) : Go c i (fc_law_23 bk L xs (nI i) σ) bk := by
  simp only [fc_law_23, nm_mk, nI_1, i_a2, i_a3, i_a4, i_a5, i_a6, rd hi hL 1 (by decide), rd hi hL 2 (by decide), rd hi hL 3 (by decide), rd hi hL 4 (by decide), rd hi hL 5 (by decide), rc hi hL 1 (by decide), rc hi hL 2 (by decide), rc hi hL 3 (by decide), rc hi hL 4 (by decide), rc hi hL 5 (by decide)]
  exact go_free (call_loose w _)
theorem p_case_24 {c L i : Nat} {xs : Nat → Int32} {σ : Mem} (w : Rel c σ) (hc : c < 100000) (hi : i + 6 ≤ L) (hL : L ≤ 3072) (bk : Int32 → Mem → Res) : Go c i (fc_law_24 bk L xs (nI i) σ) bk := by
  simp only [fc_law_24, nm_mk, nI_1, i_a2, i_a3, i_a4, i_a5, i_a6, rd hi hL 1 (by decide), rd hi hL 2 (by decide), rd hi hL 3 (by decide), rd hi hL 4 (by decide), rd hi hL 5 (by decide), rc hi hL 1 (by decide), rc hi hL 2 (by decide), rc hi hL 3 (by decide), rc hi hL 4 (by decide), rc hi hL 5 (by decide)]
  exact go_free (call_seed w _)
theorem p_case_25 {c L i : Nat} {xs : Nat → Int32} {σ : Mem} (w : Rel c σ) (hc : c < 100000) (hi : i + 6 ≤ L) (hL : L ≤ 3072) (bk : Int32 → Mem → Res) : Go c i (fc_law_25 bk L xs (nI i) σ) bk := by
  simp only [fc_law_25, nm_mk, nI_1, i_a2, i_a3, i_a4, i_a5, i_a6, rd hi hL 1 (by decide), rd hi hL 2 (by decide), rd hi hL 3 (by decide), rd hi hL 4 (by decide), rd hi hL 5 (by decide), rc hi hL 1 (by decide), rc hi hL 2 (by decide), rc hi hL 3 (by decide), rc hi hL 4 (by decide), rc hi hL 5 (by decide)]
  exact go_free (call_voice w _ _ _)
theorem p_case_26 {c L i : Nat} {xs : Nat → Int32} {σ : Mem} (w : Rel c σ) (hc : c < 100000) (hi : i + 6 ≤ L) (hL : L ≤ 3072) (bk : Int32 → Mem → Res) : Go c i (fc_law_26 bk L xs (nI i) σ) bk := by
  simp only [fc_law_26, nm_mk, nI_1, i_a2, i_a3, i_a4, i_a5, i_a6, rd hi hL 1 (by decide), rd hi hL 2 (by decide), rd hi hL 3 (by decide), rd hi hL 4 (by decide), rd hi hL 5 (by decide), rc hi hL 1 (by decide), rc hi hL 2 (by decide), rc hi hL 3 (by decide), rc hi hL 4 (by decide), rc hi hL 5 (by decide)]
  exact go_free (call_body w _)
theorem p_case_27 {c L i : Nat} {xs : Nat → Int32} {σ : Mem} (w : Rel c σ) (hc : c < 100000) (hi : i + 6 ≤ L) (hL : L ≤ 3072) (bk : Int32 → Mem → Res) : Go c i (fc_law_27 bk L xs (nI i) σ) bk := by
  simp only [fc_law_27, nm_mk, nI_1, i_a2, i_a3, i_a4, i_a5, i_a6, rd hi hL 1 (by decide), rd hi hL 2 (by decide), rd hi hL 3 (by decide), rd hi hL 4 (by decide), rd hi hL 5 (by decide), rc hi hL 1 (by decide), rc hi hL 2 (by decide), rc hi hL 3 (by decide), rc hi hL 4 (by decide), rc hi hL 5 (by decide)]
  exact go_free (call_sheet w _ _ _)
theorem p_case_28 {c L i : Nat} {xs : Nat → Int32} {σ : Mem} (w : Rel c σ) (hc : c < 100000) (hi : i + 6 ≤ L) (hL : L ≤ 3072) (bk : Int32 → Mem → Res) : Go c i (fc_law_28 bk L xs (nI i) σ) bk := by
  simp only [fc_law_28, nm_mk, nI_1, i_a2, i_a3, i_a4, i_a5, i_a6, rd hi hL 1 (by decide), rd hi hL 2 (by decide), rd hi hL 3 (by decide), rd hi hL 4 (by decide), rd hi hL 5 (by decide), rc hi hL 1 (by decide), rc hi hL 2 (by decide), rc hi hL 3 (by decide), rc hi hL 4 (by decide), rc hi hL 5 (by decide)]
  exact go_free (call_put w _ _ _)
theorem p_case_29 {c L i : Nat} {xs : Nat → Int32} {σ : Mem} (w : Rel c σ) (hc : c < 100000) (hi : i + 6 ≤ L) (hL : L ≤ 3072) (bk : Int32 → Mem → Res) : Go c i (fc_law_29 bk L xs (nI i) σ) bk := by
  simp only [fc_law_29, nm_mk, nI_1, i_a2, i_a3, i_a4, i_a5, i_a6, rd hi hL 1 (by decide), rd hi hL 2 (by decide), rd hi hL 3 (by decide), rd hi hL 4 (by decide), rd hi hL 5 (by decide), rc hi hL 1 (by decide), rc hi hL 2 (by decide), rc hi hL 3 (by decide), rc hi hL 4 (by decide), rc hi hL 5 (by decide)]
  exact go_free (call_move w _ _ _ _ _)
theorem p_case_30 {c L i : Nat} {xs : Nat → Int32} {σ : Mem} (w : Rel c σ) (hc : c < 100000) (hi : i + 6 ≤ L) (hL : L ≤ 3072) (bk : Int32 → Mem → Res) : Go c i (fc_law_30 bk L xs (nI i) σ) bk := by
  simp only [fc_law_30, nm_mk, nI_1, i_a2, i_a3, i_a4, i_a5, i_a6, rd hi hL 1 (by decide), rd hi hL 2 (by decide), rd hi hL 3 (by decide), rd hi hL 4 (by decide), rd hi hL 5 (by decide), rc hi hL 1 (by decide), rc hi hL 2 (by decide), rc hi hL 3 (by decide), rc hi hL 4 (by decide), rc hi hL 5 (by decide)]
  exact go_free (call_weightsBy w _)
theorem p_case_31 {c L i : Nat} {xs : Nat → Int32} {σ : Mem} (w : Rel c σ) (hc : c < 100000) (hi : i + 6 ≤ L) (hL : L ≤ 3072) (bk : Int32 → Mem → Res) : Go c i (fc_law_31 bk L xs (nI i) σ) bk := by
  simp only [fc_law_31, nm_mk, nI_1, i_a2, i_a3, i_a4, i_a5, i_a6, rd hi hL 1 (by decide), rd hi hL 2 (by decide), rd hi hL 3 (by decide), rd hi hL 4 (by decide), rd hi hL 5 (by decide), rc hi hL 1 (by decide), rc hi hL 2 (by decide), rc hi hL 3 (by decide), rc hi hL 4 (by decide), rc hi hL 5 (by decide)]
  exact go_freeV (callv_judge w _)
theorem p_case_32 {c L i : Nat} {xs : Nat → Int32} {σ : Mem} (w : Rel c σ) (hc : c < 100000) (hi : i + 6 ≤ L) (hL : L ≤ 3072) (bk : Int32 → Mem → Res) : Go c i (fc_law_32 bk L xs (nI i) σ) bk := by
  simp only [fc_law_32, nm_mk, nI_1, i_a2, i_a3, i_a4, i_a5, i_a6, rd hi hL 1 (by decide), rd hi hL 2 (by decide), rd hi hL 3 (by decide), rd hi hL 4 (by decide), rd hi hL 5 (by decide), rc hi hL 1 (by decide), rc hi hL 2 (by decide), rc hi hL 3 (by decide), rc hi hL 4 (by decide), rc hi hL 5 (by decide)]
  exact go_free (call_image w)
theorem p_case_33 {c L i : Nat} {xs : Nat → Int32} {σ : Mem} (w : Rel c σ) (hc : c < 100000) (hi : i + 6 ≤ L) (hL : L ≤ 3072) (bk : Int32 → Mem → Res) : Go c i (fc_law_33 bk L xs (nI i) σ) bk := by
  simp only [fc_law_33, nm_mk, nI_1, i_a2, i_a3, i_a4, i_a5, i_a6, rd hi hL 1 (by decide), rd hi hL 2 (by decide), rd hi hL 3 (by decide), rd hi hL 4 (by decide), rd hi hL 5 (by decide), rc hi hL 1 (by decide), rc hi hL 2 (by decide), rc hi hL 3 (by decide), rc hi hL 4 (by decide), rc hi hL 5 (by decide)]
  exact go_free (call_restore hc w)
theorem p_case_34 {c L i : Nat} {xs : Nat → Int32} {σ : Mem} (w : Rel c σ) (hc : c < 100000) (hi : i + 6 ≤ L) (hL : L ≤ 3072) (bk : Int32 → Mem → Res) : Go c i (fc_law_34 bk L xs (nI i) σ) bk := by
  simp only [fc_law_34, nm_mk, nI_1, i_a2, i_a3, i_a4, i_a5, i_a6, rd hi hL 1 (by decide), rd hi hL 2 (by decide), rd hi hL 3 (by decide), rd hi hL 4 (by decide), rd hi hL 5 (by decide), rc hi hL 1 (by decide), rc hi hL 2 (by decide), rc hi hL 3 (by decide), rc hi hL 4 (by decide), rc hi hL 5 (by decide)]
  exact go_free (call_tell w _)
theorem p_case_35 {c L i : Nat} {xs : Nat → Int32} {σ : Mem} (w : Rel c σ) (hc : c < 100000) (hi : i + 6 ≤ L) (hL : L ≤ 3072) (bk : Int32 → Mem → Res) : Go c i (fc_law_35 bk L xs (nI i) σ) bk := by
  simp only [fc_law_35, nm_mk, nI_1, i_a2, i_a3, i_a4, i_a5, i_a6, rd hi hL 1 (by decide), rd hi hL 2 (by decide), rd hi hL 3 (by decide), rd hi hL 4 (by decide), rd hi hL 5 (by decide), rc hi hL 1 (by decide), rc hi hL 2 (by decide), rc hi hL 3 (by decide), rc hi hL 4 (by decide), rc hi hL 5 (by decide)]
  exact go_free (call_check w)
theorem p_case_36 {c L i : Nat} {xs : Nat → Int32} {σ : Mem} (w : Rel c σ) (hc : c < 100000) (hi : i + 6 ≤ L) (hL : L ≤ 3072) (bk : Int32 → Mem → Res) : Go c i (fc_law_36 bk L xs (nI i) σ) bk := by
  simp only [fc_law_36, nm_mk, nI_1, i_a2, i_a3, i_a4, i_a5, i_a6, rd hi hL 1 (by decide), rd hi hL 2 (by decide), rd hi hL 3 (by decide), rd hi hL 4 (by decide), rd hi hL 5 (by decide), rc hi hL 1 (by decide), rc hi hL 2 (by decide), rc hi hL 3 (by decide), rc hi hL 4 (by decide), rc hi hL 5 (by decide)]
  exact go_free (call_count w _)
theorem p_case_37 {c L i : Nat} {xs : Nat → Int32} {σ : Mem} (w : Rel c σ) (hc : c < 100000) (hi : i + 6 ≤ L) (hL : L ≤ 3072) (bk : Int32 → Mem → Res) : Go c i (fc_law_37 bk L xs (nI i) σ) bk := by
  simp only [fc_law_37, nm_mk, nI_1, i_a2, i_a3, i_a4, i_a5, i_a6, rd hi hL 1 (by decide), rd hi hL 2 (by decide), rd hi hL 3 (by decide), rd hi hL 4 (by decide), rd hi hL 5 (by decide), rc hi hL 1 (by decide), rc hi hL 2 (by decide), rc hi hL 3 (by decide), rc hi hL 4 (by decide), rc hi hL 5 (by decide)]
  exact go_cmp (call_told w _)
set_option maxRecDepth 100000 in
theorem p_step {c L i : Nat} {xs : Nat → Int32} {σ : Mem} (w : Rel c σ) (hc : c < 100000) (hi : i + 6 ≤ L) (hL : L ≤ 3072) (bk : Int32 → Mem → Res) : Go c i (fb_law bk L xs (nI i) σ) bk := by
  rw [fb_law, nm_mk, if_neg (by rw [len6 hL (by omega)]; omega), rd0 hi hL, nm_mk, nm_mk]
  generalize xs (nI i).toNatClampNeg &&& 63 = v
  by_cases h0 : v = 0
  · rw [if_pos h0]
    exact p_case_0 w hc hi hL bk
  rw [if_neg h0]
  by_cases h1 : v = 1
  · rw [if_pos h1]
    exact p_case_1 w hc hi hL bk
  rw [if_neg h1]
  by_cases h2 : v = 2
  · rw [if_pos h2]
    exact p_case_2 w hc hi hL bk
  rw [if_neg h2]
  by_cases h3 : v = 3
  · rw [if_pos h3]
    exact p_case_3 w hc hi hL bk
  rw [if_neg h3]
  by_cases h4 : v = 4
  · rw [if_pos h4]
    exact p_case_4 w hc hi hL bk
  rw [if_neg h4]
  by_cases h5 : v = 5
  · rw [if_pos h5]
    exact p_case_5 w hc hi hL bk
  rw [if_neg h5]
  by_cases h6 : v = 6
  · rw [if_pos h6]
    exact p_case_6 w hc hi hL bk
  rw [if_neg h6]
  by_cases h7 : v = 7
  · rw [if_pos h7]
    exact p_case_7 w hc hi hL bk
  rw [if_neg h7]
  by_cases h8 : v = 8
  · rw [if_pos h8]
    exact p_case_8 w hc hi hL bk
  rw [if_neg h8]
  by_cases h9 : v = 9
  · rw [if_pos h9]
    exact p_case_9 w hc hi hL bk
  rw [if_neg h9]
  by_cases h10 : v = 10
  · rw [if_pos h10]
    exact p_case_10 w hc hi hL bk
  rw [if_neg h10]
  by_cases h11 : v = 11
  · rw [if_pos h11]
    exact p_case_11 w hc hi hL bk
  rw [if_neg h11]
  by_cases h12 : v = 12
  · rw [if_pos h12]
    exact p_case_12 w hc hi hL bk
  rw [if_neg h12]
  by_cases h13 : v = 13
  · rw [if_pos h13]
    exact p_case_13 w hc hi hL bk
  rw [if_neg h13]
  by_cases h14 : v = 14
  · rw [if_pos h14]
    exact p_case_14 w hc hi hL bk
  rw [if_neg h14]
  by_cases h15 : v = 15
  · rw [if_pos h15]
    exact p_case_15 w hc hi hL bk
  rw [if_neg h15]
  by_cases h16 : v = 16
  · rw [if_pos h16]
    exact p_case_16 w hc hi hL bk
  rw [if_neg h16]
  by_cases h17 : v = 17
  · rw [if_pos h17]
    exact p_case_17 w hc hi hL bk
  rw [if_neg h17]
  by_cases h18 : v = 18
  · rw [if_pos h18]
    exact p_case_18 w hc hi hL bk
  rw [if_neg h18]
  by_cases h19 : v = 19
  · rw [if_pos h19]
    exact p_case_19 w hc hi hL bk
  rw [if_neg h19]
  by_cases h20 : v = 20
  · rw [if_pos h20]
    exact p_case_20 w hc hi hL bk
  rw [if_neg h20]
  by_cases h21 : v = 21
  · rw [if_pos h21]
    exact p_case_21 w hc hi hL bk
  rw [if_neg h21]
  by_cases h22 : v = 22
  · rw [if_pos h22]
    exact p_case_22 w hc hi hL bk
  rw [if_neg h22]
  by_cases h23 : v = 23
  · rw [if_pos h23]
    exact p_case_23 w hc hi hL bk
  rw [if_neg h23]
  by_cases h24 : v = 24
  · rw [if_pos h24]
    exact p_case_24 w hc hi hL bk
  rw [if_neg h24]
  by_cases h25 : v = 25
  · rw [if_pos h25]
    exact p_case_25 w hc hi hL bk
  rw [if_neg h25]
  by_cases h26 : v = 26
  · rw [if_pos h26]
    exact p_case_26 w hc hi hL bk
  rw [if_neg h26]
  by_cases h27 : v = 27
  · rw [if_pos h27]
    exact p_case_27 w hc hi hL bk
  rw [if_neg h27]
  by_cases h28 : v = 28
  · rw [if_pos h28]
    exact p_case_28 w hc hi hL bk
  rw [if_neg h28]
  by_cases h29 : v = 29
  · rw [if_pos h29]
    exact p_case_29 w hc hi hL bk
  rw [if_neg h29]
  by_cases h30 : v = 30
  · rw [if_pos h30]
    exact p_case_30 w hc hi hL bk
  rw [if_neg h30]
  by_cases h31 : v = 31
  · rw [if_pos h31]
    exact p_case_31 w hc hi hL bk
  rw [if_neg h31]
  by_cases h32 : v = 32
  · rw [if_pos h32]
    exact p_case_32 w hc hi hL bk
  rw [if_neg h32]
  by_cases h33 : v = 33
  · rw [if_pos h33]
    exact p_case_33 w hc hi hL bk
  rw [if_neg h33]
  by_cases h34 : v = 34
  · rw [if_pos h34]
    exact p_case_34 w hc hi hL bk
  rw [if_neg h34]
  by_cases h35 : v = 35
  · rw [if_pos h35]
    exact p_case_35 w hc hi hL bk
  rw [if_neg h35]
  by_cases h36 : v = 36
  · rw [if_pos h36]
    exact p_case_36 w hc hi hL bk
  rw [if_neg h36]
  by_cases h37 : v = 37
  · rw [if_pos h37]
    exact p_case_37 w hc hi hL bk
  rw [if_neg h37]
  rw [nm_mk, i_a6]
  exact ⟨σ, rfl, w.up⟩
theorem p_loop {L : Nat} (hL : L ≤ 3072) (xs : Nat → Int32) : ∀ (n i c : Nat) (σ : Mem), Rel c σ → c ≤ i → i ≤ L → L < i + 6 * n → ∃ Z, f_law L xs n (nI i) σ = some Z ∧ Z.1 = 1 := by
  intro n
  induction n with
  | zero => intro i c σ _ _ h1 h2; omega
  | succ n ih =>
    intro i c σ w hc h1 h2
    show ∃ Z, fb_law (f_law L xs n) L xs (nI i) σ = some Z ∧ Z.1 = 1
    by_cases h : i + 6 ≤ L
    · obtain ⟨σ2, e, w2⟩ := p_step (xs := xs) w (by omega) h hL (f_law L xs n)
      rw [e]
      exact ih (i + 6) (c + 1) σ2 w2 (by omega) h (by omega)
    · refine ⟨(1, σ), ?_, rfl⟩
      rw [fb_law, nm_mk, if_pos (by rw [len6 hL h1]; omega)]
theorem pure_law (L : Nat) (xs : Nat → Int32) (hL : L ≤ 3072) : ∃ Z, f_law L xs 600 0 σ0 = some Z ∧ Z.1 = 1 := p_loop hL xs 600 0 0 σ0 rel_0 (Nat.le_refl _) (Nat.zero_le _) (by omega)
