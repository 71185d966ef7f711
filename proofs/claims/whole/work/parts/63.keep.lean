/-! PURE: what a change of one region of the row leaves -/
theorem IvN.cong {vow day worth z : Int32} {row row' : Nat → Int32} (h : IvN vow day worth z row) (h0 : row' 0 = row 0) (h1 : row' 1 = row 1) (h4 : row' 4 = row 4) (h5 : row' 5 = row 5) : IvN vow day worth z row' := by
  obtain ⟨a, b, c, d, e⟩ := h
  exact ⟨by rw [h5, a], by rw [h0, b], by rw [h4, c], by rw [h1, d], e⟩
theorem IvB.cong {km mm sm : Int32} {kf mf sf row row' : Nat → Int32} (h : IvB km kf mm mf sm sf row) (h2 : row' 2 = row 2) (hf : ∀ j, 8 ≤ j → j < 26 → row' j = row j) : IvB km kf mm mf sm sf row' := by
  obtain ⟨n, hn, a, b, c, d, e⟩ := h
  refine ⟨n, hn, a, b, c, by rw [h2, d], fun i hi2 => ?_⟩
  rw [hf (8 + 3 * i) (by omega) (by omega), hf (8 + 3 * i + 1) (by omega) (by omega), hf (8 + 3 * i + 2) (by omega) (by omega)]
  exact e i hi2
theorem IvG.cong {gm : Int32} {gf row row' : Nat → Int32} (h : IvG gm gf row) (h3 : row' 3 = row 3) (hf : ∀ j, 26 ≤ j → j < 74 → row' j = row j) : IvG gm gf row' := by
  obtain ⟨n, hn, a, d, e⟩ := h
  refine ⟨n, hn, a, by rw [h3, d], fun i hi2 => ?_⟩
  rw [hf (26 + 2 * i) (by omega) (by omega), hf (26 + 2 * i + 1) (by omega) (by omega)]
  exact e i hi2
theorem IvT.cong {gm : Int32} {gf row row' : Nat → Int32} (h : IvT gm gf row) (h3 : row' 6 = row 6) (hf : ∀ j, 74 ≤ j → j < 134 → row' j = row j) : IvT gm gf row' := by
  obtain ⟨n, hn, a, d, e⟩ := h
  refine ⟨n, hn, a, by rw [h3, d], fun i hi2 => ?_⟩
  rw [hf (74 + i) (by omega) (by omega)]
  exact e i hi2
theorem IvW.cong {gm : Int32} {gf row row' : Nat → Int32} (h : IvW gm gf row) (h3 : row' 7 = row 7) (hf : ∀ j, 134 ≤ j → j < 158 → row' j = row j) : IvW gm gf row' := by
  obtain ⟨n, hn, a, d, e⟩ := h
  refine ⟨n, hn, a, by rw [h3, d], fun i hi2 => ?_⟩
  rw [hf (134 + i) (by omega) (by omega)]
  exact e i hi2
section ST
variable {vow day worth z km mm sm gm tm am lm wm vow' day' worth' z' km' mm' sm' gm' tm' am' lm' wm' : Int32} {kf mf sf gf tf af lf wf kf' mf' sf' gf' tf' af' lf' wf' row row' : Nat → Int32}
theorem IvS.stN (h : IvS vow day worth z km kf mm mf sm sf gm gf tm tf am af lm lf wm wf row) (hN : IvN vow' day' worth' z' row') (hf : ∀ j, 2 ≤ j → j ≠ 4 → j ≠ 5 → row' j = row j) : IvS vow' day' worth' z' km kf mm mf sm sf gm gf tm tf am af lm lf wm wf row' := by
  obtain ⟨a, b, c, d, e, f, g⟩ := h
  exact ⟨hN, b.cong (hf _ (by omega) (by omega) (by omega)) (fun j _ _ => hf j (by omega) (by omega) (by omega)), c.cong (hf _ (by omega) (by omega) (by omega)) (fun j _ _ => hf j (by omega) (by omega) (by omega)), d.cong (hf _ (by omega) (by omega) (by omega)) (fun j _ _ => hf j (by omega) (by omega) (by omega)), e.cong (fun j _ _ => hf j (by omega) (by omega) (by omega)), f.cong (fun j _ _ => hf j (by omega) (by omega) (by omega)), g.cong (hf _ (by omega) (by omega) (by omega)) (fun j _ _ => hf j (by omega) (by omega) (by omega))⟩
theorem IvS.stB (h : IvS vow day worth z km kf mm mf sm sf gm gf tm tf am af lm lf wm wf row) (hB : IvB km' kf' mm' mf' sm' sf' row') (hf : ∀ j, j ≠ 2 → (j < 8 ∨ 26 ≤ j) → row' j = row j) : IvS vow day worth z km' kf' mm' mf' sm' sf' gm gf tm tf am af lm lf wm wf row' := by
  obtain ⟨a, b, c, d, e, f, g⟩ := h
  exact ⟨a.cong (hf _ (by omega) (by omega)) (hf _ (by omega) (by omega)) (hf _ (by omega) (by omega)) (hf _ (by omega) (by omega)), hB, c.cong (hf _ (by omega) (by omega)) (fun j _ _ => hf j (by omega) (by omega)), d.cong (hf _ (by omega) (by omega)) (fun j _ _ => hf j (by omega) (by omega)), e.cong (fun j _ _ => hf j (by omega) (by omega)), f.cong (fun j _ _ => hf j (by omega) (by omega)), g.cong (hf _ (by omega) (by omega)) (fun j _ _ => hf j (by omega) (by omega))⟩
theorem IvS.stG (h : IvS vow day worth z km kf mm mf sm sf gm gf tm tf am af lm lf wm wf row) (hG : IvG gm' gf' row') (hf : ∀ j, j ≠ 3 → (j < 26 ∨ 74 ≤ j) → row' j = row j) : IvS vow day worth z km kf mm mf sm sf gm' gf' tm tf am af lm lf wm wf row' := by
  obtain ⟨a, b, c, d, e, f, g⟩ := h
  exact ⟨a.cong (hf _ (by omega) (by omega)) (hf _ (by omega) (by omega)) (hf _ (by omega) (by omega)) (hf _ (by omega) (by omega)), b.cong (hf _ (by omega) (by omega)) (fun j _ _ => hf j (by omega) (by omega)), hG, d.cong (hf _ (by omega) (by omega)) (fun j _ _ => hf j (by omega) (by omega)), e.cong (fun j _ _ => hf j (by omega) (by omega)), f.cong (fun j _ _ => hf j (by omega) (by omega)), g.cong (hf _ (by omega) (by omega)) (fun j _ _ => hf j (by omega) (by omega))⟩
theorem IvS.stT (h : IvS vow day worth z km kf mm mf sm sf gm gf tm tf am af lm lf wm wf row) (hT : IvT tm' tf' row') (hf : ∀ j, j ≠ 6 → (j < 74 ∨ 134 ≤ j) → row' j = row j) : IvS vow day worth z km kf mm mf sm sf gm gf tm' tf' am af lm lf wm wf row' := by
  obtain ⟨a, b, c, d, e, f, g⟩ := h
  exact ⟨a.cong (hf _ (by omega) (by omega)) (hf _ (by omega) (by omega)) (hf _ (by omega) (by omega)) (hf _ (by omega) (by omega)), b.cong (hf _ (by omega) (by omega)) (fun j _ _ => hf j (by omega) (by omega)), c.cong (hf _ (by omega) (by omega)) (fun j _ _ => hf j (by omega) (by omega)), hT, e.cong (fun j _ _ => hf j (by omega) (by omega)), f.cong (fun j _ _ => hf j (by omega) (by omega)), g.cong (hf _ (by omega) (by omega)) (fun j _ _ => hf j (by omega) (by omega))⟩
theorem IvS.stW (h : IvS vow day worth z km kf mm mf sm sf gm gf tm tf am af lm lf wm wf row) (hW : IvW wm' wf' row') (hf : ∀ j, j ≠ 7 → (j < 134 ∨ 158 ≤ j) → row' j = row j) : IvS vow day worth z km kf mm mf sm sf gm gf tm tf am af lm lf wm' wf' row' := by
  obtain ⟨a, b, c, d, e, f, g⟩ := h
  exact ⟨a.cong (hf _ (by omega) (by omega)) (hf _ (by omega) (by omega)) (hf _ (by omega) (by omega)) (hf _ (by omega) (by omega)), b.cong (hf _ (by omega) (by omega)) (fun j _ _ => hf j (by omega) (by omega)), c.cong (hf _ (by omega) (by omega)) (fun j _ _ => hf j (by omega) (by omega)), d.cong (hf _ (by omega) (by omega)) (fun j _ _ => hf j (by omega) (by omega)), e.cong (fun j _ _ => hf j (by omega) (by omega)), f.cong (fun j _ _ => hf j (by omega) (by omega)), hW⟩
theorem IvS.stC0 (h : IvS vow day worth z km kf mm mf sm sf gm gf tm tf am af lm lf wm wf row) (hC : IvC 158 am' af' row') (hf : ∀ j, (j < 158 ∨ 279 ≤ j) → row' j = row j) : IvS vow day worth z km kf mm mf sm sf gm gf tm tf am' af' lm lf wm wf row' := by
  obtain ⟨a, b, c, d, e, f, g⟩ := h
  exact ⟨a.cong (hf _ (by omega)) (hf _ (by omega)) (hf _ (by omega)) (hf _ (by omega)), b.cong (hf _ (by omega)) (fun j _ _ => hf j (by omega)), c.cong (hf _ (by omega)) (fun j _ _ => hf j (by omega)), d.cong (hf _ (by omega)) (fun j _ _ => hf j (by omega)), hC, f.cong (fun j _ _ => hf j (by omega)), g.cong (hf _ (by omega)) (fun j _ _ => hf j (by omega))⟩
theorem IvS.stC1 (h : IvS vow day worth z km kf mm mf sm sf gm gf tm tf am af lm lf wm wf row) (hC : IvC 279 lm' lf' row') (hf : ∀ j, j < 279 → row' j = row j) : IvS vow day worth z km kf mm mf sm sf gm gf tm tf am af lm' lf' wm wf row' := by
  obtain ⟨a, b, c, d, e, f, g⟩ := h
  exact ⟨a.cong (hf _ (by omega)) (hf _ (by omega)) (hf _ (by omega)) (hf _ (by omega)), b.cong (hf _ (by omega)) (fun j _ _ => hf j (by omega)), c.cong (hf _ (by omega)) (fun j _ _ => hf j (by omega)), d.cong (hf _ (by omega)) (fun j _ _ => hf j (by omega)), e.cong (fun j _ _ => hf j (by omega)), hC, g.cong (hf _ (by omega)) (fun j _ _ => hf j (by omega))⟩
theorem IvF.keep {fitting mfit known : Int32} {fit counted isFit breaks : Nat → Int32} (h : IvF row fitting fit counted mfit known isFit breaks) (hS : IvS vow day worth z km kf mm mf sm sf gm gf tm tf am af lm lf wm wf row) (h3 : row' 3 = row 3) (hf : ∀ j, 26 ≤ j → j < 74 → row' j = row j) : IvF row' fitting fit counted mfit known isFit breaks :=
  h.cong (fitP_cong h3 hS.2.2.1.n hf)
end ST
theorem m_becomes {row : Nat → Int32} {i : Nat} (v : Int32) (h : i < 400) : F_X8_becomes row (nI i) v = some (row i, upd row i v) := by
  unfold F_X8_becomes
  simp (disch := omega) only [l0, l1, l2, l3, l4, l5, l6, l7, l8, l9, l10, l11, l12, l13, l14, l15, l16, l17, l18, l19, l20, l21, l22, l23, l24, l25, l26, l27, l28, l29, l30, l32, l33, l37, l38, l40, l41, l42, l43, l45, l47, l48, l57, l58, l60, l61, l62, l63, l64, l69, l70, l74, l88, l91, l96, l97, l98, l99, l100, l102, l115, l116, l121, l124, l134, l158, l279, l255, l400, l728, l729, l9999, l99999, l12345, l1103515245, l1000000000, l1000000001, l1000000002, l1000000003, l1000000004, l1000000005, l1000000006, pk_us, nI_add, pk_mul, pk_sub, pk_div, nI_clamp, nI_ltI, nI_leI, nI_eq, bd_some, Nat.not_lt_zero, false_or, or_false, true_or, or_true, if_pos, if_neg, ite_true, ite_false, if_true, if_false, Nat.add_zero]
theorem kn_Y {j : Nat} (h : j < 70) : F_X7_isKindAndNumber (nI j) = some (nI 1) := by
  unfold F_X7_isKindAndNumber
  simp only [l0, l1, l2, l3, l4, l5, l6, l7, l8, l9, l10, l11, l12, l13, l14, l15, l16, l17, l18, l19, l20, l21, l22, l23, l24, l25, l26, l27, l28, l29, l30, l32, l33, l37, l38, l40, l41, l42, l43, l45, l47, l48, l57, l58, l60, l61, l62, l63, l64, l69, l70, l74, l88, l91, l96, l97, l98, l99, l100, l102, l115, l116, l121, l124, l134, l158, l279, l255, l400, l728, l729, l9999, l99999, l12345, l1103515245, l1000000000, l1000000001, l1000000002, l1000000003, l1000000004, l1000000005, l1000000006]
  rw [w_Y (by omega) (by omega), bd_some]
theorem kn_N {v : Int32} (h : v < 0 ∨ nI 70 ≤ v) : F_X7_isKindAndNumber v = some (nI 0) := by
  unfold F_X7_isKindAndNumber
  simp only [l0, l1, l2, l3, l4, l5, l6, l7, l8, l9, l10, l11, l12, l13, l14, l15, l16, l17, l18, l19, l20, l21, l22, l23, l24, l25, l26, l27, l28, l29, l30, l32, l33, l37, l38, l40, l41, l42, l43, l45, l47, l48, l57, l58, l60, l61, l62, l63, l64, l69, l70, l74, l88, l91, l96, l97, l98, l99, l100, l102, l115, l116, l121, l124, l134, l158, l279, l255, l400, l728, l729, l9999, l99999, l12345, l1103515245, l1000000000, l1000000001, l1000000002, l1000000003, l1000000004, l1000000005, l1000000006]
  rw [w_N h (by omega), bd_some]
theorem km_eq (v : Int32) : F_X8_isKm v = F_X7_isKindAndNumber v := rfl
