/-! PURE: the text's end: a FAULT, or the codes -/
theorem IvT.tp {m : Int32} {tf row : Nat → Int32} (h : IvT m tf row) : ∃ (n : Nat) (b : Nat → Nat), m = nI n ∧ Tp n tf row b := by
  obtain ⟨n, hn, rfl, h6, hb⟩ := h
  refine ⟨n, fun i => if i < n then (tf i).toNatClampNeg else 0, rfl, hn, h6, fun i => ?_, fun i hi => if_neg (by omega), fun i hi => ?_⟩
  · show (if i < n then (tf i).toNatClampNeg else 0) < 256
    by_cases hi : i < n
    · obtain ⟨y, y1, y2, y3⟩ := hb i hi
      rw [if_pos hi, y2, nI_clamp (by omega)]
      exact y1
    · rw [if_neg hi]
      omega
  · obtain ⟨y, y1, y2, y3⟩ := hb i hi
    show tf i = nI (if i < n then (tf i).toNatClampNeg else 0) ∧ row (74 + i) = nI (if i < n then (tf i).toNatClampNeg else 0)
    rw [if_pos hi, y2, nI_clamp (by omega), y3]
    exact ⟨rfl, rfl⟩
theorem txt_copy {us c : Nat} (hu : us < 2) (hc : c ≤ 60) (errs row act wth : Nat → Int32) (hp op bd_ : Int32) : ∃ row' : Nat → Int32, lp (B_X8_text_119 errs (nI us) (nI c, hp, op, bd_, act, wth)) fuelC (nI 0, upd (upd row 6 (nI 0)) (158 + 121 * us) (nI c)) = some (nI 1, nI c, hp, op, nI 0, nI us, row', errs, act, wth) ∧ row' 6 = nI 0 ∧ row' (158 + 121 * us) = nI c ∧ (∀ i, i < c → row' (158 + 121 * us + 1 + i) = act i ∧ row' (158 + 121 * us + 61 + i) = wth i) ∧ ∀ j, j ≠ 6 → (j < 158 + 121 * us ∨ 158 + 121 * us + 121 ≤ j) → row' j = row j := by
  refine lp_go (body := B_X8_text_119 errs (nI us) (nI c, hp, op, bd_, act, wth)) (fun j s => s.1 = nI j ∧ s.2 6 = nI 0 ∧ s.2 (158 + 121 * us) = nI c ∧ (∀ i, i < j → s.2 (158 + 121 * us + 1 + i) = act i ∧ s.2 (158 + 121 * us + 61 + i) = wth i) ∧ ∀ j, j ≠ 6 → (j < 158 + 121 * us ∨ 158 + 121 * us + 121 ≤ j) → s.2 j = row j) (fun o => ∃ row' : Nat → Int32, o = some (nI 1, nI c, hp, op, nI 0, nI us, row', errs, act, wth) ∧ row' 6 = nI 0 ∧ row' (158 + 121 * us) = nI c ∧ (∀ i, i < c → row' (158 + 121 * us + 1 + i) = act i ∧ row' (158 + 121 * us + 61 + i) = wth i) ∧ ∀ j, j ≠ 6 → (j < 158 + 121 * us ∨ 158 + 121 * us + 121 ≤ j) → row' j = row j) c (by omega) ⟨rfl, ?_, ?_, fun i hi => absurd hi (Nat.not_lt_zero i), fun j h1 h2 => ?_⟩ ?_ ?_
  · show upd (upd row 6 (nI 0)) (158 + 121 * us) (nI c) 6 = nI 0
    rw [pk_un (by omega), pk_us]
  · show upd (upd row 6 (nI 0)) (158 + 121 * us) (nI c) (158 + 121 * us) = nI c
    rw [pk_us]
  · show upd (upd row 6 (nI 0)) (158 + 121 * us) (nI c) j = row j
    rw [pk_un (by omega), pk_un h1]
  · rintro j ⟨s1, s2⟩ hj ⟨h1, h2, h3, h4, h5⟩
    dsimp only at h1 h2 h3 h4 h5
    subst h1
    refine Or.inr ⟨(nI (j + 1), upd (upd s2 (158 + 121 * us + 1 + j) (act j)) (158 + 121 * us + 61 + j) (wth j)), ⟨rfl, ?_, ?_, fun i hi => ?_, fun i g1 g2 => ?_⟩, fun k => ?_⟩
    · dsimp only
      rw [pk_un (by omega), pk_un (by omega)]
      exact h2
    · dsimp only
      rw [pk_un (by omega), pk_un (by omega)]
      exact h3
    · dsimp only
      rcases (show i < j ∨ i = j by omega) with g | rfl
      · rw [pk_un (by omega), pk_un (by omega), pk_un (by omega), pk_un (by omega)]
        exact h4 i g
      · rw [pk_un (by omega), pk_us, pk_us]
        exact ⟨rfl, rfl⟩
    · dsimp only
      rw [pk_un (by omega), pk_un (by omega)]
      exact h5 i g1 g2
    · unfold B_X8_text_119
      simp (disch := omega) only [l0, l1, l2, l3, l4, l5, l6, l7, l8, l9, l10, l11, l12, l13, l14, l15, l16, l17, l18, l19, l20, l21, l22, l23, l24, l25, l26, l27, l28, l29, l30, l32, l33, l37, l38, l40, l41, l42, l43, l45, l47, l48, l57, l58, l60, l61, l62, l63, l64, l69, l70, l74, l88, l91, l96, l97, l98, l99, l100, l102, l115, l116, l121, l124, l134, l158, l279, l255, l400, l728, l729, l9999, l99999, l12345, l1103515245, l1000000000, l1000000001, l1000000002, l1000000003, l1000000004, l1000000005, l1000000006, pk_us, nI_add, pk_mul, pk_sub, pk_div, nI_clamp, nI_ltI, nI_leI, nI_eq, bd_some, Nat.not_lt_zero, false_or, or_false, true_or, or_true, if_pos, if_neg, ite_true, ite_false, if_true, if_false, Nat.add_zero]
  · rintro ⟨s1, s2⟩ ⟨h1, h2, h3, h4, h5⟩ k
    dsimp only at h1 h2 h3 h4 h5
    subst h1
    refine ⟨s2, ?_, h2, h3, h4, h5⟩
    unfold B_X8_text_119
    simp (disch := omega) only [l0, l1, l2, l3, l4, l5, l6, l7, l8, l9, l10, l11, l12, l13, l14, l15, l16, l17, l18, l19, l20, l21, l22, l23, l24, l25, l26, l27, l28, l29, l30, l32, l33, l37, l38, l40, l41, l42, l43, l45, l47, l48, l57, l58, l60, l61, l62, l63, l64, l69, l70, l74, l88, l91, l96, l97, l98, l99, l100, l102, l115, l116, l121, l124, l134, l158, l279, l255, l400, l728, l729, l9999, l99999, l12345, l1103515245, l1000000000, l1000000001, l1000000002, l1000000003, l1000000004, l1000000005, l1000000006, pk_us, nI_add, pk_mul, pk_sub, pk_div, nI_clamp, nI_ltI, nI_leI, nI_eq, bd_some, Nat.not_lt_zero, false_or, or_false, true_or, or_true, if_pos, if_neg, ite_true, ite_false, if_true, if_false, Nat.add_zero, Nat.le_refl]
theorem x_fault {us n c : Nat} {tf cf cf' : Nat → Int32} {p : Nat} (hp : p ≤ n) (hn : n ≤ 60) (e : F_X0_readOr (RS_rf 8) us (nI 0) (nI 0) (nI n) tf (nI 0) cf (nI 0) = some (nI p, nI 1, nI c, cf')) : F_X0_faultOf (nI n) tf cf us = some (nI p, us, nI p, nI 1, nI c, cf') := by
  unfold F_X0_faultOf F_X1_clear F_X1_many
  simp only [l0, l1, l2, l3, l4, l5, l6, l7, l8, l9, l10, l11, l12, l13, l14, l15, l16, l17, l18, l19, l20, l21, l22, l23, l24, l25, l26, l27, l28, l29, l30, l32, l33, l37, l38, l40, l41, l42, l43, l45, l47, l48, l57, l58, l60, l61, l62, l63, l64, l69, l70, l74, l88, l91, l96, l97, l98, l99, l100, l102, l115, l116, l121, l124, l134, l158, l279, l255, l400, l728, l729, l9999, l99999, l12345, l1103515245, l1000000000, l1000000001, l1000000002, l1000000003, l1000000004, l1000000005, l1000000006]
  rw [bd_some, e, bd_some]
  dsimp only
  rw [if_neg (show ¬ nI 1 = nI 0 by decide)]
theorem x_short {us n c : Nat} {tf cf cf' : Nat → Int32} {p : Nat} (hp : p < n) (hn : n ≤ 60) (e : F_X0_readOr (RS_rf 8) us (nI 0) (nI 0) (nI n) tf (nI 0) cf (nI 0) = some (nI p, nI 0, nI c, cf')) : F_X0_faultOf (nI n) tf cf us = some (nI p, us, nI p, nI 0, nI c, cf') := by
  unfold F_X0_faultOf F_X1_clear F_X1_many
  simp only [l0, l1, l2, l3, l4, l5, l6, l7, l8, l9, l10, l11, l12, l13, l14, l15, l16, l17, l18, l19, l20, l21, l22, l23, l24, l25, l26, l27, l28, l29, l30, l32, l33, l37, l38, l40, l41, l42, l43, l45, l47, l48, l57, l58, l60, l61, l62, l63, l64, l69, l70, l74, l88, l91, l96, l97, l98, l99, l100, l102, l115, l116, l121, l124, l134, l158, l279, l255, l400, l728, l729, l9999, l99999, l12345, l1103515245, l1000000000, l1000000001, l1000000002, l1000000003, l1000000004, l1000000005, l1000000006]
  rw [bd_some, e, bd_some]
  dsimp only
  rw [if_pos rfl, bd_some, if_neg (nI_ge hp (by omega))]
theorem x_whole {us n c : Nat} {tf cf cf' : Nat → Int32} (hn : n ≤ 60) (e : F_X0_readOr (RS_rf 8) us (nI 0) (nI 0) (nI n) tf (nI 0) cf (nI 0) = some (nI n, nI 0, nI c, cf')) : F_X0_faultOf (nI n) tf cf us = some (-(nI 1), us, nI n, nI 0, nI c, cf') := by
  unfold F_X0_faultOf F_X1_clear F_X1_many
  simp only [l0, l1, l2, l3, l4, l5, l6, l7, l8, l9, l10, l11, l12, l13, l14, l15, l16, l17, l18, l19, l20, l21, l22, l23, l24, l25, l26, l27, l28, l29, l30, l32, l33, l37, l38, l40, l41, l42, l43, l45, l47, l48, l57, l58, l60, l61, l62, l63, l64, l69, l70, l74, l88, l91, l96, l97, l98, l99, l100, l102, l115, l116, l121, l124, l134, l158, l279, l255, l400, l728, l729, l9999, l99999, l12345, l1103515245, l1000000000, l1000000001, l1000000002, l1000000003, l1000000004, l1000000005, l1000000006]
  rw [bd_some, e, bd_some]
  dsimp only
  rw [if_pos rfl, bd_some, if_pos (nI_le (Nat.le_refl _) (by omega))]
theorem m_fault {us p c : Nat} {o' f : Int32} {row errs act wth act' wth' : Nat → Int32} {n : Nat} (hu : us < 2) (hn : n ≤ 60) (h6 : row 6 = nI n) (hf : f = nI 1 ∨ (f = nI 0 ∧ p < n)) (l0' h0' op0 b0' us0 : Int32) (e : F_X8_any (RS_one 8) (nI 0) (nI 0) (nI 0) (nI 0) (nI us) row act wth = some (nI c, nI p, o', f, act', wth')) : F_X8_text l0' h0' op0 b0' us0 row errs act wth (nI us) = some (-(nI 10) - nI p, nI c, nI p, o', nI 1, nI us, upd row 6 (nI 0), errs, act', wth') := by
  unfold F_X8_text
  simp only [l0, l1, l2, l3, l4, l5, l6, l7, l8, l9, l10, l11, l12, l13, l14, l15, l16, l17, l18, l19, l20, l21, l22, l23, l24, l25, l26, l27, l28, l29, l30, l32, l33, l37, l38, l40, l41, l42, l43, l45, l47, l48, l57, l58, l60, l61, l62, l63, l64, l69, l70, l74, l88, l91, l96, l97, l98, l99, l100, l102, l115, l116, l121, l124, l134, l158, l279, l255, l400, l728, l729, l9999, l99999, l12345, l1103515245, l1000000000, l1000000001, l1000000002, l1000000003, l1000000004, l1000000005, l1000000006]
  rw [in_eq, w_Y (by omega) (by omega), bd_some, if_neg (show ¬ nI 1 = nI 0 by decide), e, bd_some]
  dsimp only
  rw [nI_clamp (by omega), h6]
  rcases hf with rfl | ⟨rfl, h⟩
  · rw [if_neg (show ¬ nI 1 = nI 0 by decide)]
  · rw [if_pos rfl, if_neg (nI_ge h (by omega))]
theorem m_whole {us c : Nat} {o' : Int32} {row errs act wth act' wth' : Nat → Int32} {n : Nat} (hu : us < 2) (hn : n ≤ 60) (hc : c ≤ 60) (h6 : row 6 = nI n) (l0' h0' op0 b0' us0 : Int32) (e : F_X8_any (RS_one 8) (nI 0) (nI 0) (nI 0) (nI 0) (nI us) row act wth = some (nI c, nI n, o', nI 0, act', wth')) : F_X8_text l0' h0' op0 b0' us0 row errs act wth (nI us) = lp (B_X8_text_119 errs (nI us) (nI c, nI n, o', nI 0, act', wth')) fuelC (nI 0, upd (upd row 6 (nI 0)) (158 + 121 * us) (nI c)) := by
  unfold F_X8_text
  simp only [l0, l1, l2, l3, l4, l5, l6, l7, l8, l9, l10, l11, l12, l13, l14, l15, l16, l17, l18, l19, l20, l21, l22, l23, l24, l25, l26, l27, l28, l29, l30, l32, l33, l37, l38, l40, l41, l42, l43, l45, l47, l48, l57, l58, l60, l61, l62, l63, l64, l69, l70, l74, l88, l91, l96, l97, l98, l99, l100, l102, l115, l116, l121, l124, l134, l158, l279, l255, l400, l728, l729, l9999, l99999, l12345, l1103515245, l1000000000, l1000000001, l1000000002, l1000000003, l1000000004, l1000000005, l1000000006]
  rw [in_eq, w_Y (by omega) (by omega), bd_some, if_neg (show ¬ nI 1 = nI 0 by decide), e, bd_some]
  dsimp only
  rw [nI_clamp (by omega), h6, if_pos rfl, if_pos (nI_le (Nat.le_refl _) (by omega)), pk_mul, nI_add, nI_clamp (by omega), if_neg]
  rintro (h | h)
  · exact nI_nlt (Nat.zero_le _) (by omega) h
  · omega
/-- what a text does -/
theorem txt_end {us : Nat} {m : Int32} {tf row : Nat → Int32} (hT : IvT m tf row) (hu : us < 2) (cf errs act wth : Nat → Int32) (l0' h0' op0 b0' us0 : Int32) : (∃ (p : Nat) (k2 : Nat) (r f cm : Int32) (cf' : Nat → Int32) (w1 w2 w3 w4 w5 : Int32) (a' w' : Nat → Int32), p ≤ 60 ∧ F_X0_faultOf m tf cf us = some (nI p, k2, r, f, cm, cf') ∧ F_X8_text l0' h0' op0 b0' us0 row errs act wth (nI us) = some (-(nI 10) - nI p, w1, w2, w3, w4, w5, upd row 6 (nI 0), errs, a', w')) ∨ ∃ (c : Nat) (k2 : Nat) (r f : Int32) (cf' : Nat → Int32) (w1 w2 w3 w4 w5 : Int32) (row' a' w' : Nat → Int32), c ≤ 60 ∧ F_X0_faultOf m tf cf us = some (-(nI 1), k2, r, f, nI c, cf') ∧ F_X8_text l0' h0' op0 b0' us0 row errs act wth (nI us) = some (nI 1, w1, w2, w3, w4, w5, row', errs, a', w') ∧ IvC (158 + 121 * us) (nI c) cf' row' ∧ row' 6 = nI 0 ∧ ∀ j, j ≠ 6 → (j < 158 + 121 * us ∨ 158 + 121 * us + 121 ≤ j) → row' j = row j := by
  obtain ⟨n, b, rfl, h⟩ := hT.tp
  have hn := h.1
  have h6 := h.2.1
  rcases txt_both h hu cf act wth with ⟨p', c', cf', act', wth', h1, h2, h3, h4, eX, eM⟩ | ⟨p', cx, cm, o', cf', act', wth', h1, h2, h3, eX, eM⟩
  · rcases (show p' < n ∨ p' = n by omega) with hlt | rfl
    · exact Or.inl ⟨p', _, _, _, _, _, _, _, _, _, _, _, _, by omega, x_short hlt hn eX, m_fault hu hn h6 (Or.inr ⟨rfl, hlt⟩) l0' h0' op0 b0' us0 eM⟩
    · have hc : c' ≤ 60 := by omega
      obtain ⟨row', r1, r2, r3, r4, r5⟩ := txt_copy hu hc errs row act' wth' (nI p') (nI 0) (nI 0)
      obtain ⟨q0, q1, d, d0, d1, d2⟩ := h4
      refine Or.inr ⟨c', us, nI p', nI 0, cf', _, _, _, _, _, row', act', wth', hc, x_whole hn eX, (m_whole hu hn hc h6 l0' h0' op0 b0' us0 eM).trans r1, ⟨c', hc, rfl, r3, fun k hk => ?_, Or.inr ⟨d, d0, d1, fun k hk => ?_⟩⟩, r2, r5⟩
      · rw [(r4 k hk).1, (r4 k hk).2]
        exact q1 k hk
      · have e := (r4 k hk).1
        dsimp only
        rw [e]
        exact d2 k hk
  · exact Or.inl ⟨p', _, _, _, _, _, _, _, _, _, _, _, _, by omega, x_fault h1 hn eX, m_fault hu hn h6 (Or.inl rfl) l0' h0' op0 b0' us0 eM⟩
