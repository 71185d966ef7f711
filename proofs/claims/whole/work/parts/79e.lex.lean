/-! PURE: reading a text, byte by byte -/
def Tp (n : Nat) (tf row : Nat → Int32) (b : Nat → Nat) : Prop := n ≤ 60 ∧ row 6 = nI n ∧ (∀ i, b i < 256) ∧ (∀ i, n ≤ i → b i = 0) ∧ ∀ i, i < n → tf i = nI (b i) ∧ row (74 + i) = nI (b i)
def nmJ (us x : Nat) : Nat := if us = 0 then (if x = 97 then 0 else if x = 98 then 1 else if x = 102 then 2 else 3) else (if x = 116 then 0 else if x = 115 then 1 else if x = 100 then 2 else 3)
def nmV (us x : Nat) : Int32 := if nmJ us x < 3 then nI (nmJ us x) else -(nI 1)
theorem nm_x : ∀ us, us < 2 → ∀ x, x < 256 → F_J0_indexOf_0f7a4 us (((nI x).toUInt32 % 65536).toInt32) = some (nmV us x) := by decide +kernel
theorem nm_m : ∀ us, us < 2 → ∀ x, x < 256 → F_X8_nameOf (nI us) (nI x) = some (nmV us x) := by decide +kernel
theorem nm_m1 : ∀ us, us < 2 → F_X8_nameOf (nI us) (-(nI 1)) = some (nmV us 0) := by decide +kernel
theorem nm_dig : ∀ us, us < 2 → ∀ x, x < 256 → nmJ us x < 3 → ¬ (48 ≤ x ∧ x ≤ 57) ∧ x ≠ 0 := by decide +kernel
theorem neg1_ne : ∀ ch, ch < 256 → ¬ -(nI 1) = nI ch := by decide +kernel
theorem getD_lt {l : List Nat} {i : Nat} (hi : i < l.length) : l.getD i 0 = l[i] := by
  rw [List.getD_eq_getElem?_getD, List.getElem?_eq_getElem hi]
  rfl
section
variable {n p c : Nat} {tf row : Nat → Int32} {b : Nat → Nat} {cf act wth : Nat → Int32}
theorem Tp.lt (h : Tp n tf row b) (h0 : b p ≠ 0) : p < n := by
  obtain ⟨hn, h6, hb, hz, ht⟩ := h
  rcases Nat.lt_or_ge p n with h1 | h1
  · exact h1
  · exact absurd (hz p h1) h0
theorem tp_next (h : Tp n tf row b) (hp : p ≤ n) : F_X0_next (nI p) (nI n) tf = some (nI (b p)) := by
  obtain ⟨hn, h6, hb, h0, ht⟩ := h
  unfold F_X0_next
  by_cases hq : p < n
  · rw [x_get tf hq hn (by omega), bd_some, (ht p hq).1]
  · have e : p = n := by omega
    subst e
    unfold F_X1_get
    rw [h0 p (by omega)]
    simp (disch := omega) only [l0, l1, l2, l3, l4, l5, l6, l7, l8, l9, l10, l11, l12, l13, l14, l15, l16, l17, l18, l19, l20, l21, l22, l23, l24, l25, l26, l27, l28, l29, l30, l32, l33, l37, l38, l40, l41, l42, l43, l45, l47, l48, l57, l58, l60, l61, l62, l63, l64, l69, l70, l74, l88, l91, l96, l97, l98, l99, l100, l102, l115, l116, l121, l124, l134, l158, l279, l255, l400, l728, l729, l9999, l99999, l12345, l1103515245, l1000000000, l1000000001, l1000000002, l1000000003, l1000000004, l1000000005, l1000000006, pk_us, nI_add, pk_mul, pk_sub, pk_div, nI_clamp, nI_ltI, nI_leI, nI_eq, bd_some, Nat.not_lt_zero, false_or, or_false, true_or, or_true, if_pos, if_neg, ite_true, ite_false, if_true, if_false, Nat.add_zero]
theorem tp_take {ch : Nat} (h : Tp n tf row b) (hp : p ≤ n) (hit : b p = ch) : F_X0_takes (nI p) (nI 0) (nI n) tf (nI ch) = some (nI 1, nI (p + 1)) := by
  unfold F_X0_takes
  simp only [l0, l1, l2, l3, l4, l5, l6, l7, l8, l9, l10, l11, l12, l13, l14, l15, l16, l17, l18, l19, l20, l21, l22, l23, l24, l25, l26, l27, l28, l29, l30, l32, l33, l37, l38, l40, l41, l42, l43, l45, l47, l48, l57, l58, l60, l61, l62, l63, l64, l69, l70, l74, l88, l91, l96, l97, l98, l99, l100, l102, l115, l116, l121, l124, l134, l158, l279, l255, l400, l728, l729, l9999, l99999, l12345, l1103515245, l1000000000, l1000000001, l1000000002, l1000000003, l1000000004, l1000000005, l1000000006]
  rw [if_pos True.intro, tp_next h hp, bd_some, if_pos (by rw [hit]), nI_add]
theorem tp_miss {ch : Nat} (h : Tp n tf row b) (hp : p ≤ n) (hc : ch < 256) (hit : ¬ b p = ch) : F_X0_takes (nI p) (nI 0) (nI n) tf (nI ch) = some (nI 0, nI p) := by
  have hb := h.2.2.1 p
  unfold F_X0_takes
  simp only [l0, l1, l2, l3, l4, l5, l6, l7, l8, l9, l10, l11, l12, l13, l14, l15, l16, l17, l18, l19, l20, l21, l22, l23, l24, l25, l26, l27, l28, l29, l30, l32, l33, l37, l38, l40, l41, l42, l43, l45, l47, l48, l57, l58, l60, l61, l62, l63, l64, l69, l70, l74, l88, l91, l96, l97, l98, l99, l100, l102, l115, l116, l121, l124, l134, l158, l279, l255, l400, l728, l729, l9999, l99999, l12345, l1103515245, l1000000000, l1000000001, l1000000002, l1000000003, l1000000004, l1000000005, l1000000006]
  rw [if_pos True.intro, tp_next h hp, bd_some, if_neg (fun e => hit ((nI_eq (by omega) (by omega)).mp e))]
theorem tp_flt {r m : Int32} {ch : Int32} : F_X0_takes r (nI 1) m tf ch = some (nI 0, r) := by
  unfold F_X0_takes
  simp only [l0, l1, l2, l3, l4, l5, l6, l7, l8, l9, l10, l11, l12, l13, l14, l15, l16, l17, l18, l19, l20, l21, l22, l23, l24, l25, l26, l27, l28, l29, l30, l32, l33, l37, l38, l40, l41, l42, l43, l45, l47, l48, l57, l58, l60, l61, l62, l63, l64, l69, l70, l74, l88, l91, l96, l97, l98, l99, l100, l102, l115, l116, l121, l124, l134, l158, l279, l255, l400, l728, l729, l9999, l99999, l12345, l1103515245, l1000000000, l1000000001, l1000000002, l1000000003, l1000000004, l1000000005, l1000000006]
  rw [if_neg (by decide)]
theorem tp_dig (h : Tp n tf row b) (hp : p ≤ n) : F_X0_isDigit (nI p) (nI n) tf = some (nI (if (48 ≤ b p ∧ b p ≤ 57) then 1 else 0)) := by
  have hb := h.2.2.1 p
  unfold F_X0_isDigit
  simp only [l0, l1, l2, l3, l4, l5, l6, l7, l8, l9, l10, l11, l12, l13, l14, l15, l16, l17, l18, l19, l20, l21, l22, l23, l24, l25, l26, l27, l28, l29, l30, l32, l33, l37, l38, l40, l41, l42, l43, l45, l47, l48, l57, l58, l60, l61, l62, l63, l64, l69, l70, l74, l88, l91, l96, l97, l98, l99, l100, l102, l115, l116, l121, l124, l134, l158, l279, l255, l400, l728, l729, l9999, l99999, l12345, l1103515245, l1000000000, l1000000001, l1000000002, l1000000003, l1000000004, l1000000005, l1000000006]
  rw [tp_next h hp, bd_some, bd_some]
  by_cases h1 : b p < 48
  · rw [if_pos (nI_lt h1 (by omega)), if_neg (by omega)]
  · rw [if_neg (nI_nlt (by omega) (by omega))]
    by_cases h2 : 57 < b p
    · rw [if_pos (nI_lt h2 (by omega)), if_neg (by omega)]
    · rw [if_neg (nI_nlt (by omega) (by omega)), if_pos (by omega)]
theorem tp_look {us : Nat} (h : Tp n tf row b) (hp : p ≤ n) (hu : us < 2) : ∃ v, F_X8_look (nI p) row = some v ∧ (∀ ch, 1 ≤ ch → ch < 256 → (v = nI ch ↔ b p = ch)) ∧ F_X8_in v (nI 48) (nI 57) = some (nI (if (48 ≤ b p ∧ b p ≤ 57) then 1 else 0)) ∧ (b p ≠ 0 → v = nI (b p)) ∧ F_X8_nameOf (nI us) v = some (nmV us (b p)) := by
  obtain ⟨hn, h6, hb, h0, ht⟩ := h
  have hbp := hb p
  by_cases hq : p < n
  · refine ⟨nI (b p), ?_, fun ch h1 h2 => nI_eq (by omega) (by omega), ?_, fun _ => rfl, nm_m us hu _ hbp⟩
    · unfold F_X8_look
      simp (disch := omega) only [l0, l1, l2, l3, l4, l5, l6, l7, l8, l9, l10, l11, l12, l13, l14, l15, l16, l17, l18, l19, l20, l21, l22, l23, l24, l25, l26, l27, l28, l29, l30, l32, l33, l37, l38, l40, l41, l42, l43, l45, l47, l48, l57, l58, l60, l61, l62, l63, l64, l69, l70, l74, l88, l91, l96, l97, l98, l99, l100, l102, l115, l116, l121, l124, l134, l158, l279, l255, l400, l728, l729, l9999, l99999, l12345, l1103515245, l1000000000, l1000000001, l1000000002, l1000000003, l1000000004, l1000000005, l1000000006, pk_us, nI_add, pk_mul, pk_sub, pk_div, nI_clamp, nI_ltI, nI_leI, nI_eq, bd_some, Nat.not_lt_zero, false_or, or_false, true_or, or_true, if_pos, if_neg, ite_true, ite_false, if_true, if_false, Nat.add_zero, h6]
      rw [(ht p hq).2]
    · unfold F_X8_in
      by_cases h1 : b p < 48
      · rw [if_pos (nI_lt h1 (by omega)), if_neg (by omega)]
        rfl
      · rw [if_neg (nI_nlt (by omega) (by omega))]
        by_cases h2 : 57 < b p
        · rw [if_pos (nI_lt h2 (by omega)), if_neg (by omega)]
          rfl
        · rw [if_neg (nI_nlt (by omega) (by omega)), if_pos (by omega)]
          rfl
  · have e0 : b p = 0 := h0 p (by omega)
    refine ⟨-(nI 1), ?_, fun ch h1 h2 => ⟨fun e => absurd e (neg1_ne ch h2), fun e => absurd e (by omega)⟩, ?_, fun e => absurd e0 e, ?_⟩
    · unfold F_X8_look
      simp (disch := omega) only [l0, l1, l2, l3, l4, l5, l6, l7, l8, l9, l10, l11, l12, l13, l14, l15, l16, l17, l18, l19, l20, l21, l22, l23, l24, l25, l26, l27, l28, l29, l30, l32, l33, l37, l38, l40, l41, l42, l43, l45, l47, l48, l57, l58, l60, l61, l62, l63, l64, l69, l70, l74, l88, l91, l96, l97, l98, l99, l100, l102, l115, l116, l121, l124, l134, l158, l279, l255, l400, l728, l729, l9999, l99999, l12345, l1103515245, l1000000000, l1000000001, l1000000002, l1000000003, l1000000004, l1000000005, l1000000006, pk_us, nI_add, pk_mul, pk_sub, pk_div, nI_clamp, nI_ltI, nI_leI, nI_eq, bd_some, Nat.not_lt_zero, false_or, or_false, true_or, or_true, if_pos, if_neg, ite_true, ite_false, if_true, if_false, Nat.add_zero, h6]
    · rw [e0]
      decide +kernel
    · rw [e0]
      exact nm_m1 us hu
theorem tp_to {ks : Nat} {l : List Nat} (h : Tp n tf row b) (hp : p ≤ n) (hl : F_J0_length_8abf5 ks = some (nI l.length)) (hll : l.length < 900) (hch : ∀ i, i < l.length → F_J0_charAt_5068e ks (nI i) = some (nI (l.getD i 0))) (hb : ∀ x, x ∈ l → x < 256) : F_X0_takesOneOf (nI p) (nI 0) (nI n) tf ks = some (if b p ∈ l then (nI (b p), nI (p + 1)) else (nI 0, nI p)) := by
  unfold F_X0_takesOneOf
  simp only [l0, l1, l2, l3, l4, l5, l6, l7, l8, l9, l10, l11, l12, l13, l14, l15, l16, l17, l18, l19, l20, l21, l22, l23, l24, l25, l26, l27, l28, l29, l30, l32, l33, l37, l38, l40, l41, l42, l43, l45, l47, l48, l57, l58, l60, l61, l62, l63, l64, l69, l70, l74, l88, l91, l96, l97, l98, l99, l100, l102, l115, l116, l121, l124, l134, l158, l279, l255, l400, l728, l729, l9999, l99999, l12345, l1103515245, l1000000000, l1000000001, l1000000002, l1000000003, l1000000004, l1000000005, l1000000006]
  refine lp_go (fun j s => s = (nI j, nI p) ∧ ∀ i, i < j → l.getD i 0 ≠ b p) (fun o => o = some (if b p ∈ l then (nI (b p), nI (p + 1)) else (nI 0, nI p))) l.length (by omega) ⟨rfl, fun i hi => absurd hi (Nat.not_lt_zero i)⟩ ?_ ?_
  · rintro j s hj ⟨rfl, hm⟩
    have hc : l.getD j 0 ∈ l := by
      rw [getD_lt hj]
      exact List.getElem_mem hj
    by_cases hq : l.getD j 0 = b p
    · left
      intro k
      unfold B_X0_takesOneOf_2
      simp only [l0, l1, l2, l3, l4, l5, l6, l7, l8, l9, l10, l11, l12, l13, l14, l15, l16, l17, l18, l19, l20, l21, l22, l23, l24, l25, l26, l27, l28, l29, l30, l32, l33, l37, l38, l40, l41, l42, l43, l45, l47, l48, l57, l58, l60, l61, l62, l63, l64, l69, l70, l74, l88, l91, l96, l97, l98, l99, l100, l102, l115, l116, l121, l124, l134, l158, l279, l255, l400, l728, l729, l9999, l99999, l12345, l1103515245, l1000000000, l1000000001, l1000000002, l1000000003, l1000000004, l1000000005, l1000000006]
      rw [hl, bd_some, if_neg (nI_ge hj (by omega)), hch j hj, bd_some, tp_take h hp hq.symm, bd_some, if_neg (show ¬ nI 1 = nI 0 by decide), bd_some, hq, if_pos (hq ▸ hc)]
    · refine Or.inr ⟨(nI (j + 1), nI p), ⟨rfl, fun i hi => ?_⟩, fun k => ?_⟩
      · rcases (show i < j ∨ i = j by omega) with h1 | rfl
        · exact hm i h1
        · exact hq
      · unfold B_X0_takesOneOf_2
        simp only [l0, l1, l2, l3, l4, l5, l6, l7, l8, l9, l10, l11, l12, l13, l14, l15, l16, l17, l18, l19, l20, l21, l22, l23, l24, l25, l26, l27, l28, l29, l30, l32, l33, l37, l38, l40, l41, l42, l43, l45, l47, l48, l57, l58, l60, l61, l62, l63, l64, l69, l70, l74, l88, l91, l96, l97, l98, l99, l100, l102, l115, l116, l121, l124, l134, l158, l279, l255, l400, l728, l729, l9999, l99999, l12345, l1103515245, l1000000000, l1000000001, l1000000002, l1000000003, l1000000004, l1000000005, l1000000006]
        rw [hl, bd_some, if_neg (nI_ge hj (by omega)), hch j hj, bd_some, tp_miss h hp (hb _ hc) (fun e => hq e.symm), bd_some, if_pos rfl, nI_add]
  · rintro s ⟨rfl, hm⟩ k
    unfold B_X0_takesOneOf_2
    simp only [l0, l1, l2, l3, l4, l5, l6, l7, l8, l9, l10, l11, l12, l13, l14, l15, l16, l17, l18, l19, l20, l21, l22, l23, l24, l25, l26, l27, l28, l29, l30, l32, l33, l37, l38, l40, l41, l42, l43, l45, l47, l48, l57, l58, l60, l61, l62, l63, l64, l69, l70, l74, l88, l91, l96, l97, l98, l99, l100, l102, l115, l116, l121, l124, l134, l158, l279, l255, l400, l728, l729, l9999, l99999, l12345, l1103515245, l1000000000, l1000000001, l1000000002, l1000000003, l1000000004, l1000000005, l1000000006]
    rw [hl, bd_some, if_pos (nI_le (Nat.le_refl _) (by omega)), if_neg]
    intro hx
    obtain ⟨i, hi, e⟩ := List.getElem_of_mem hx
    exact hm i hi (by rw [getD_lt hi, e])
theorem tp_tof {ks : Nat} {l : List Nat} {r m : Int32} (hl : F_J0_length_8abf5 ks = some (nI l.length)) (hll : l.length < 900) (hch : ∀ i, i < l.length → F_J0_charAt_5068e ks (nI i) = some (nI (l.getD i 0))) : F_X0_takesOneOf r (nI 1) m tf ks = some (nI 0, r) := by
  unfold F_X0_takesOneOf
  simp only [l0, l1, l2, l3, l4, l5, l6, l7, l8, l9, l10, l11, l12, l13, l14, l15, l16, l17, l18, l19, l20, l21, l22, l23, l24, l25, l26, l27, l28, l29, l30, l32, l33, l37, l38, l40, l41, l42, l43, l45, l47, l48, l57, l58, l60, l61, l62, l63, l64, l69, l70, l74, l88, l91, l96, l97, l98, l99, l100, l102, l115, l116, l121, l124, l134, l158, l279, l255, l400, l728, l729, l9999, l99999, l12345, l1103515245, l1000000000, l1000000001, l1000000002, l1000000003, l1000000004, l1000000005, l1000000006]
  refine lp_det (fun j => (nI j, r)) _ l.length (by omega) ?_ ?_
  · intro j hj k
    unfold B_X0_takesOneOf_2
    simp only [l0, l1, l2, l3, l4, l5, l6, l7, l8, l9, l10, l11, l12, l13, l14, l15, l16, l17, l18, l19, l20, l21, l22, l23, l24, l25, l26, l27, l28, l29, l30, l32, l33, l37, l38, l40, l41, l42, l43, l45, l47, l48, l57, l58, l60, l61, l62, l63, l64, l69, l70, l74, l88, l91, l96, l97, l98, l99, l100, l102, l115, l116, l121, l124, l134, l158, l279, l255, l400, l728, l729, l9999, l99999, l12345, l1103515245, l1000000000, l1000000001, l1000000002, l1000000003, l1000000004, l1000000005, l1000000006]
    rw [hl, bd_some, if_neg (nI_ge hj (by omega)), hch j hj, bd_some, tp_flt, bd_some, if_pos rfl, nI_add]
  · intro k
    unfold B_X0_takesOneOf_2
    simp only [l0, l1, l2, l3, l4, l5, l6, l7, l8, l9, l10, l11, l12, l13, l14, l15, l16, l17, l18, l19, l20, l21, l22, l23, l24, l25, l26, l27, l28, l29, l30, l32, l33, l37, l38, l40, l41, l42, l43, l45, l47, l48, l57, l58, l60, l61, l62, l63, l64, l69, l70, l74, l88, l91, l96, l97, l98, l99, l100, l102, l115, l116, l121, l124, l134, l158, l279, l255, l400, l728, l729, l9999, l99999, l12345, l1103515245, l1000000000, l1000000001, l1000000002, l1000000003, l1000000004, l1000000005, l1000000006]
    rw [hl, bd_some, if_pos (nI_le (Nat.le_refl _) (by omega))]
theorem m_lays {w v : Int32} (hc : c < 60) : F_X8_lays (nI c) act wth w v = some (nI (c + 1), upd act c w, upd wth c v) := by
  unfold F_X8_lays
  simp (disch := omega) only [l0, l1, l2, l3, l4, l5, l6, l7, l8, l9, l10, l11, l12, l13, l14, l15, l16, l17, l18, l19, l20, l21, l22, l23, l24, l25, l26, l27, l28, l29, l30, l32, l33, l37, l38, l40, l41, l42, l43, l45, l47, l48, l57, l58, l60, l61, l62, l63, l64, l69, l70, l74, l88, l91, l96, l97, l98, l99, l100, l102, l115, l116, l121, l124, l134, l158, l279, l255, l400, l728, l729, l9999, l99999, l12345, l1103515245, l1000000000, l1000000001, l1000000002, l1000000003, l1000000004, l1000000005, l1000000006, pk_us, nI_add, pk_mul, pk_sub, pk_div, nI_clamp, nI_ltI, nI_leI, nI_eq, bd_some, Nat.not_lt_zero, false_or, or_false, true_or, or_true, if_pos, if_neg, ite_true, ite_false, if_true, if_false, Nat.add_zero]
theorem m_laysB {w v : Int32} (hc : c ≤ 60) : ∃ (c' : Nat) (a' w' : Nat → Int32), c' ≤ 60 ∧ F_X8_lays (nI c) act wth w v = some (nI c', a', w') := by
  rcases (show c < 60 ∨ c = 60 by omega) with h | rfl
  · exact ⟨c + 1, _, _, by omega, m_lays h⟩
  · refine ⟨60, act, wth, by omega, ?_⟩
    unfold F_X8_lays
    simp (disch := omega) only [l0, l1, l2, l3, l4, l5, l6, l7, l8, l9, l10, l11, l12, l13, l14, l15, l16, l17, l18, l19, l20, l21, l22, l23, l24, l25, l26, l27, l28, l29, l30, l32, l33, l37, l38, l40, l41, l42, l43, l45, l47, l48, l57, l58, l60, l61, l62, l63, l64, l69, l70, l74, l88, l91, l96, l97, l98, l99, l100, l102, l115, l116, l121, l124, l134, l158, l279, l255, l400, l728, l729, l9999, l99999, l12345, l1103515245, l1000000000, l1000000001, l1000000002, l1000000003, l1000000004, l1000000005, l1000000006, pk_us, nI_add, pk_mul, pk_sub, pk_div, nI_clamp, nI_ltI, nI_leI, nI_eq, bd_some, Nat.not_lt_zero, false_or, or_false, true_or, or_true, if_pos, if_neg, ite_true, ite_false, if_true, if_false, Nat.add_zero]
theorem x_addB {v : Int32} (hc : c ≤ 60) : ∃ (c' : Nat) (f' : Nat → Int32), c' ≤ 60 ∧ F_X1_add 60 (nI c) cf v = some (nI c', f') := by
  rcases (show c < 60 ∨ c = 60 by omega) with h | rfl
  · exact ⟨c + 1, _, by omega, x_add cf v h (by omega)⟩
  · refine ⟨60, cf, by omega, ?_⟩
    unfold F_X1_add
    simp (disch := omega) only [l0, l1, l2, l3, l4, l5, l6, l7, l8, l9, l10, l11, l12, l13, l14, l15, l16, l17, l18, l19, l20, l21, l22, l23, l24, l25, l26, l27, l28, l29, l30, l32, l33, l37, l38, l40, l41, l42, l43, l45, l47, l48, l57, l58, l60, l61, l62, l63, l64, l69, l70, l74, l88, l91, l96, l97, l98, l99, l100, l102, l115, l116, l121, l124, l134, l158, l279, l255, l400, l728, l729, l9999, l99999, l12345, l1103515245, l1000000000, l1000000001, l1000000002, l1000000003, l1000000004, l1000000005, l1000000006, pk_us, nI_add, pk_mul, pk_sub, pk_div, nI_clamp, nI_ltI, nI_leI, nI_eq, bd_some, Nat.not_lt_zero, false_or, or_false, true_or, or_true, if_pos, if_neg, ite_true, ite_false, if_true, if_false, Nat.add_zero]
theorem num_both (h : Tp n tf row b) (hp : p ≤ n) (hc : c < 60) (hd : (48 ≤ b p ∧ b p ≤ 57)) : ∃ (p' v : Nat), p + 1 ≤ p' ∧ p' ≤ n ∧ v ≤ 9999 ∧ F_X0_readNumber (nI p) (nI n) tf (nI c) cf = some (nI p', nI (c + 1), upd cf c (nI v)) ∧ F_X8_number (nI c) (nI p) row act wth = some (nI (c + 1), nI p', nI 0, upd act c (nI 1), upd wth c (nI v)) := by
  have hn := h.1
  unfold F_X0_readNumber F_X8_number
  simp only [l0, l1, l2, l3, l4, l5, l6, l7, l8, l9, l10, l11, l12, l13, l14, l15, l16, l17, l18, l19, l20, l21, l22, l23, l24, l25, l26, l27, l28, l29, l30, l32, l33, l37, l38, l40, l41, l42, l43, l45, l47, l48, l57, l58, l60, l61, l62, l63, l64, l69, l70, l74, l88, l91, l96, l97, l98, l99, l100, l102, l115, l116, l121, l124, l134, l158, l279, l255, l400, l728, l729, l9999, l99999, l12345, l1103515245, l1000000000, l1000000001, l1000000002, l1000000003, l1000000004, l1000000005, l1000000006]
  have fin : ∀ (j v : Nat), j ≤ 4 → 0 < j → p + j ≤ n → v < 10 ^ j → ∃ (p' v' : Nat), p + 1 ≤ p' ∧ p' ≤ n ∧ v' ≤ 9999 ∧ bd (F_X1_add 60 (nI c) cf (nI v)) (fun (u1 : (Int32 × (Nat → Int32))) => some (nI (p + j), u1.1, u1.2)) = some (nI p', nI (c + 1), upd cf c (nI v')) ∧ bd (F_X8_lays (nI c) act wth (nI 1) (nI v)) (fun (u1 : (Int32 × (Nat → Int32) × (Nat → Int32))) => some (u1.1, nI (p + j), nI 0, u1.2.1, u1.2.2)) = some (nI (c + 1), nI p', nI 0, upd act c (nI 1), upd wth c (nI v')) := by
    intro j v h1 h2 h3 h4
    have h5 : 10 ^ j ≤ 10 ^ 4 := Nat.pow_le_pow_right (by omega) h1
    refine ⟨p + j, v, by omega, h3, by omega, ?_, ?_⟩
    · rw [x_add cf (nI v) hc (by omega), bd_some]
    · rw [m_lays hc, bd_some]
  refine lp_two (body := B_X0_readNumber_4 (nI n) tf (nI c) cf) (body' := B_X8_number_4 (nI c) row act wth) (fun j (s t : Int32 × Int32 × Int32) => ∃ v : Nat, v < 10 ^ j ∧ p + j ≤ n ∧ s = (nI v, nI j, nI (p + j)) ∧ t = (nI v, nI j, nI (p + j))) (fun o o' => ∃ (p' v : Nat), p + 1 ≤ p' ∧ p' ≤ n ∧ v ≤ 9999 ∧ o = some (nI p', nI (c + 1), upd cf c (nI v)) ∧ o' = some (nI (c + 1), nI p', nI 0, upd act c (nI 1), upd wth c (nI v))) 4 (by omega) ⟨0, by omega, by omega, rfl, rfl⟩ ?_ ?_
  · rintro j s t hj ⟨v, hv, hpj, rfl, rfl⟩
    have hbj := h.2.2.1 (p + j)
    obtain ⟨w, w1, w2, w3, w4, w5⟩ := tp_look (us := 0) h hpj (by omega)
    have h5 : 10 ^ j ≤ 10 ^ 4 := Nat.pow_le_pow_right (by omega) (by omega)
    have h6 : 10 ^ (j + 1) = 10 ^ j * 10 := Nat.pow_succ ..
    by_cases hq : (48 ≤ b (p + j) ∧ b (p + j) ≤ 57)
    · have hlt : p + j < n := h.lt (fun e => by rw [e] at hq; exact absurd hq (by decide))
      rw [if_pos hq] at w3
      have w6 := w4 (fun e => by rw [e] at hq; exact absurd hq (by decide))
      refine Or.inr ⟨(nI (10 * v + b (p + j) - 48), nI (j + 1), nI (p + (j + 1))), (nI (10 * v + b (p + j) - 48), nI (j + 1), nI (p + (j + 1))), ⟨10 * v + b (p + j) - 48, by omega, by omega, rfl, rfl⟩, fun k => ?_, fun k => ?_⟩
      · unfold B_X0_readNumber_4
        simp only [l0, l1, l2, l3, l4, l5, l6, l7, l8, l9, l10, l11, l12, l13, l14, l15, l16, l17, l18, l19, l20, l21, l22, l23, l24, l25, l26, l27, l28, l29, l30, l32, l33, l37, l38, l40, l41, l42, l43, l45, l47, l48, l57, l58, l60, l61, l62, l63, l64, l69, l70, l74, l88, l91, l96, l97, l98, l99, l100, l102, l115, l116, l121, l124, l134, l158, l279, l255, l400, l728, l729, l9999, l99999, l12345, l1103515245, l1000000000, l1000000001, l1000000002, l1000000003, l1000000004, l1000000005, l1000000006]
        rw [if_neg (nI_ge hj (by omega)), tp_dig h hpj, if_pos hq, bd_some, if_neg (show ¬ nI 1 = nI 0 by decide), tp_next h hpj, bd_some, pk_mul, nI_add, nI_add, nI_add, pk_sub (by omega), Nat.add_assoc]
      · unfold B_X8_number_4
        simp only [l0, l1, l2, l3, l4, l5, l6, l7, l8, l9, l10, l11, l12, l13, l14, l15, l16, l17, l18, l19, l20, l21, l22, l23, l24, l25, l26, l27, l28, l29, l30, l32, l33, l37, l38, l40, l41, l42, l43, l45, l47, l48, l57, l58, l60, l61, l62, l63, l64, l69, l70, l74, l88, l91, l96, l97, l98, l99, l100, l102, l115, l116, l121, l124, l134, l158, l279, l255, l400, l728, l729, l9999, l99999, l12345, l1103515245, l1000000000, l1000000001, l1000000002, l1000000003, l1000000004, l1000000005, l1000000006]
        rw [if_neg (nI_ge hj (by omega)), w1, bd_some, w3, bd_some, if_neg (show ¬ nI 1 = nI 0 by decide), bd_some, w6, pk_mul, nI_add, nI_add, nI_add, pk_sub (by omega), Nat.add_assoc]
    · have hj0 : 0 < j := by
        rcases Nat.eq_zero_or_pos j with rfl | h7
        · exact absurd hd hq
        · exact h7
      rw [if_neg hq] at w3
      left
      intro k k'
      have hf := fin j v (by omega) hj0 hpj hv
      unfold B_X0_readNumber_4 B_X8_number_4
      simp only [l0, l1, l2, l3, l4, l5, l6, l7, l8, l9, l10, l11, l12, l13, l14, l15, l16, l17, l18, l19, l20, l21, l22, l23, l24, l25, l26, l27, l28, l29, l30, l32, l33, l37, l38, l40, l41, l42, l43, l45, l47, l48, l57, l58, l60, l61, l62, l63, l64, l69, l70, l74, l88, l91, l96, l97, l98, l99, l100, l102, l115, l116, l121, l124, l134, l158, l279, l255, l400, l728, l729, l9999, l99999, l12345, l1103515245, l1000000000, l1000000001, l1000000002, l1000000003, l1000000004, l1000000005, l1000000006]
      rw [if_neg (nI_ge hj (by omega)), tp_dig h hpj, if_neg hq, bd_some, if_pos rfl, if_neg (nI_ge hj (by omega)), w1, bd_some, w3, bd_some, if_pos rfl, if_neg (show ¬ nI j = nI 0 from fun e => by rw [nI_eq (by omega) (by omega)] at e; omega)]
      exact hf
  · rintro s t ⟨v, hv, hpj, rfl, rfl⟩ k k'
    have hf := fin 4 v (by omega) (by omega) hpj hv
    unfold B_X0_readNumber_4 B_X8_number_4
    simp only [l0, l1, l2, l3, l4, l5, l6, l7, l8, l9, l10, l11, l12, l13, l14, l15, l16, l17, l18, l19, l20, l21, l22, l23, l24, l25, l26, l27, l28, l29, l30, l32, l33, l37, l38, l40, l41, l42, l43, l45, l47, l48, l57, l58, l60, l61, l62, l63, l64, l69, l70, l74, l88, l91, l96, l97, l98, l99, l100, l102, l115, l116, l121, l124, l134, l158, l279, l255, l400, l728, l729, l9999, l99999, l12345, l1103515245, l1000000000, l1000000001, l1000000002, l1000000003, l1000000004, l1000000005, l1000000006]
    rw [if_pos (nI_le (Nat.le_refl _) (by omega)), if_pos (nI_le (Nat.le_refl _) (by omega)), if_neg (show ¬ nI 4 = nI 0 by decide)]
    exact hf
theorem num_bad (h : Tp n tf row b) (hp : p ≤ n) (hc : c ≤ 60) (hd : ¬ (48 ≤ b p ∧ b p ≤ 57)) : ∃ (c' : Nat) (a' w' : Nat → Int32), c' ≤ 60 ∧ F_X8_number (nI c) (nI p) row act wth = some (nI c', nI p, nI 1, a', w') := by
  obtain ⟨w, w1, w2, w3, w4, w5⟩ := tp_look (us := 0) h hp (by omega)
  rw [if_neg hd] at w3
  obtain ⟨c', a', w', e1, e2⟩ := m_laysB (act := act) (wth := wth) (w := nI 1) (v := nI 0) hc
  refine ⟨c', a', w', e1, ?_⟩
  unfold F_X8_number
  rw [lp_one]
  unfold B_X8_number_4
  simp only [l0, l1, l2, l3, l4, l5, l6, l7, l8, l9, l10, l11, l12, l13, l14, l15, l16, l17, l18, l19, l20, l21, l22, l23, l24, l25, l26, l27, l28, l29, l30, l32, l33, l37, l38, l40, l41, l42, l43, l45, l47, l48, l57, l58, l60, l61, l62, l63, l64, l69, l70, l74, l88, l91, l96, l97, l98, l99, l100, l102, l115, l116, l121, l124, l134, l158, l279, l255, l400, l728, l729, l9999, l99999, l12345, l1103515245, l1000000000, l1000000001, l1000000002, l1000000003, l1000000004, l1000000005, l1000000006]
  rw [if_neg (nI_ge (by omega) (by omega)), w1, bd_some, w3, bd_some, if_pos rfl, if_pos True.intro, e2, bd_some]
/-- the codes so far: c of them, depth D -/
def CR (cf act wth : Nat → Int32) (c D : Nat) : Prop := D ≤ c ∧ (∀ k, k < c → IvK (cf k) (act k) (wth k)) ∧ ∃ d : Nat → Nat, d 0 = 0 ∧ d c = D ∧ ∀ k, k < c → d k ≤ k ∧ ((act k = nI 1 ∨ act k = nI 2) → d (k + 1) = d k + 1) ∧ (act k = nI 3 → 1 ≤ d k ∧ d (k + 1) = d k) ∧ (¬ (act k = nI 1 ∨ act k = nI 2 ∨ act k = nI 3) → 2 ≤ d k ∧ d (k + 1) + 1 = d k)
theorem CR.ext {D D' : Nat} {v a w : Int32} (h : CR cf act wth c D) (hk : IvK v a w) (hD : D' ≤ c + 1) (h1 : (a = nI 1 ∨ a = nI 2) → D' = D + 1) (h2 : a = nI 3 → 1 ≤ D ∧ D' = D) (h3 : ¬ (a = nI 1 ∨ a = nI 2 ∨ a = nI 3) → 2 ≤ D ∧ D' + 1 = D) : CR (upd cf c v) (upd act c a) (upd wth c w) (c + 1) D' := by
  obtain ⟨q0, q1, d, d0, d1, d2⟩ := h
  refine ⟨hD, fun k hk2 => ?_, fun k => if k ≤ c then d k else D', ?_, ?_, fun k hk2 => ?_⟩
  · rcases (show k < c ∨ k = c by omega) with h | rfl
    · rw [pk_un (by omega), pk_un (by omega), pk_un (by omega)]
      exact q1 k h
    · rw [pk_us, pk_us, pk_us]
      exact hk
  · show (if 0 ≤ c then d 0 else D') = 0
    rw [if_pos (by omega), d0]
  · show (if c + 1 ≤ c then d (c + 1) else D') = D'
    rw [if_neg (by omega)]
  · show (if k ≤ c then d k else D') ≤ k ∧ (_ → (if k + 1 ≤ c then d (k + 1) else D') = (if k ≤ c then d k else D') + 1) ∧ (_ → 1 ≤ (if k ≤ c then d k else D') ∧ (if k + 1 ≤ c then d (k + 1) else D') = (if k ≤ c then d k else D')) ∧ (_ → 2 ≤ (if k ≤ c then d k else D') ∧ (if k + 1 ≤ c then d (k + 1) else D') + 1 = (if k ≤ c then d k else D'))
    rw [if_pos (show k ≤ c by omega)]
    rcases (show k < c ∨ k = c by omega) with h | rfl
    · rw [if_pos (show k + 1 ≤ c by omega), pk_un (show k ≠ c by omega)]
      exact d2 k h
    · rw [if_neg (by omega), pk_us, d1]
      exact ⟨q0, h1, h2, h3⟩
theorem CR.num {D v : Nat} (h : CR cf act wth c D) (hv : v ≤ 9999) : CR (upd cf c (nI v)) (upd act c (nI 1)) (upd wth c (nI v)) (c + 1) (D + 1) :=
  h.ext (Or.inl ⟨v, hv, rfl, rfl, rfl⟩) (by have := h.1; omega) (fun _ => rfl) (fun e => absurd e (by decide)) (fun e => absurd (Or.inl rfl) e)
theorem CR.nam {D j : Nat} (h : CR cf act wth c D) (hj : j < 3) : CR (upd cf c (-(nI (j + 1)))) (upd act c (nI 2)) (upd wth c (nI j)) (c + 1) (D + 1) :=
  h.ext (Or.inr (Or.inl ⟨j, hj, rfl, rfl, rfl⟩)) (by have := h.1; omega) (fun _ => rfl) (fun e => absurd e (by decide)) (fun e => absurd (Or.inr (Or.inl rfl)) e)
theorem CR.deny {D : Nat} {w : Int32} (h : CR cf act wth c (D + 1)) : CR (upd cf c (-(nI 33))) (upd act c (nI 3)) (upd wth c w) (c + 1) (D + 1) :=
  h.ext (Or.inr (Or.inr (Or.inl ⟨rfl, rfl⟩))) (by have := h.1; omega) (fun e => absurd e (by decide)) (fun _ => ⟨by omega, rfl⟩) (fun e => absurd (Or.inr (Or.inr rfl)) e)
theorem CR.op {D o : Nat} {w : Int32} (h : CR cf act wth c (D + 1 + 1)) (ho : o ∈ opsL) : CR (upd cf c (-(nI o))) (upd act c (nI o)) (upd wth c w) (c + 1) (D + 1) :=
  h.ext (Or.inr (Or.inr (Or.inr ⟨o, ho, rfl, rfl⟩))) (by have := h.1; omega) (fun e => absurd e (fun e => e.elim (ops_no o ho).1.1 (ops_no o ho).1.2.1)) (fun e => absurd e (ops_no o ho).1.2.2) (fun _ => ⟨by omega, by omega⟩)
end
