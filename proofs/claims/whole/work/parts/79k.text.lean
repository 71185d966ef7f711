/-! PURE: text -/
theorem IvC.cpy {a c : Nat} {cf t row : Nat → Int32} (h : IvC a (nI c) cf row) (hc : c ≤ 60) : IvC a (nI c) (va_cpy cf t 0 0 c) row := by
  obtain ⟨n, hn, e, r, hK, hD⟩ := h
  have e2 : c = n := (nI_eq (by omega) (by omega)).mp e
  subst e2
  refine ⟨c, hn, rfl, r, fun k hk => ?_, hD⟩
  rw [cpy_in hk]
  exact hK k hk
section
variable {c : Nat} {x_hasI : Int32} {x_imgs : Int32} {x_vow : Int32} {x_day : Int32} {x_worth : Int32} {x_z : Int32} {x_kinds_m : Int32} {x_kinds_f : Nat → Int32} {x_ms_m : Int32} {x_ms_f : Nat → Int32} {x_said_m : Int32} {x_said_f : Nat → Int32} {x_signs_m : Int32} {x_signs_f : Nat → Int32} {x_tape_m : Int32} {x_tape_f : Nat → Int32} {x_avo_m : Int32} {x_avo_f : Nat → Int32} {x_tal_m : Int32} {x_tal_f : Nat → Int32} {x_wai_m : Int32} {x_wai_f : Nat → Int32} {x_kp_vow : Int32} {x_kp_day : Int32} {x_kp_worth : Int32} {x_kp_z : Int32} {x_kp_kinds_m : Int32} {x_kp_kinds_f : Nat → Int32} {x_kp_ms_m : Int32} {x_kp_ms_f : Nat → Int32} {x_kp_said_m : Int32} {x_kp_said_f : Nat → Int32} {x_kp_signs_m : Int32} {x_kp_signs_f : Nat → Int32} {x_kp_tape_m : Int32} {x_kp_tape_f : Nat → Int32} {x_kp_avo_m : Int32} {x_kp_avo_f : Nat → Int32} {x_kp_tal_m : Int32} {x_kp_tal_f : Nat → Int32} {x_kp_wai_m : Int32} {x_kp_wai_f : Nat → Int32} {x_fitting : Int32} {x_spread_f : Nat → Int32} {x_breakers_f : Nat → Int64} {x_fit_f : Nat → Int32} {x_counted_f : Nat → Int32} {x_kk : Nat} {x_rat : Int32} {x_flt : Int32} {x_codes_m : Int32} {x_codes_f : Nat → Int32} {x_stack_m : Int32} {x_stack_f : Nat → Int32} {x_parted : Int32} {x_vkk : Int32} {x_vkd : Int32} {x_vmm : Int32} {x_trace_m : Int32} {x_trace_f : Nat → Int32} {x_er_f : Nat → Int32} {x_bits0 : Int32} {x_num0_m : Int32} {x_num0_f : Nat → Int32} {x_bits1 : Int32} {x_num1_m : Int32} {x_num1_f : Nat → Int32} {x_bits2 : Int32} {x_num2_m : Int32} {x_num2_f : Nat → Int32} {x_bits3 : Int32} {x_num3_m : Int32} {x_num3_f : Nat → Int32} {m_images : Int32} {m_mfit : Int32} {m_known : Int32} {m_laid : Int32} {m_hre : Int32} {m_opnd : Int32} {m_bad : Int32} {m_usg : Int32} {m_trcd : Int32} {m_isP : Int32} {m_row_f : Nat → Int32} {m_kpt_f : Nat → Int32} {m_errs_f : Nat → Int32} {m_bitsOf_f : Nat → Int32} {m_sizeOf_f : Nat → Int32} {m_cels_f : Nat → Int32} {m_broken_f : Nat → Int64} {m_isFit_f : Nat → Int32} {m_breaks_f : Nat → Int32} {m_act_f : Nat → Int32} {m_wth_f : Nat → Int32} {m_facts_f : Nat → Int32} {m_pile_f : Nat → Int32} {m_trc_f : Nat → Int32}
theorem k_text_0 (iS : IvS x_vow x_day x_worth x_z x_kinds_m x_kinds_f x_ms_m x_ms_f x_said_m x_said_f x_signs_m x_signs_f x_tape_m x_tape_f x_avo_m x_avo_f x_tal_m x_tal_f x_wai_m x_wai_f m_row_f) (iF : IvF m_row_f x_fitting x_fit_f x_counted_f m_mfit m_known m_isFit_f m_breaks_f) (iE : IvE x_er_f m_errs_f) : ∃ (u : (Int32 × Int32 × Int32 × (Nat → Int32) × Nat × Int32 × Int32 × Int32 × (Nat → Int32))) (w : (Int32 × Int32 × Int32 × Int32 × Int32 × Int32 × (Nat → Int32) × (Nat → Int32) × (Nat → Int32) × (Nat → Int32))), F_X7_text_0 x_tape_m x_tape_f x_avo_m x_avo_f x_codes_f = some u ∧ F_X8_text m_laid m_hre m_opnd m_bad m_usg m_row_f m_errs_f m_act_f m_wth_f (0 : Int32) = some w ∧ u.1 = w.1 ∧ IvS x_vow x_day x_worth x_z x_kinds_m x_kinds_f x_ms_m x_ms_f x_said_m x_said_f x_signs_m x_signs_f u.2.1 x_tape_f u.2.2.1 u.2.2.2.1 x_tal_m x_tal_f x_wai_m x_wai_f w.2.2.2.2.2.2.1 ∧ IvF w.2.2.2.2.2.2.1 x_fitting x_fit_f x_counted_f m_mfit m_known m_isFit_f m_breaks_f ∧ IvE x_er_f w.2.2.2.2.2.2.2.1 := by
  have hT := iS.2.2.2.1
  have hS1 : IvS x_vow x_day x_worth x_z x_kinds_m x_kinds_f x_ms_m x_ms_f x_said_m x_said_f x_signs_m x_signs_f (nI 0) x_tape_f x_avo_m x_avo_f x_tal_m x_tal_f x_wai_m x_wai_f (upd m_row_f 6 (nI 0)) := iS.stT ⟨0, by omega, rfl, pk_us, fun i hi => absurd hi (Nat.not_lt_zero i)⟩ (fun j h1 _ => pk_un h1)
  have hF1 : IvF (upd m_row_f 6 (nI 0)) x_fitting x_fit_f x_counted_f m_mfit m_known m_isFit_f m_breaks_f := iF.keep iS (pk_un (by omega)) (fun j _ _ => pk_un (by omega))
  rcases txt_end (us := 0) hT (by omega) x_codes_f m_errs_f m_act_f m_wth_f m_laid m_hre m_opnd m_bad m_usg with ⟨p, k2, r, f, cm, cf', w1, w2, w3, w4, w5, a', w', hp, eX, eM⟩ | ⟨c', k2, r, f, cf', w1, w2, w3, w4, w5, row', a', w', hc, eX, eM, hC, h6, hf⟩
  · refine ⟨(-(nI 10) - nI p, nI 0, x_avo_m, x_avo_f, k2, r, f, cm, cf'), (-(nI 10) - nI p, w1, w2, w3, w4, w5, upd m_row_f 6 (nI 0), m_errs_f, a', w'), ?_, ?_, rfl, hS1, hF1, iE⟩
    · unfold F_X7_text_0 F_X3_codesOf_0 F_X1_clear
      simp only [l0, l1, l2, l3, l4, l5, l6, l7, l8, l9, l10, l11, l12, l13, l14, l15, l16, l17, l18, l19, l20, l21, l22, l23, l24, l25, l26, l27, l28, l29, l30, l32, l33, l37, l38, l40, l41, l42, l43, l45, l47, l48, l57, l58, l60, l61, l62, l63, l64, l69, l70, l74, l88, l91, l96, l97, l98, l99, l100, l102, l115, l116, l121, l124, l134, l158, l279, l255, l400, l728, l729, l9999, l99999, l12345, l1103515245, l1000000000, l1000000001, l1000000002, l1000000003, l1000000004, l1000000005, l1000000006]
      rw [bd_some, eX, bd_some, bd_some]
      dsimp only
      rw [if_neg (nI_nlt (Nat.zero_le p) (by omega))]
    · simp only [l0, l1]
      exact eM
  · have g : ∀ j, (j < 158 ∨ 279 ≤ j) → row' j = upd m_row_f 6 (nI 0) j := by
      intro j hj
      by_cases e : j = 6
      · subst e
        rw [h6, pk_us]
      · rw [pk_un e]
        exact hf j e (by omega)
    have hF2 : IvF row' x_fitting x_fit_f x_counted_f m_mfit m_known m_isFit_f m_breaks_f := iF.keep iS (by rw [g 3 (by omega), pk_un (by omega)]) (fun j _ _ => by rw [g j (by omega), pk_un (by omega)])
    refine ⟨(nI 1, nI 0, nI c', va_cpy cf' x_avo_f 0 0 c', k2, r, f, nI c', cf'), (nI 1, w1, w2, w3, w4, w5, row', m_errs_f, a', w'), ?_, ?_, rfl, hS1.stC0 (hC.cpy hc) g, hF2, iE⟩
    · unfold F_X7_text_0 F_X3_codesOf_0 F_X1_clear
      simp only [l0, l1, l2, l3, l4, l5, l6, l7, l8, l9, l10, l11, l12, l13, l14, l15, l16, l17, l18, l19, l20, l21, l22, l23, l24, l25, l26, l27, l28, l29, l30, l32, l33, l37, l38, l40, l41, l42, l43, l45, l47, l48, l57, l58, l60, l61, l62, l63, l64, l69, l70, l74, l88, l91, l96, l97, l98, l99, l100, l102, l115, l116, l121, l124, l134, l158, l279, l255, l400, l728, l729, l9999, l99999, l12345, l1103515245, l1000000000, l1000000001, l1000000002, l1000000003, l1000000004, l1000000005, l1000000006]
      rw [bd_some, eX, bd_some, bd_some]
      dsimp only
      rw [if_pos (show -(nI 1) < nI 0 by decide), x_takeAll _ _ hc (by omega), bd_some]
    · simp only [l0, l1]
      exact eM
theorem k_text_1 (iS : IvS x_vow x_day x_worth x_z x_kinds_m x_kinds_f x_ms_m x_ms_f x_said_m x_said_f x_signs_m x_signs_f x_tape_m x_tape_f x_avo_m x_avo_f x_tal_m x_tal_f x_wai_m x_wai_f m_row_f) (iF : IvF m_row_f x_fitting x_fit_f x_counted_f m_mfit m_known m_isFit_f m_breaks_f) (iE : IvE x_er_f m_errs_f) : ∃ (u : (Int32 × Int32 × Int32 × (Nat → Int32) × Nat × Int32 × Int32 × Int32 × (Nat → Int32))) (w : (Int32 × Int32 × Int32 × Int32 × Int32 × Int32 × (Nat → Int32) × (Nat → Int32) × (Nat → Int32) × (Nat → Int32))), F_X7_text_1 x_tape_m x_tape_f x_tal_m x_tal_f x_codes_f = some u ∧ F_X8_text m_laid m_hre m_opnd m_bad m_usg m_row_f m_errs_f m_act_f m_wth_f (1 : Int32) = some w ∧ u.1 = w.1 ∧ IvS x_vow x_day x_worth x_z x_kinds_m x_kinds_f x_ms_m x_ms_f x_said_m x_said_f x_signs_m x_signs_f u.2.1 x_tape_f x_avo_m x_avo_f u.2.2.1 u.2.2.2.1 x_wai_m x_wai_f w.2.2.2.2.2.2.1 ∧ IvF w.2.2.2.2.2.2.1 x_fitting x_fit_f x_counted_f m_mfit m_known m_isFit_f m_breaks_f ∧ IvE x_er_f w.2.2.2.2.2.2.2.1 := by
  have hT := iS.2.2.2.1
  have hS1 : IvS x_vow x_day x_worth x_z x_kinds_m x_kinds_f x_ms_m x_ms_f x_said_m x_said_f x_signs_m x_signs_f (nI 0) x_tape_f x_avo_m x_avo_f x_tal_m x_tal_f x_wai_m x_wai_f (upd m_row_f 6 (nI 0)) := iS.stT ⟨0, by omega, rfl, pk_us, fun i hi => absurd hi (Nat.not_lt_zero i)⟩ (fun j h1 _ => pk_un h1)
  have hF1 : IvF (upd m_row_f 6 (nI 0)) x_fitting x_fit_f x_counted_f m_mfit m_known m_isFit_f m_breaks_f := iF.keep iS (pk_un (by omega)) (fun j _ _ => pk_un (by omega))
  rcases txt_end (us := 1) hT (by omega) x_codes_f m_errs_f m_act_f m_wth_f m_laid m_hre m_opnd m_bad m_usg with ⟨p, k2, r, f, cm, cf', w1, w2, w3, w4, w5, a', w', hp, eX, eM⟩ | ⟨c', k2, r, f, cf', w1, w2, w3, w4, w5, row', a', w', hc, eX, eM, hC, h6, hf⟩
  · refine ⟨(-(nI 10) - nI p, nI 0, x_tal_m, x_tal_f, k2, r, f, cm, cf'), (-(nI 10) - nI p, w1, w2, w3, w4, w5, upd m_row_f 6 (nI 0), m_errs_f, a', w'), ?_, ?_, rfl, hS1, hF1, iE⟩
    · unfold F_X7_text_1 F_X3_codesOf_1 F_X1_clear
      simp only [l0, l1, l2, l3, l4, l5, l6, l7, l8, l9, l10, l11, l12, l13, l14, l15, l16, l17, l18, l19, l20, l21, l22, l23, l24, l25, l26, l27, l28, l29, l30, l32, l33, l37, l38, l40, l41, l42, l43, l45, l47, l48, l57, l58, l60, l61, l62, l63, l64, l69, l70, l74, l88, l91, l96, l97, l98, l99, l100, l102, l115, l116, l121, l124, l134, l158, l279, l255, l400, l728, l729, l9999, l99999, l12345, l1103515245, l1000000000, l1000000001, l1000000002, l1000000003, l1000000004, l1000000005, l1000000006]
      rw [bd_some, eX, bd_some, bd_some]
      dsimp only
      rw [if_neg (nI_nlt (Nat.zero_le p) (by omega))]
    · simp only [l0, l1]
      exact eM
  · have g : ∀ j, (j < 279 ∨ 400 ≤ j) → row' j = upd m_row_f 6 (nI 0) j := by
      intro j hj
      by_cases e : j = 6
      · subst e
        rw [h6, pk_us]
      · rw [pk_un e]
        exact hf j e (by omega)
    have hF2 : IvF row' x_fitting x_fit_f x_counted_f m_mfit m_known m_isFit_f m_breaks_f := iF.keep iS (by rw [g 3 (by omega), pk_un (by omega)]) (fun j _ _ => by rw [g j (by omega), pk_un (by omega)])
    refine ⟨(nI 1, nI 0, nI c', va_cpy cf' x_tal_f 0 0 c', k2, r, f, nI c', cf'), (nI 1, w1, w2, w3, w4, w5, row', m_errs_f, a', w'), ?_, ?_, rfl, hS1.stC1 (hC.cpy hc) (fun j hj => g j (by omega)), hF2, iE⟩
    · unfold F_X7_text_1 F_X3_codesOf_1 F_X1_clear
      simp only [l0, l1, l2, l3, l4, l5, l6, l7, l8, l9, l10, l11, l12, l13, l14, l15, l16, l17, l18, l19, l20, l21, l22, l23, l24, l25, l26, l27, l28, l29, l30, l32, l33, l37, l38, l40, l41, l42, l43, l45, l47, l48, l57, l58, l60, l61, l62, l63, l64, l69, l70, l74, l88, l91, l96, l97, l98, l99, l100, l102, l115, l116, l121, l124, l134, l158, l279, l255, l400, l728, l729, l9999, l99999, l12345, l1103515245, l1000000000, l1000000001, l1000000002, l1000000003, l1000000004, l1000000005, l1000000006]
      rw [bd_some, eX, bd_some, bd_some]
      dsimp only
      rw [if_pos (show -(nI 1) < nI 0 by decide), x_takeAll _ _ hc (by omega), bd_some]
    · simp only [l0, l1]
      exact eM
theorem k_text_out (iS : IvS x_vow x_day x_worth x_z x_kinds_m x_kinds_f x_ms_m x_ms_f x_said_m x_said_f x_signs_m x_signs_f x_tape_m x_tape_f x_avo_m x_avo_f x_tal_m x_tal_f x_wai_m x_wai_f m_row_f) (iF : IvF m_row_f x_fitting x_fit_f x_counted_f m_mfit m_known m_isFit_f m_breaks_f) (iE : IvE x_er_f m_errs_f) (us : Int32) (h0 : ¬ us = nI 0) (h1 : ¬ us = nI 1) : ∃ (u : (Int32 × (Nat → Int32))) (w : (Int32 × Int32 × Int32 × Int32 × Int32 × Int32 × (Nat → Int32) × (Nat → Int32) × (Nat → Int32) × (Nat → Int32))), F_X7_text_out x_er_f us = some u ∧ F_X8_text m_laid m_hre m_opnd m_bad m_usg m_row_f m_errs_f m_act_f m_wth_f us = some w ∧ u.1 = w.1 ∧ IvS x_vow x_day x_worth x_z x_kinds_m x_kinds_f x_ms_m x_ms_f x_said_m x_said_f x_signs_m x_signs_f x_tape_m x_tape_f x_avo_m x_avo_f x_tal_m x_tal_f x_wai_m x_wai_f w.2.2.2.2.2.2.1 ∧ IvF w.2.2.2.2.2.2.1 x_fitting x_fit_f x_counted_f m_mfit m_known m_isFit_f m_breaks_f ∧ IvE u.2 w.2.2.2.2.2.2.2.1 := by
  refine ⟨(-(nI 1000000001), upd x_er_f 1 (x_er_f 1 + nI 1)), (-(nI 1000000001), m_laid, m_hre, m_opnd, m_bad, m_usg, m_row_f, upd m_errs_f 1 (m_errs_f 1 + nI 1), m_act_f, m_wth_f), ?_, ?_, rfl, iS, iF, iE.err 1⟩
  · unfold F_X7_text_out F_X3_codesOf_out
    simp (disch := omega) only [l0, l1, l2, l3, l4, l5, l6, l7, l8, l9, l10, l11, l12, l13, l14, l15, l16, l17, l18, l19, l20, l21, l22, l23, l24, l25, l26, l27, l28, l29, l30, l32, l33, l37, l38, l40, l41, l42, l43, l45, l47, l48, l57, l58, l60, l61, l62, l63, l64, l69, l70, l74, l88, l91, l96, l97, l98, l99, l100, l102, l115, l116, l121, l124, l134, l158, l279, l255, l400, l728, l729, l9999, l99999, l12345, l1103515245, l1000000000, l1000000001, l1000000002, l1000000003, l1000000004, l1000000005, l1000000006, pk_us, nI_add, pk_mul, pk_sub, pk_div, nI_clamp, nI_ltI, nI_leI, nI_eq, bd_some, Nat.not_lt_zero, false_or, or_false, true_or, or_true, if_pos, if_neg, ite_true, ite_false, if_true, if_false, Nat.add_zero, h0, h1, x_err1]
  · unfold F_X8_text
    simp (disch := omega) only [l0, l1, l2, l3, l4, l5, l6, l7, l8, l9, l10, l11, l12, l13, l14, l15, l16, l17, l18, l19, l20, l21, l22, l23, l24, l25, l26, l27, l28, l29, l30, l32, l33, l37, l38, l40, l41, l42, l43, l45, l47, l48, l57, l58, l60, l61, l62, l63, l64, l69, l70, l74, l88, l91, l96, l97, l98, l99, l100, l102, l115, l116, l121, l124, l134, l158, l279, l255, l400, l728, l729, l9999, l99999, l12345, l1103515245, l1000000000, l1000000001, l1000000002, l1000000003, l1000000004, l1000000005, l1000000006, pk_us, nI_add, pk_mul, pk_sub, pk_div, nI_clamp, nI_ltI, nI_leI, nI_eq, bd_some, Nat.not_lt_zero, false_or, or_false, true_or, or_true, if_pos, if_neg, ite_true, ite_false, if_true, if_false, Nat.add_zero, in_eq, w_N (use_out h0 h1), m_err1]
end
theorem st_text (G : xG) (tx : Nat) (wx : Nat → Nat) (tm : Nat) (wm : Nat → Nat) (a0 : Int32) : StpI G tx wx tm wm yX7_text (Cond.code yX7_text cX7_text 4 (some .int)) yX8_text (Cond.code yX8_text cX8_text 4 (some .int)) [.int a0] := by
  intro c ws hc h
  refine h.on (fun x_hasI x_imgs x_vow x_day x_worth x_z x_kinds_m x_kinds_f x_ms_m x_ms_f x_said_m x_said_f x_signs_m x_signs_f x_tape_m x_tape_f x_avo_m x_avo_f x_tal_m x_tal_f x_wai_m x_wai_f x_kp_vow x_kp_day x_kp_worth x_kp_z x_kp_kinds_m x_kp_kinds_f x_kp_ms_m x_kp_ms_f x_kp_said_m x_kp_said_f x_kp_signs_m x_kp_signs_f x_kp_tape_m x_kp_tape_f x_kp_avo_m x_kp_avo_f x_kp_tal_m x_kp_tal_f x_kp_wai_m x_kp_wai_f x_fitting x_spread_f x_breakers_f x_fit_f x_counted_f x_kk x_rat x_flt x_codes_m x_codes_f x_stack_m x_stack_f x_parted x_vkk x_vkd x_vmm x_trace_m x_trace_f x_er_f x_bits0 x_num0_m x_num0_f x_bits1 x_num1_m x_num1_f x_bits2 x_num2_m x_num2_f x_bits3 x_num3_m x_num3_f m_images m_mfit m_known m_laid m_hre m_opnd m_bad m_usg m_trcd m_isP m_row_f m_kpt_f m_errs_f m_bitsOf_f m_sizeOf_f m_cels_f m_broken_f m_isFit_f m_breaks_f m_act_f m_wth_f m_facts_f m_pile_f m_trc_f hW hI => ?_)
  subst hW
  obtain ⟨iS, iV, iF, iR, iE, iH0, iH1, iH2, iH3, iK⟩ := hI
  have jK : ∃ k : Nat, k ≤ c + 1 ∧ x_imgs = nI k ∧ m_images = nI k ∧ (x_hasI = if k = 0 then nI 0 else nI 1) ∧ (k ≠ 0 → IvS x_kp_vow x_kp_day x_kp_worth x_kp_z x_kp_kinds_m x_kp_kinds_f x_kp_ms_m x_kp_ms_f x_kp_said_m x_kp_said_f x_kp_signs_m x_kp_signs_f x_kp_tape_m x_kp_tape_f x_kp_avo_m x_kp_avo_f x_kp_tal_m x_kp_tal_f x_kp_wai_m x_kp_wai_f m_kpt_f) := by
    obtain ⟨k, hk, q⟩ := iK
    exact ⟨k, by omega, q⟩
  by_cases h0 : a0 = nI 0
  · subst h0
    obtain ⟨u, w, e1, e2, e3, jS, jF, jE⟩ := k_text_0 iS iF iE
    exact s_text_0 G tx wx tm wm x_hasI x_imgs x_vow x_day x_worth x_z x_kinds_m x_kinds_f x_ms_m x_ms_f x_said_m x_said_f x_signs_m x_signs_f x_tape_m x_tape_f x_avo_m x_avo_f x_tal_m x_tal_f x_wai_m x_wai_f x_kp_vow x_kp_day x_kp_worth x_kp_z x_kp_kinds_m x_kp_kinds_f x_kp_ms_m x_kp_ms_f x_kp_said_m x_kp_said_f x_kp_signs_m x_kp_signs_f x_kp_tape_m x_kp_tape_f x_kp_avo_m x_kp_avo_f x_kp_tal_m x_kp_tal_f x_kp_wai_m x_kp_wai_f x_fitting x_spread_f x_breakers_f x_fit_f x_counted_f x_kk x_rat x_flt x_codes_m x_codes_f x_stack_m x_stack_f x_parted x_vkk x_vkd x_vmm x_trace_m x_trace_f x_er_f x_bits0 x_num0_m x_num0_f x_bits1 x_num1_m x_num1_f x_bits2 x_num2_m x_num2_f x_bits3 x_num3_m x_num3_f m_images m_mfit m_known m_laid m_hre m_opnd m_bad m_usg m_trcd m_isP m_row_f m_kpt_f m_errs_f m_bitsOf_f m_sizeOf_f m_cels_f m_broken_f m_isFit_f m_breaks_f m_act_f m_wth_f m_facts_f m_pile_f m_trc_f u w e1 e2 e3 ⟨jS, iV, jF, iR, jE, iH0, iH1, iH2, iH3, jK⟩
  by_cases h1 : a0 = nI 1
  · subst h1
    obtain ⟨u, w, e1, e2, e3, jS, jF, jE⟩ := k_text_1 iS iF iE
    exact s_text_1 G tx wx tm wm x_hasI x_imgs x_vow x_day x_worth x_z x_kinds_m x_kinds_f x_ms_m x_ms_f x_said_m x_said_f x_signs_m x_signs_f x_tape_m x_tape_f x_avo_m x_avo_f x_tal_m x_tal_f x_wai_m x_wai_f x_kp_vow x_kp_day x_kp_worth x_kp_z x_kp_kinds_m x_kp_kinds_f x_kp_ms_m x_kp_ms_f x_kp_said_m x_kp_said_f x_kp_signs_m x_kp_signs_f x_kp_tape_m x_kp_tape_f x_kp_avo_m x_kp_avo_f x_kp_tal_m x_kp_tal_f x_kp_wai_m x_kp_wai_f x_fitting x_spread_f x_breakers_f x_fit_f x_counted_f x_kk x_rat x_flt x_codes_m x_codes_f x_stack_m x_stack_f x_parted x_vkk x_vkd x_vmm x_trace_m x_trace_f x_er_f x_bits0 x_num0_m x_num0_f x_bits1 x_num1_m x_num1_f x_bits2 x_num2_m x_num2_f x_bits3 x_num3_m x_num3_f m_images m_mfit m_known m_laid m_hre m_opnd m_bad m_usg m_trcd m_isP m_row_f m_kpt_f m_errs_f m_bitsOf_f m_sizeOf_f m_cels_f m_broken_f m_isFit_f m_breaks_f m_act_f m_wth_f m_facts_f m_pile_f m_trc_f u w e1 e2 e3 ⟨jS, iV, jF, iR, jE, iH0, iH1, iH2, iH3, jK⟩
  obtain ⟨u, w, e1, e2, e3, jS, jF, jE⟩ := k_text_out iS iF iE a0 h0 h1
  exact s_text_out G tx wx tm wm x_hasI x_imgs x_vow x_day x_worth x_z x_kinds_m x_kinds_f x_ms_m x_ms_f x_said_m x_said_f x_signs_m x_signs_f x_tape_m x_tape_f x_avo_m x_avo_f x_tal_m x_tal_f x_wai_m x_wai_f x_kp_vow x_kp_day x_kp_worth x_kp_z x_kp_kinds_m x_kp_kinds_f x_kp_ms_m x_kp_ms_f x_kp_said_m x_kp_said_f x_kp_signs_m x_kp_signs_f x_kp_tape_m x_kp_tape_f x_kp_avo_m x_kp_avo_f x_kp_tal_m x_kp_tal_f x_kp_wai_m x_kp_wai_f x_fitting x_spread_f x_breakers_f x_fit_f x_counted_f x_kk x_rat x_flt x_codes_m x_codes_f x_stack_m x_stack_f x_parted x_vkk x_vkd x_vmm x_trace_m x_trace_f x_er_f x_bits0 x_num0_m x_num0_f x_bits1 x_num1_m x_num1_f x_bits2 x_num2_m x_num2_f x_bits3 x_num3_m x_num3_f m_images m_mfit m_known m_laid m_hre m_opnd m_bad m_usg m_trcd m_isP m_row_f m_kpt_f m_errs_f m_bitsOf_f m_sizeOf_f m_cels_f m_broken_f m_isFit_f m_breaks_f m_act_f m_wth_f m_facts_f m_pile_f m_trc_f a0 u w e1 e2 e3 ⟨jS, iV, jF, iR, jE, iH0, iH1, iH2, iH3, jK⟩
