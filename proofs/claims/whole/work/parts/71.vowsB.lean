/-! PURE: what fits, in calls -/
section
variable {c : Nat} {x_hasI : Int32} {x_imgs : Int32} {x_vow : Int32} {x_day : Int32} {x_worth : Int32} {x_z : Int32} {x_kinds_m : Int32} {x_kinds_f : Nat → Int32} {x_ms_m : Int32} {x_ms_f : Nat → Int32} {x_said_m : Int32} {x_said_f : Nat → Int32} {x_signs_m : Int32} {x_signs_f : Nat → Int32} {x_tape_m : Int32} {x_tape_f : Nat → Int32} {x_avo_m : Int32} {x_avo_f : Nat → Int32} {x_tal_m : Int32} {x_tal_f : Nat → Int32} {x_wai_m : Int32} {x_wai_f : Nat → Int32} {x_kp_vow : Int32} {x_kp_day : Int32} {x_kp_worth : Int32} {x_kp_z : Int32} {x_kp_kinds_m : Int32} {x_kp_kinds_f : Nat → Int32} {x_kp_ms_m : Int32} {x_kp_ms_f : Nat → Int32} {x_kp_said_m : Int32} {x_kp_said_f : Nat → Int32} {x_kp_signs_m : Int32} {x_kp_signs_f : Nat → Int32} {x_kp_tape_m : Int32} {x_kp_tape_f : Nat → Int32} {x_kp_avo_m : Int32} {x_kp_avo_f : Nat → Int32} {x_kp_tal_m : Int32} {x_kp_tal_f : Nat → Int32} {x_kp_wai_m : Int32} {x_kp_wai_f : Nat → Int32} {x_fitting : Int32} {x_spread_f : Nat → Int32} {x_breakers_f : Nat → Int64} {x_fit_f : Nat → Int32} {x_counted_f : Nat → Int32} {x_kk : Nat} {x_rat : Int32} {x_flt : Int32} {x_codes_m : Int32} {x_codes_f : Nat → Int32} {x_stack_m : Int32} {x_stack_f : Nat → Int32} {x_parted : Int32} {x_vkk : Int32} {x_vkd : Int32} {x_vmm : Int32} {x_trace_m : Int32} {x_trace_f : Nat → Int32} {x_er_f : Nat → Int32} {x_bits0 : Int32} {x_num0_m : Int32} {x_num0_f : Nat → Int32} {x_bits1 : Int32} {x_num1_m : Int32} {x_num1_f : Nat → Int32} {x_bits2 : Int32} {x_num2_m : Int32} {x_num2_f : Nat → Int32} {x_bits3 : Int32} {x_num3_m : Int32} {x_num3_f : Nat → Int32} {m_images : Int32} {m_mfit : Int32} {m_known : Int32} {m_laid : Int32} {m_hre : Int32} {m_opnd : Int32} {m_bad : Int32} {m_usg : Int32} {m_trcd : Int32} {m_isP : Int32} {m_row_f : Nat → Int32} {m_kpt_f : Nat → Int32} {m_errs_f : Nat → Int32} {m_bitsOf_f : Nat → Int32} {m_sizeOf_f : Nat → Int32} {m_cels_f : Nat → Int32} {m_broken_f : Nat → Int64} {m_isFit_f : Nat → Int32} {m_breaks_f : Nat → Int32} {m_act_f : Nat → Int32} {m_wth_f : Nat → Int32} {m_facts_f : Nat → Int32} {m_pile_f : Nat → Int32} {m_trc_f : Nat → Int32}
theorem x_broken' (iV : IvV x_spread_f x_breakers_f m_broken_f) (hF : FtV m_row_f x_fit_f) {counted : Nat → Int32} (hc : CtV m_row_f counted) {s : Nat} (hs : s < 64) : ∃ c', F_X5_broken x_spread_f x_fit_f counted (nI s) = some (nI (cntB m_row_f s), c') ∧ CtV m_row_f c' := x_broken iV.1 hF hc hs
theorem k_sure (iS : IvS x_vow x_day x_worth x_z x_kinds_m x_kinds_f x_ms_m x_ms_f x_said_m x_said_f x_signs_m x_signs_f x_tape_m x_tape_f x_avo_m x_avo_f x_tal_m x_tal_f x_wai_m x_wai_f m_row_f) (iV : IvV x_spread_f x_breakers_f m_broken_f) (iF : IvF m_row_f x_fitting x_fit_f x_counted_f m_mfit m_known m_isFit_f m_breaks_f) (iE : IvE x_er_f m_errs_f) (bi : Int32) : ∃ (u : (Int32 × (Nat → Int32) × (Nat → Int32))) (w : (Int32 × Int32 × Int32 × (Nat → Int32) × (Nat → Int32) × (Nat → Int32))), F_X7_sure x_spread_f x_fit_f x_counted_f x_er_f bi = some u ∧ F_X8_sure m_mfit m_known m_row_f m_errs_f m_broken_f m_isFit_f m_breaks_f bi = some w ∧ u.1 = w.1 ∧ IvF m_row_f x_fitting x_fit_f u.2.1 w.2.1 w.2.2.1 w.2.2.2.2.1 w.2.2.2.2.2 ∧ IvE u.2.2 w.2.2.2.1 := by
  have iF0 := iF
  obtain ⟨hF, hf, hC, hK⟩ := iF0
  rcases ix bi 64 (by omega) with h | ⟨b, hb, rfl⟩
  · refine ⟨(-(nI 1000000001), x_counted_f, upd x_er_f 1 (x_er_f 1 + nI 1)), (-(nI 1000000001), m_mfit, m_known, upd m_errs_f 1 (m_errs_f 1 + nI 1), m_isFit_f, m_breaks_f), ?_, ?_, rfl, iF, iE.err 1⟩
    · unfold F_X7_sure
      rw [isS_N h, bd_some, if_pos (show nI 0 = 0 from rfl), show F_X7_error x_er_f (1 : Int32) = _ from x_err1 x_er_f, bd_some]
    · unfold F_X8_sure
      rw [isS_eq, isS_N h, bd_some, if_pos (show nI 0 = 0 from rfl), show F_X8_error m_errs_f (-1000000001 : Int32) = _ from m_err1 m_errs_f, bd_some]
  · obtain ⟨i1, b1, r1, r2, r3⟩ := m_findVows iV.2.2 iS.2.2.1.sg hK
    have hK1 : KnV m_row_f (nI (cntF m_row_f)) (nI 1) i1 b1 := Or.inr ⟨rfl, r2, rfl, r3⟩
    have key : ∃ (r : Int32) (c' er' errs' : Nat → Int32), F_X7_sure x_spread_f x_fit_f x_counted_f x_er_f (nI b) = some (r, c', er') ∧ F_X8_sure m_mfit m_known m_row_f m_errs_f m_broken_f m_isFit_f m_breaks_f (nI b) = some (r, nI (cntF m_row_f), nI 1, errs', i1, b1) ∧ CtV m_row_f c' ∧ IvE er' errs' := by
      unfold F_X7_sure F_X8_sure
      rw [isS_eq, isS_Y hb, bd_some, bd_some, if_neg (show ¬ nI 1 = 0 from by decide), if_neg (show ¬ nI 1 = 0 from by decide), r1, bd_some]
      refine lp_two (fun j (s : Int32 × (Nat → Int32)) (t : Int32) => s.1 = nI (b + j) ∧ t = nI (b + j) ∧ CtV m_row_f s.2) (fun o o' => ∃ (r : Int32) (c' er' errs' : Nat → Int32), o = some (r, c', er') ∧ o' = some (r, nI (cntF m_row_f), nI 1, errs', i1, b1) ∧ CtV m_row_f c' ∧ IvE er' errs') (64 - b) (by omega) ⟨rfl, rfl, hC⟩ ?_ ?_
      · rintro j ⟨s1, s2⟩ t hj ⟨h1, h2, h3⟩
        dsimp only at h1 h3
        subst h1 h2
        obtain ⟨c2, t1, t2⟩ := x_broken' iV hF h3 (show b + j < 64 by omega)
        by_cases hm : (nI (b + j) &&& nI b) = nI b
        · by_cases h0 : cntB m_row_f (b + j) = 0
          · refine Or.inl (fun k k' => ⟨nI (b + j), c2, x_er_f, m_errs_f, ?_, ?_, t2, iE⟩)
            · unfold B_X7_sure_15
              simp (disch := omega) only [↓reduceIte, l0, l1, l2, l3, l4, l5, l6, l7, l8, l9, l10, l11, l12, l13, l14, l15, l16, l17, l18, l19, l20, l21, l22, l23, l24, l25, l26, l27, l28, l29, l30, l32, l33, l37, l38, l40, l41, l42, l43, l45, l47, l48, l57, l58, l60, l61, l62, l63, l64, l69, l70, l74, l88, l91, l96, l97, l98, l99, l100, l102, l115, l116, l121, l124, l134, l158, l279, l255, l400, l728, l729, l9999, l99999, l12345, l1103515245, l1000000000, l1000000001, l1000000002, l1000000003, l1000000004, l1000000005, l1000000006, pk_us, nI_add, pk_mul, pk_sub, pk_div, nI_clamp, nI_ltI, nI_leI, nI_eq, bd_some, Nat.not_lt_zero, false_or, or_false, true_or, or_true, if_pos, if_neg, ite_true, ite_false, if_true, if_false, Nat.add_zero, hm, t1, h0]
            · unfold B_X8_sure_20
              simp (disch := omega) only [↓reduceIte, l0, l1, l2, l3, l4, l5, l6, l7, l8, l9, l10, l11, l12, l13, l14, l15, l16, l17, l18, l19, l20, l21, l22, l23, l24, l25, l26, l27, l28, l29, l30, l32, l33, l37, l38, l40, l41, l42, l43, l45, l47, l48, l57, l58, l60, l61, l62, l63, l64, l69, l70, l74, l88, l91, l96, l97, l98, l99, l100, l102, l115, l116, l121, l124, l134, l158, l279, l255, l400, l728, l729, l9999, l99999, l12345, l1103515245, l1000000000, l1000000001, l1000000002, l1000000003, l1000000004, l1000000005, l1000000006, pk_us, nI_add, pk_mul, pk_sub, pk_div, nI_clamp, nI_ltI, nI_leI, nI_eq, bd_some, Nat.not_lt_zero, false_or, or_false, true_or, or_true, if_pos, if_neg, ite_true, ite_false, if_true, if_false, Nat.add_zero, hm, r3 (b + j) (show b + j < 64 by omega), h0]
          · have h0' := cntB_le m_row_f (b + j)
            refine Or.inr ⟨(nI (b + (j + 1)), c2), nI (b + (j + 1)), ⟨rfl, rfl, t2⟩, fun k => ?_, fun k => ?_⟩
            · unfold B_X7_sure_15
              simp (disch := omega) only [↓reduceIte, l0, l1, l2, l3, l4, l5, l6, l7, l8, l9, l10, l11, l12, l13, l14, l15, l16, l17, l18, l19, l20, l21, l22, l23, l24, l25, l26, l27, l28, l29, l30, l32, l33, l37, l38, l40, l41, l42, l43, l45, l47, l48, l57, l58, l60, l61, l62, l63, l64, l69, l70, l74, l88, l91, l96, l97, l98, l99, l100, l102, l115, l116, l121, l124, l134, l158, l279, l255, l400, l728, l729, l9999, l99999, l12345, l1103515245, l1000000000, l1000000001, l1000000002, l1000000003, l1000000004, l1000000005, l1000000006, pk_us, nI_add, pk_mul, pk_sub, pk_div, nI_clamp, nI_ltI, nI_leI, nI_eq, bd_some, Nat.not_lt_zero, false_or, or_false, true_or, or_true, if_pos, if_neg, ite_true, ite_false, if_true, if_false, Nat.add_zero, hm, t1, h0, Nat.add_assoc]
            · unfold B_X8_sure_20
              simp (disch := omega) only [↓reduceIte, l0, l1, l2, l3, l4, l5, l6, l7, l8, l9, l10, l11, l12, l13, l14, l15, l16, l17, l18, l19, l20, l21, l22, l23, l24, l25, l26, l27, l28, l29, l30, l32, l33, l37, l38, l40, l41, l42, l43, l45, l47, l48, l57, l58, l60, l61, l62, l63, l64, l69, l70, l74, l88, l91, l96, l97, l98, l99, l100, l102, l115, l116, l121, l124, l134, l158, l279, l255, l400, l728, l729, l9999, l99999, l12345, l1103515245, l1000000000, l1000000001, l1000000002, l1000000003, l1000000004, l1000000005, l1000000006, pk_us, nI_add, pk_mul, pk_sub, pk_div, nI_clamp, nI_ltI, nI_leI, nI_eq, bd_some, Nat.not_lt_zero, false_or, or_false, true_or, or_true, if_pos, if_neg, ite_true, ite_false, if_true, if_false, Nat.add_zero, hm, r3 (b + j) (show b + j < 64 by omega), h0, Nat.add_assoc]
        · refine Or.inr ⟨(nI (b + (j + 1)), s2), nI (b + (j + 1)), ⟨rfl, rfl, h3⟩, fun k => ?_, fun k => ?_⟩
          · unfold B_X7_sure_15
            simp (disch := omega) only [↓reduceIte, l0, l1, l2, l3, l4, l5, l6, l7, l8, l9, l10, l11, l12, l13, l14, l15, l16, l17, l18, l19, l20, l21, l22, l23, l24, l25, l26, l27, l28, l29, l30, l32, l33, l37, l38, l40, l41, l42, l43, l45, l47, l48, l57, l58, l60, l61, l62, l63, l64, l69, l70, l74, l88, l91, l96, l97, l98, l99, l100, l102, l115, l116, l121, l124, l134, l158, l279, l255, l400, l728, l729, l9999, l99999, l12345, l1103515245, l1000000000, l1000000001, l1000000002, l1000000003, l1000000004, l1000000005, l1000000006, pk_us, nI_add, pk_mul, pk_sub, pk_div, nI_clamp, nI_ltI, nI_leI, nI_eq, bd_some, Nat.not_lt_zero, false_or, or_false, true_or, or_true, if_pos, if_neg, ite_true, ite_false, if_true, if_false, Nat.add_zero, hm, Nat.add_assoc]
          · unfold B_X8_sure_20
            simp (disch := omega) only [↓reduceIte, l0, l1, l2, l3, l4, l5, l6, l7, l8, l9, l10, l11, l12, l13, l14, l15, l16, l17, l18, l19, l20, l21, l22, l23, l24, l25, l26, l27, l28, l29, l30, l32, l33, l37, l38, l40, l41, l42, l43, l45, l47, l48, l57, l58, l60, l61, l62, l63, l64, l69, l70, l74, l88, l91, l96, l97, l98, l99, l100, l102, l115, l116, l121, l124, l134, l158, l279, l255, l400, l728, l729, l9999, l99999, l12345, l1103515245, l1000000000, l1000000001, l1000000002, l1000000003, l1000000004, l1000000005, l1000000006, pk_us, nI_add, pk_mul, pk_sub, pk_div, nI_clamp, nI_ltI, nI_leI, nI_eq, bd_some, Nat.not_lt_zero, false_or, or_false, true_or, or_true, if_pos, if_neg, ite_true, ite_false, if_true, if_false, Nat.add_zero, hm, Nat.add_assoc]
      · rintro ⟨s1, s2⟩ t ⟨h1, h2, h3⟩ k k'
        dsimp only at h1 h3
        subst h1 h2
        refine ⟨-(nI 1000000002), s2, _, _, ?_, ?_, h3, iE.err 2⟩
        · unfold B_X7_sure_15
          simp (disch := omega) only [↓reduceIte, l0, l1, l2, l3, l4, l5, l6, l7, l8, l9, l10, l11, l12, l13, l14, l15, l16, l17, l18, l19, l20, l21, l22, l23, l24, l25, l26, l27, l28, l29, l30, l32, l33, l37, l38, l40, l41, l42, l43, l45, l47, l48, l57, l58, l60, l61, l62, l63, l64, l69, l70, l74, l88, l91, l96, l97, l98, l99, l100, l102, l115, l116, l121, l124, l134, l158, l279, l255, l400, l728, l729, l9999, l99999, l12345, l1103515245, l1000000000, l1000000001, l1000000002, l1000000003, l1000000004, l1000000005, l1000000006, pk_us, nI_add, pk_mul, pk_sub, pk_div, nI_clamp, nI_ltI, nI_leI, nI_eq, bd_some, Nat.not_lt_zero, false_or, or_false, true_or, or_true, if_pos, if_neg, ite_true, ite_false, if_true, if_false, Nat.add_zero, x_err2]
        · unfold B_X8_sure_20
          simp (disch := omega) only [↓reduceIte, l0, l1, l2, l3, l4, l5, l6, l7, l8, l9, l10, l11, l12, l13, l14, l15, l16, l17, l18, l19, l20, l21, l22, l23, l24, l25, l26, l27, l28, l29, l30, l32, l33, l37, l38, l40, l41, l42, l43, l45, l47, l48, l57, l58, l60, l61, l62, l63, l64, l69, l70, l74, l88, l91, l96, l97, l98, l99, l100, l102, l115, l116, l121, l124, l134, l158, l279, l255, l400, l728, l729, l9999, l99999, l12345, l1103515245, l1000000000, l1000000001, l1000000002, l1000000003, l1000000004, l1000000005, l1000000006, pk_us, nI_add, pk_mul, pk_sub, pk_div, nI_clamp, nI_ltI, nI_leI, nI_eq, bd_some, Nat.not_lt_zero, false_or, or_false, true_or, or_true, if_pos, if_neg, ite_true, ite_false, if_true, if_false, Nat.add_zero, m_err2]
    obtain ⟨r, c', er', errs', e1, e2, e3, e4⟩ := key
    exact ⟨_, _, e1, e2, rfl, ⟨hF, hf, e3, hK1⟩, e4⟩
def lesr (row : Nat → Int32) (s : Nat) : Nat := min (cntB row s) (cntF row - cntB row s)
theorem x_lesser (iV : IvV x_spread_f x_breakers_f m_broken_f) (hF : FtV m_row_f x_fit_f) {counted : Nat → Int32} (hc : CtV m_row_f counted) {s : Nat} (hs : s < 64) : ∃ c', F_X7_lesserPart (nI (cntF m_row_f)) x_spread_f x_fit_f counted (nI s) = some (nI (lesr m_row_f s), c') ∧ CtV m_row_f c' := by
  obtain ⟨c', e1, e2⟩ := x_broken iV.1 hF hc hs
  refine ⟨c', ?_, e2⟩
  have h1 := cntF_le m_row_f
  have h2 := cntB_cntF m_row_f s
  unfold F_X7_lesserPart F_X5_fitting
  rw [e1, bd_some, bd_some]
  dsimp only
  rw [pk_sub h2]
  unfold lesr
  by_cases h : cntF m_row_f - cntB m_row_f s < cntB m_row_f s
  · rw [if_pos ((nI_ltI (by omega) (by omega)).mpr h), Nat.min_eq_right (by omega)]
  · rw [if_neg (by rw [nI_ltI (by omega) (by omega)]; exact h), Nat.min_eq_left (by omega)]
theorem m_lesser {breaks : Nat → Int32} (hb : ∀ s, s < 64 → breaks s = nI (cntB m_row_f s)) {s : Nat} (hs : s < 64) : F_X8_lesserOf (nI (cntF m_row_f)) breaks (nI s) = some (nI (lesr m_row_f s)) := by
  have h1 := cntF_le m_row_f
  have h2 := cntB_cntF m_row_f s
  have hg : ¬ (nI s < 0 ∨ 64 ≤ (nI s).toNatClampNeg) := nI_in hs (by omega)
  unfold F_X8_lesserOf
  rw [if_neg hg, if_neg hg, if_neg hg, if_neg hg, nI_clamp (by omega), hb s hs, pk_sub h2]
  unfold lesr
  by_cases h : cntF m_row_f - cntB m_row_f s ≤ cntB m_row_f s
  · rw [if_pos ((nI_leI (by omega) (by omega)).mpr h), Nat.min_eq_right h]
  · rw [if_neg (by rw [nI_leI (by omega) (by omega)]; exact h), Nat.min_eq_left (by omega)]
theorem lesr_le (row : Nat → Int32) (s : Nat) : lesr row s ≤ 729 := by
  have h := cntB_le row s
  unfold lesr
  omega
theorem k_parts (iS : IvS x_vow x_day x_worth x_z x_kinds_m x_kinds_f x_ms_m x_ms_f x_said_m x_said_f x_signs_m x_signs_f x_tape_m x_tape_f x_avo_m x_avo_f x_tal_m x_tal_f x_wai_m x_wai_f m_row_f) (iV : IvV x_spread_f x_breakers_f m_broken_f) (iF : IvF m_row_f x_fitting x_fit_f x_counted_f m_mfit m_known m_isFit_f m_breaks_f) (iE : IvE x_er_f m_errs_f) (wh : Int32) : ∃ (u : (Int32 × (Nat → Int32) × (Nat → Int32))) (w : (Int32 × Int32 × Int32 × (Nat → Int32) × (Nat → Int32) × (Nat → Int32))), F_X7_parts x_fitting x_spread_f x_fit_f x_counted_f x_er_f wh = some u ∧ F_X8_parts m_mfit m_known m_row_f m_errs_f m_broken_f m_isFit_f m_breaks_f wh = some w ∧ u.1 = w.1 ∧ IvF m_row_f x_fitting x_fit_f u.2.1 w.2.1 w.2.2.1 w.2.2.2.2.1 w.2.2.2.2.2 ∧ IvE u.2.2 w.2.2.2.1 := by
  have iF0 := iF
  obtain ⟨hF, hf, hC, hK⟩ := iF0
  rcases ix wh 2 (by omega) with h | ⟨b, hb, rfl⟩
  · refine ⟨(-(nI 1000000001), x_counted_f, upd x_er_f 1 (x_er_f 1 + nI 1)), (-(nI 1000000001), m_mfit, m_known, upd m_errs_f 1 (m_errs_f 1 + nI 1), m_isFit_f, m_breaks_f), ?_, ?_, rfl, iF, iE.err 1⟩
    · unfold F_X7_parts
      rw [show F_X7_within wh (0 : Int32) (1 : Int32) = _ from w_N (M := 1) h (by omega), bd_some, if_pos (show nI 0 = 0 from rfl), show F_X7_error x_er_f (1 : Int32) = _ from x_err1 x_er_f, bd_some]
    · unfold F_X8_parts
      rw [show F_X8_in wh (0 : Int32) (1 : Int32) = _ from w_N (M := 1) h (by omega), bd_some, if_pos (show nI 0 = 0 from rfl), show F_X8_error m_errs_f (-1000000001 : Int32) = _ from m_err1 m_errs_f, bd_some]
  · obtain ⟨i1, b1, r1, r2, r3⟩ := m_findVows iV.2.2 iS.2.2.1.sg hK
    have hK1 : KnV m_row_f (nI (cntF m_row_f)) (nI 1) i1 b1 := Or.inr ⟨rfl, r2, rfl, r3⟩
    subst hf
    have key : ∃ (r : Int32) (c' : Nat → Int32), F_X7_parts (nI (cntF m_row_f)) x_spread_f x_fit_f x_counted_f x_er_f (nI b) = some (r, c', x_er_f) ∧ F_X8_parts m_mfit m_known m_row_f m_errs_f m_broken_f m_isFit_f m_breaks_f (nI b) = some (r, nI (cntF m_row_f), nI 1, m_errs_f, i1, b1) ∧ CtV m_row_f c' := by
      unfold F_X7_parts F_X8_parts
      rw [show F_X7_within (nI b) (0 : Int32) (1 : Int32) = _ from w_Y (M := 1) (show b ≤ 1 by omega) (by omega), bd_some, if_neg (show ¬ nI 1 = 0 from by decide)]
      rw [show F_X8_in (nI b) (0 : Int32) (1 : Int32) = _ from w_Y (M := 1) (show b ≤ 1 by omega) (by omega), bd_some, if_neg (show ¬ nI 1 = 0 from by decide), r1, bd_some]
      refine lp_two (fun j (s : Int32 × Int32 × (Nat → Int32)) (t : Int32 × Int32) => ∃ be : Nat, be < 64 ∧ s.1 = nI be ∧ t.1 = nI be ∧ s.2.1 = nI (1 + j) ∧ t.2 = nI (1 + j) ∧ CtV m_row_f s.2.2) (fun o o' => ∃ (r : Int32) (c' : Nat → Int32), o = some (r, c', x_er_f) ∧ o' = some (r, nI (cntF m_row_f), nI 1, m_errs_f, i1, b1) ∧ CtV m_row_f c') 63 (by omega) ⟨0, by omega, rfl, rfl, rfl, rfl, hC⟩ ?_ ?_
      · rintro j ⟨s1, s2, s3⟩ ⟨t1, t2⟩ hj ⟨be, hbe, h1, h2, h3, h4, h5⟩
        dsimp only at h1 h2 h3 h4 h5
        subst h1 h2 h3 h4
        obtain ⟨c2, p1, p2⟩ := x_lesser iV hF h5 (show 1 + j < 64 by omega)
        obtain ⟨c3, p3, p4⟩ := x_lesser iV hF p2 hbe
        have q1 := m_lesser r3 (show 1 + j < 64 by omega)
        have q2 := m_lesser r3 hbe
        have l1' := lesr_le m_row_f (1 + j)
        have l2' := lesr_le m_row_f be
        by_cases hc : lesr m_row_f (1 + j) ≤ lesr m_row_f be
        · refine Or.inr ⟨(nI be, nI (1 + (j + 1)), c3), (nI be, nI (1 + (j + 1))), ⟨be, hbe, rfl, rfl, rfl, rfl, p4⟩, fun k => ?_, fun k => ?_⟩
          · unfold B_X7_parts_19
            simp (disch := omega) only [↓reduceIte, l0, l1, l2, l3, l4, l5, l6, l7, l8, l9, l10, l11, l12, l13, l14, l15, l16, l17, l18, l19, l20, l21, l22, l23, l24, l25, l26, l27, l28, l29, l30, l32, l33, l37, l38, l40, l41, l42, l43, l45, l47, l48, l57, l58, l60, l61, l62, l63, l64, l69, l70, l74, l88, l91, l96, l97, l98, l99, l100, l102, l115, l116, l121, l124, l134, l158, l279, l255, l400, l728, l729, l9999, l99999, l12345, l1103515245, l1000000000, l1000000001, l1000000002, l1000000003, l1000000004, l1000000005, l1000000006, pk_us, nI_add, pk_mul, pk_sub, pk_div, nI_clamp, nI_ltI, nI_leI, nI_eq, bd_some, Nat.not_lt_zero, false_or, or_false, true_or, or_true, if_pos, if_neg, ite_true, ite_false, if_true, if_false, Nat.add_zero, p1, p3, hc, Nat.add_assoc]
          · unfold B_X8_parts_24
            simp (disch := omega) only [↓reduceIte, l0, l1, l2, l3, l4, l5, l6, l7, l8, l9, l10, l11, l12, l13, l14, l15, l16, l17, l18, l19, l20, l21, l22, l23, l24, l25, l26, l27, l28, l29, l30, l32, l33, l37, l38, l40, l41, l42, l43, l45, l47, l48, l57, l58, l60, l61, l62, l63, l64, l69, l70, l74, l88, l91, l96, l97, l98, l99, l100, l102, l115, l116, l121, l124, l134, l158, l279, l255, l400, l728, l729, l9999, l99999, l12345, l1103515245, l1000000000, l1000000001, l1000000002, l1000000003, l1000000004, l1000000005, l1000000006, pk_us, nI_add, pk_mul, pk_sub, pk_div, nI_clamp, nI_ltI, nI_leI, nI_eq, bd_some, Nat.not_lt_zero, false_or, or_false, true_or, or_true, if_pos, if_neg, ite_true, ite_false, if_true, if_false, Nat.add_zero, q1, q2, hc, Nat.add_assoc]
        · refine Or.inr ⟨(nI (1 + j), nI (1 + (j + 1)), c3), (nI (1 + j), nI (1 + (j + 1))), ⟨1 + j, by omega, rfl, rfl, rfl, rfl, p4⟩, fun k => ?_, fun k => ?_⟩
          · unfold B_X7_parts_19
            simp (disch := omega) only [↓reduceIte, l0, l1, l2, l3, l4, l5, l6, l7, l8, l9, l10, l11, l12, l13, l14, l15, l16, l17, l18, l19, l20, l21, l22, l23, l24, l25, l26, l27, l28, l29, l30, l32, l33, l37, l38, l40, l41, l42, l43, l45, l47, l48, l57, l58, l60, l61, l62, l63, l64, l69, l70, l74, l88, l91, l96, l97, l98, l99, l100, l102, l115, l116, l121, l124, l134, l158, l279, l255, l400, l728, l729, l9999, l99999, l12345, l1103515245, l1000000000, l1000000001, l1000000002, l1000000003, l1000000004, l1000000005, l1000000006, pk_us, nI_add, pk_mul, pk_sub, pk_div, nI_clamp, nI_ltI, nI_leI, nI_eq, bd_some, Nat.not_lt_zero, false_or, or_false, true_or, or_true, if_pos, if_neg, ite_true, ite_false, if_true, if_false, Nat.add_zero, p1, p3, hc, Nat.add_assoc]
          · unfold B_X8_parts_24
            simp (disch := omega) only [↓reduceIte, l0, l1, l2, l3, l4, l5, l6, l7, l8, l9, l10, l11, l12, l13, l14, l15, l16, l17, l18, l19, l20, l21, l22, l23, l24, l25, l26, l27, l28, l29, l30, l32, l33, l37, l38, l40, l41, l42, l43, l45, l47, l48, l57, l58, l60, l61, l62, l63, l64, l69, l70, l74, l88, l91, l96, l97, l98, l99, l100, l102, l115, l116, l121, l124, l134, l158, l279, l255, l400, l728, l729, l9999, l99999, l12345, l1103515245, l1000000000, l1000000001, l1000000002, l1000000003, l1000000004, l1000000005, l1000000006, pk_us, nI_add, pk_mul, pk_sub, pk_div, nI_clamp, nI_ltI, nI_leI, nI_eq, bd_some, Nat.not_lt_zero, false_or, or_false, true_or, or_true, if_pos, if_neg, ite_true, ite_false, if_true, if_false, Nat.add_zero, q1, q2, hc, Nat.add_assoc]
      · rintro ⟨s1, s2, s3⟩ ⟨t1, t2⟩ ⟨be, hbe, h1, h2, h3, h4, h5⟩ k k'
        dsimp only at h1 h2 h3 h4 h5
        subst h1 h2 h3 h4
        rcases (show b = 0 ∨ b = 1 by omega) with rfl | rfl
        · refine ⟨nI be, s3, ?_, ?_, h5⟩
          · unfold B_X7_parts_19
            simp (disch := omega) only [↓reduceIte, l0, l1, l2, l3, l4, l5, l6, l7, l8, l9, l10, l11, l12, l13, l14, l15, l16, l17, l18, l19, l20, l21, l22, l23, l24, l25, l26, l27, l28, l29, l30, l32, l33, l37, l38, l40, l41, l42, l43, l45, l47, l48, l57, l58, l60, l61, l62, l63, l64, l69, l70, l74, l88, l91, l96, l97, l98, l99, l100, l102, l115, l116, l121, l124, l134, l158, l279, l255, l400, l728, l729, l9999, l99999, l12345, l1103515245, l1000000000, l1000000001, l1000000002, l1000000003, l1000000004, l1000000005, l1000000006, pk_us, nI_add, pk_mul, pk_sub, pk_div, nI_clamp, nI_ltI, nI_leI, nI_eq, bd_some, Nat.not_lt_zero, false_or, or_false, true_or, or_true, if_pos, if_neg, ite_true, ite_false, if_true, if_false, Nat.add_zero]
          · unfold B_X8_parts_24
            simp (disch := omega) only [↓reduceIte, l0, l1, l2, l3, l4, l5, l6, l7, l8, l9, l10, l11, l12, l13, l14, l15, l16, l17, l18, l19, l20, l21, l22, l23, l24, l25, l26, l27, l28, l29, l30, l32, l33, l37, l38, l40, l41, l42, l43, l45, l47, l48, l57, l58, l60, l61, l62, l63, l64, l69, l70, l74, l88, l91, l96, l97, l98, l99, l100, l102, l115, l116, l121, l124, l134, l158, l279, l255, l400, l728, l729, l9999, l99999, l12345, l1103515245, l1000000000, l1000000001, l1000000002, l1000000003, l1000000004, l1000000005, l1000000006, pk_us, nI_add, pk_mul, pk_sub, pk_div, nI_clamp, nI_ltI, nI_leI, nI_eq, bd_some, Nat.not_lt_zero, false_or, or_false, true_or, or_true, if_pos, if_neg, ite_true, ite_false, if_true, if_false, Nat.add_zero]
        · obtain ⟨c2, p1, p2⟩ := x_lesser iV hF h5 hbe
          refine ⟨nI (lesr m_row_f be), c2, ?_, ?_, p2⟩
          · unfold B_X7_parts_19
            simp (disch := omega) only [↓reduceIte, l0, l1, l2, l3, l4, l5, l6, l7, l8, l9, l10, l11, l12, l13, l14, l15, l16, l17, l18, l19, l20, l21, l22, l23, l24, l25, l26, l27, l28, l29, l30, l32, l33, l37, l38, l40, l41, l42, l43, l45, l47, l48, l57, l58, l60, l61, l62, l63, l64, l69, l70, l74, l88, l91, l96, l97, l98, l99, l100, l102, l115, l116, l121, l124, l134, l158, l279, l255, l400, l728, l729, l9999, l99999, l12345, l1103515245, l1000000000, l1000000001, l1000000002, l1000000003, l1000000004, l1000000005, l1000000006, pk_us, nI_add, pk_mul, pk_sub, pk_div, nI_clamp, nI_ltI, nI_leI, nI_eq, bd_some, Nat.not_lt_zero, false_or, or_false, true_or, or_true, if_pos, if_neg, ite_true, ite_false, if_true, if_false, Nat.add_zero, p1]
          · unfold B_X8_parts_24
            simp (disch := omega) only [↓reduceIte, l0, l1, l2, l3, l4, l5, l6, l7, l8, l9, l10, l11, l12, l13, l14, l15, l16, l17, l18, l19, l20, l21, l22, l23, l24, l25, l26, l27, l28, l29, l30, l32, l33, l37, l38, l40, l41, l42, l43, l45, l47, l48, l57, l58, l60, l61, l62, l63, l64, l69, l70, l74, l88, l91, l96, l97, l98, l99, l100, l102, l115, l116, l121, l124, l134, l158, l279, l255, l400, l728, l729, l9999, l99999, l12345, l1103515245, l1000000000, l1000000001, l1000000002, l1000000003, l1000000004, l1000000005, l1000000006, pk_us, nI_add, pk_mul, pk_sub, pk_div, nI_clamp, nI_ltI, nI_leI, nI_eq, bd_some, Nat.not_lt_zero, false_or, or_false, true_or, or_true, if_pos, if_neg, ite_true, ite_false, if_true, if_false, Nat.add_zero, m_lesser r3 hbe]
    obtain ⟨r, c', e1, e2, e3⟩ := key
    exact ⟨_, _, e1, e2, rfl, ⟨hF, rfl, e3, hK1⟩, iE⟩
theorem half {a b : Nat} (h0 : 0 < a) (h : a < b) : 2 * (b % a) ≤ b := by
  have h1 := Nat.mod_lt b h0
  have h2 := Nat.div_add_mod b a
  have h3 : 1 ≤ b / a := (Nat.le_div_iff_mul_le h0).mpr (by omega)
  have h4 : a * 1 ≤ a * (b / a) := Nat.mul_le_mul_left a h3
  omega
theorem euclid (B F : Nat) (hF0 : 0 < F) (hBF : B ≤ F) (hF : F ≤ 729) {wh : Int32} {u3 : Int32 × Int32 × Int32 × (Nat → Int32) × (Nat → Int32)} {errs : Nat → Int32} : ∃ g : Nat, 0 < g ∧ g ≤ 729 ∧ F_X7_commonDivisor (nI B) (nI F) = some (nI g) ∧ lp (B_X8_odds_54 errs wh u3) fuelC (nI B, nI F) = (if wh = nI 0 then some (u3.1 / nI g, u3.2.1, u3.2.2.1, errs, u3.2.2.2.1, u3.2.2.2.2) else some (u3.2.1 / nI g, u3.2.1, u3.2.2.1, errs, u3.2.2.2.1, u3.2.2.2.2)) := by
  have fin : ∀ (b : Nat), 0 < b → b ≤ 729 → ∀ k', B_X8_odds_54 errs wh u3 k' (nI 0, nI b) = (if wh = nI 0 then some (u3.1 / nI b, u3.2.1, u3.2.2.1, errs, u3.2.2.2.1, u3.2.2.2.2) else some (u3.2.1 / nI b, u3.2.1, u3.2.2.1, errs, u3.2.2.2.1, u3.2.2.2.2)) := by
    intro b h0 h1 k'
    have hne : ¬ nI b = 0 := nI_ne0 h0 (by omega)
    unfold B_X8_odds_54
    rw [if_pos (show (nI 0, nI b).1 = 0 from rfl)]
    by_cases hw : wh = nI 0
    · rw [if_pos hw, if_pos (show wh = 0 from hw), if_neg (show ¬ (nI 0, nI b).2 = 0 from hne)]
    · rw [if_neg hw, if_neg (show ¬ wh = 0 from hw), if_neg (show ¬ (nI 0, nI b).2 = 0 from hne)]
  have finx : ∀ (b j : Nat), j < 100 → ∀ k, B_X7_commonDivisor_7 k (nI b, nI 0, nI j) = some (nI b) := by
    intro b j hj k
    unfold B_X7_commonDivisor_7
    rw [if_neg (show ¬ (100 : Int32) ≤ (nI b, nI 0, nI j).2.2 from by rw [l100]; exact nI_ge hj (by omega)), if_pos (show (nI b, nI 0, nI j).2.1 = 0 from rfl)]
  have stepx : ∀ (b a j : Nat), 0 < a → a ≤ 729 → b ≤ 729 → j < 100 → ∀ k, B_X7_commonDivisor_7 k (nI b, nI a, nI j) = k (nI a, nI (b % a), nI (j + 1)) := by
    intro b a j ha ha2 hb hj k
    have hne : ¬ nI a = 0 := nI_ne0 ha (by omega)
    unfold B_X7_commonDivisor_7
    rw [if_neg (show ¬ (100 : Int32) ≤ (nI b, nI a, nI j).2.2 from by rw [l100]; exact nI_ge hj (by omega)), if_neg (show ¬ (nI b, nI a, nI j).2.1 = 0 from hne), if_neg (show ¬ (nI b, nI a, nI j).2.1 = 0 from hne)]
    show k (nI a, nI b - nI b / nI a * nI a, nI j + 1) = _
    rw [pk_rem (by omega) ha (by omega), l1, nI_add]
  have stepm : ∀ (b a : Nat), 0 < a → a ≤ 729 → b ≤ 729 → ∀ k', B_X8_odds_54 errs wh u3 k' (nI a, nI b) = k' (nI (b % a), nI a) := by
    intro b a ha ha2 hb k'
    have hne : ¬ nI a = 0 := nI_ne0 ha (by omega)
    unfold B_X8_odds_54
    rw [if_neg (show ¬ (nI a, nI b).1 = 0 from hne), if_neg (show ¬ (nI a, nI b).1 = 0 from hne)]
    show k' (nI b - nI b / nI a * nI a, nI a) = _
    rw [pk_rem (by omega) ha (by omega)]
  have core : ∀ (fx fm a b j0 : Nat), a < b → b ≤ 729 → j0 ≤ 2 → 50 < fx → 50 < fm → ∃ g : Nat, 0 < g ∧ g ≤ 729 ∧ lp B_X7_commonDivisor_7 fx (nI b, nI a, nI j0) = some (nI g) ∧ lp (B_X8_odds_54 errs wh u3) fm (nI a, nI b) = (if wh = nI 0 then some (u3.1 / nI g, u3.2.1, u3.2.2.1, errs, u3.2.2.2.1, u3.2.2.2.2) else some (u3.2.1 / nI g, u3.2.1, u3.2.2.1, errs, u3.2.2.2.1, u3.2.2.2.2)) := by
    have go : ∀ (n : Nat) (fx fm a b j : Nat), a < b → b ≤ 729 → a * b < 2 ^ n → n + j ≤ 40 → n < fx → n < fm → ∃ g : Nat, 0 < g ∧ g ≤ 729 ∧ lp B_X7_commonDivisor_7 fx (nI b, nI a, nI j) = some (nI g) ∧ lp (B_X8_odds_54 errs wh u3) fm (nI a, nI b) = (if wh = nI 0 then some (u3.1 / nI g, u3.2.1, u3.2.2.1, errs, u3.2.2.2.1, u3.2.2.2.2) else some (u3.2.1 / nI g, u3.2.1, u3.2.2.1, errs, u3.2.2.2.1, u3.2.2.2.2)) := by
      intro n
      induction n with
      | zero =>
        intro fx fm a b j hab hb hp hj h1 h2
        have ha : a = 0 := by
          rcases Nat.eq_zero_or_pos a with h | h
          · exact h
          · have := Nat.mul_pos h (show 0 < b by omega)
            simp at hp
            omega
        subst ha
        obtain ⟨f1, rfl⟩ : ∃ f, fx = f + 1 := ⟨fx - 1, by omega⟩
        obtain ⟨f2, rfl⟩ : ∃ f, fm = f + 1 := ⟨fm - 1, by omega⟩
        exact ⟨b, by omega, hb, finx b j (by omega) _, fin b (by omega) hb _⟩
      | succ n ih =>
        intro fx fm a b j hab hb hp hj h1 h2
        obtain ⟨f1, rfl⟩ : ∃ f, fx = f + 1 := ⟨fx - 1, by omega⟩
        obtain ⟨f2, rfl⟩ : ∃ f, fm = f + 1 := ⟨fm - 1, by omega⟩
        rcases Nat.eq_zero_or_pos a with rfl | ha
        · exact ⟨b, by omega, hb, finx b j (by omega) _, fin b (by omega) hb _⟩
        · have hm := Nat.mod_lt b ha
          have h3 : 2 * (b % a) * a ≤ b * a := Nat.mul_le_mul_right a (half ha hab)
          have h4 : b % a * a < 2 ^ n := by
            have e1 : 2 * (b % a) * a = 2 * (b % a * a) := Nat.mul_assoc 2 (b % a) a
            have e2 : b * a = a * b := Nat.mul_comm b a
            have e3 : 2 ^ (n + 1) = 2 * 2 ^ n := by rw [Nat.pow_succ, Nat.mul_comm]
            omega
          obtain ⟨g, g0, g1, g2, g3⟩ := ih f1 f2 (b % a) a (j + 1) hm (by omega) h4 (by omega) (by omega) (by omega)
          refine ⟨g, g0, g1, ?_, ?_⟩
          · show B_X7_commonDivisor_7 (lp B_X7_commonDivisor_7 f1) (nI b, nI a, nI j) = _
            rw [stepx b a j ha (by omega) hb (by omega)]
            exact g2
          · show B_X8_odds_54 errs wh u3 (lp (B_X8_odds_54 errs wh u3) f2) (nI a, nI b) = _
            rw [stepm b a ha (by omega) hb]
            exact g3
    intro fx fm a b j0 hab hb hj h1 h2
    refine go 20 fx fm a b j0 hab hb ?_ (by omega) (by omega) (by omega)
    have : a * b ≤ 729 * 729 := Nat.mul_le_mul (by omega) hb
    omega
  unfold F_X7_commonDivisor
  rcases Nat.lt_or_ge B F with h | h
  · obtain ⟨g, g0, g1, g2, g3⟩ := core 999 fuelC B F 1 h hF (by omega) (by omega) (by unfold fuelC; omega)
    refine ⟨g, g0, g1, ?_, g3⟩
    rw [lp_one]
    show B_X7_commonDivisor_7 (lp B_X7_commonDivisor_7 999) (nI B, nI F, nI 0) = _
    rw [stepx B F 0 hF0 hF (by omega) (by omega), Nat.mod_eq_of_lt h]
    exact g2
  · have e : B = F := by omega
    subst e
    refine ⟨B, hF0, hF, ?_, ?_⟩
    · rw [lp_one]
      show B_X7_commonDivisor_7 (lp B_X7_commonDivisor_7 999) (nI B, nI B, nI 0) = _
      rw [stepx B B 0 hF0 hF hF (by omega), Nat.mod_self]
      exact finx B 1 (by omega) _
    · rw [lp_one, stepm B B hF0 hF hF, Nat.mod_self]
      exact fin B hF0 hF _
theorem k_odds (iS : IvS x_vow x_day x_worth x_z x_kinds_m x_kinds_f x_ms_m x_ms_f x_said_m x_said_f x_signs_m x_signs_f x_tape_m x_tape_f x_avo_m x_avo_f x_tal_m x_tal_f x_wai_m x_wai_f m_row_f) (iV : IvV x_spread_f x_breakers_f m_broken_f) (iF : IvF m_row_f x_fitting x_fit_f x_counted_f m_mfit m_known m_isFit_f m_breaks_f) (iE : IvE x_er_f m_errs_f) (sy : Int32) (wh : Int32) : ∃ (u : (Int32 × (Nat → Int32) × (Nat → Int32))) (w : (Int32 × Int32 × Int32 × (Nat → Int32) × (Nat → Int32) × (Nat → Int32))), F_X7_odds x_fitting x_spread_f x_fit_f x_counted_f x_er_f sy wh = some u ∧ F_X8_odds m_mfit m_known m_row_f m_errs_f m_broken_f m_isFit_f m_breaks_f sy wh = some w ∧ u.1 = w.1 ∧ IvF m_row_f x_fitting x_fit_f u.2.1 w.2.1 w.2.2.1 w.2.2.2.2.1 w.2.2.2.2.2 ∧ IvE u.2.2 w.2.2.2.1 := by
  have iF0 := iF
  obtain ⟨hF, hf, hC, hK⟩ := iF0
  rcases ix sy 64 (by omega) with h | ⟨s, hs, rfl⟩
  · refine ⟨(-(nI 1000000001), x_counted_f, upd x_er_f 1 (x_er_f 1 + nI 1)), (-(nI 1000000001), m_mfit, m_known, upd m_errs_f 1 (m_errs_f 1 + nI 1), m_isFit_f, m_breaks_f), ?_, ?_, rfl, iF, iE.err 1⟩
    · unfold F_X7_odds
      rw [isS_N h, bd_some, if_pos (show nI 0 = 0 from rfl), show F_X7_error x_er_f (1 : Int32) = _ from x_err1 x_er_f, bd_some]
    · unfold F_X8_odds
      rw [isS_eq, isS_N h, bd_some, if_pos (show nI 0 = 0 from rfl), show F_X8_error m_errs_f (-1000000001 : Int32) = _ from m_err1 m_errs_f, bd_some]
  rcases ix wh 2 (by omega) with h | ⟨b, hb, rfl⟩
  · refine ⟨(-(nI 1000000001), x_counted_f, upd x_er_f 1 (x_er_f 1 + nI 1)), (-(nI 1000000001), m_mfit, m_known, upd m_errs_f 1 (m_errs_f 1 + nI 1), m_isFit_f, m_breaks_f), ?_, ?_, rfl, iF, iE.err 1⟩
    · unfold F_X7_odds
      rw [isS_Y hs, bd_some, if_neg (show ¬ nI 1 = 0 from by decide), show F_X7_within wh (0 : Int32) (1 : Int32) = _ from w_N (M := 1) h (by omega), bd_some, if_pos (show nI 0 = 0 from rfl), show F_X7_error x_er_f (1 : Int32) = _ from x_err1 x_er_f, bd_some]
    · unfold F_X8_odds
      rw [isS_eq, isS_Y hs, bd_some, if_neg (show ¬ nI 1 = 0 from by decide), show F_X8_in wh (0 : Int32) (1 : Int32) = _ from w_N (M := 1) h (by omega), bd_some, if_pos (show nI 0 = 0 from rfl), show F_X8_error m_errs_f (-1000000001 : Int32) = _ from m_err1 m_errs_f, bd_some]
  obtain ⟨i1, b1, r1, r2, r3⟩ := m_breaksBy iV.2.2 iS.2.2.1.sg hK hs
  have hK1 : KnV m_row_f (nI (cntF m_row_f)) (nI 1) i1 b1 := Or.inr ⟨rfl, r2, rfl, r3⟩
  have q1 := cntF_le m_row_f
  have q2 := cntB_cntF m_row_f s
  by_cases h0 : cntF m_row_f = 0
  · refine ⟨(-(nI 1000000003), x_counted_f, upd x_er_f 3 (x_er_f 3 + nI 1)), (-(nI 1000000003), nI (cntF m_row_f), nI 1, upd m_errs_f 3 (m_errs_f 3 + nI 1), i1, b1), ?_, ?_, rfl, ⟨hF, hf, hC, hK1⟩, iE.err 3⟩
    · unfold F_X7_odds F_X5_fitting
      rw [isS_Y hs, bd_some, if_neg (show ¬ nI 1 = 0 from by decide), show F_X7_within (nI b) (0 : Int32) (1 : Int32) = _ from w_Y (M := 1) (show b ≤ 1 by omega) (by omega), bd_some, if_neg (show ¬ nI 1 = 0 from by decide), bd_some, if_pos (show x_fitting = 0 from by rw [hf, h0]; rfl), show F_X7_error x_er_f (3 : Int32) = _ from x_err3 x_er_f, bd_some]
    · unfold F_X8_odds
      rw [isS_eq, isS_Y hs, bd_some, if_neg (show ¬ nI 1 = 0 from by decide), show F_X8_in (nI b) (0 : Int32) (1 : Int32) = _ from w_Y (M := 1) (show b ≤ 1 by omega) (by omega), bd_some, if_neg (show ¬ nI 1 = 0 from by decide), r1, bd_some]
      dsimp only
      rw [if_pos (show nI (cntF m_row_f) = 0 from by rw [h0]; rfl), show F_X8_error m_errs_f (-1000000003 : Int32) = _ from m_err3 m_errs_f, bd_some]
  · obtain ⟨c', t1, t2⟩ := x_broken iV.1 hF hC hs
    have hne : ¬ nI (cntF m_row_f) = 0 := nI_ne0 (by omega) (by omega)
    obtain ⟨g, g0, g1, g2, g3⟩ := euclid (cntB m_row_f s) (cntF m_row_f) (by omega) q2 q1 (wh := nI b) (u3 := (nI (cntB m_row_f s), nI (cntF m_row_f), nI 1, i1, b1)) (errs := m_errs_f)
    have hgne : ¬ nI g = 0 := nI_ne0 g0 (by omega)
    have hX : F_X7_odds x_fitting x_spread_f x_fit_f x_counted_f x_er_f (nI s) (nI b) = (if nI b = nI 0 then some (nI (cntB m_row_f s) / nI g, c', x_er_f) else some (nI (cntF m_row_f) / nI g, c', x_er_f)) := by
      unfold F_X7_odds F_X5_fitting
      rw [isS_Y hs, bd_some, if_neg (show ¬ nI 1 = 0 from by decide), show F_X7_within (nI b) (0 : Int32) (1 : Int32) = _ from w_Y (M := 1) (show b ≤ 1 by omega) (by omega), bd_some, if_neg (show ¬ nI 1 = 0 from by decide), bd_some, hf, if_neg hne, t1, bd_some, bd_some]
      dsimp only
      rw [g2, bd_some, if_neg hgne]
      by_cases hw : nI b = nI 0
      · rw [if_pos hw, if_pos (show nI b = 0 from hw), if_neg hgne]
      · rw [if_neg hw, if_neg (show ¬ nI b = 0 from hw), if_neg hgne]
    have hM : F_X8_odds m_mfit m_known m_row_f m_errs_f m_broken_f m_isFit_f m_breaks_f (nI s) (nI b) = (if nI b = nI 0 then some (nI (cntB m_row_f s) / nI g, nI (cntF m_row_f), nI 1, m_errs_f, i1, b1) else some (nI (cntF m_row_f) / nI g, nI (cntF m_row_f), nI 1, m_errs_f, i1, b1)) := by
      unfold F_X8_odds
      rw [isS_eq, isS_Y hs, bd_some, if_neg (show ¬ nI 1 = 0 from by decide), show F_X8_in (nI b) (0 : Int32) (1 : Int32) = _ from w_Y (M := 1) (show b ≤ 1 by omega) (by omega), bd_some, if_neg (show ¬ nI 1 = 0 from by decide), r1, bd_some, if_neg (show ¬ (nI (cntB m_row_f s), nI (cntF m_row_f), nI 1, i1, b1).2.1 = 0 from hne)]
      exact g3
    by_cases hw : nI b = nI 0
    · rw [if_pos hw] at hX hM
      exact ⟨_, _, hX, hM, rfl, ⟨hF, hf, t2, hK1⟩, iE⟩
    · rw [if_neg hw] at hX hM
      exact ⟨_, _, hX, hM, rfl, ⟨hF, hf, t2, hK1⟩, iE⟩
end
theorem st_sure (G : xG) (tx : Nat) (wx : Nat → Nat) (tm : Nat) (wm : Nat → Nat) (a0 : Int32) : StpI G tx wx tm wm yX7_sure (Cond.code yX7_sure cX7_sure 3 (some .int)) yX8_sure (Cond.code yX8_sure cX8_sure 3 (some .int)) [.int a0] := by
  intro c ws hc h
  refine h.on (fun x_hasI x_imgs x_vow x_day x_worth x_z x_kinds_m x_kinds_f x_ms_m x_ms_f x_said_m x_said_f x_signs_m x_signs_f x_tape_m x_tape_f x_avo_m x_avo_f x_tal_m x_tal_f x_wai_m x_wai_f x_kp_vow x_kp_day x_kp_worth x_kp_z x_kp_kinds_m x_kp_kinds_f x_kp_ms_m x_kp_ms_f x_kp_said_m x_kp_said_f x_kp_signs_m x_kp_signs_f x_kp_tape_m x_kp_tape_f x_kp_avo_m x_kp_avo_f x_kp_tal_m x_kp_tal_f x_kp_wai_m x_kp_wai_f x_fitting x_spread_f x_breakers_f x_fit_f x_counted_f x_kk x_rat x_flt x_codes_m x_codes_f x_stack_m x_stack_f x_parted x_vkk x_vkd x_vmm x_trace_m x_trace_f x_er_f x_bits0 x_num0_m x_num0_f x_bits1 x_num1_m x_num1_f x_bits2 x_num2_m x_num2_f x_bits3 x_num3_m x_num3_f m_images m_mfit m_known m_laid m_hre m_opnd m_bad m_usg m_trcd m_isP m_row_f m_kpt_f m_errs_f m_bitsOf_f m_sizeOf_f m_cels_f m_broken_f m_isFit_f m_breaks_f m_act_f m_wth_f m_facts_f m_pile_f m_trc_f hW hI => ?_)
  subst hW
  obtain ⟨iS, iV, iF, iR, iE, iH0, iH1, iH2, iH3, iK⟩ := hI
  have jK : ∃ k : Nat, k ≤ c + 1 ∧ x_imgs = nI k ∧ m_images = nI k ∧ (x_hasI = if k = 0 then nI 0 else nI 1) ∧ (k ≠ 0 → IvS x_kp_vow x_kp_day x_kp_worth x_kp_z x_kp_kinds_m x_kp_kinds_f x_kp_ms_m x_kp_ms_f x_kp_said_m x_kp_said_f x_kp_signs_m x_kp_signs_f x_kp_tape_m x_kp_tape_f x_kp_avo_m x_kp_avo_f x_kp_tal_m x_kp_tal_f x_kp_wai_m x_kp_wai_f m_kpt_f) := by
    obtain ⟨k, hk, q⟩ := iK
    exact ⟨k, by omega, q⟩
  obtain ⟨u, w, e1, e2, e3, jF, jE⟩ := k_sure iS iV iF iE a0
  exact s_sure G tx wx tm wm x_hasI x_imgs x_vow x_day x_worth x_z x_kinds_m x_kinds_f x_ms_m x_ms_f x_said_m x_said_f x_signs_m x_signs_f x_tape_m x_tape_f x_avo_m x_avo_f x_tal_m x_tal_f x_wai_m x_wai_f x_kp_vow x_kp_day x_kp_worth x_kp_z x_kp_kinds_m x_kp_kinds_f x_kp_ms_m x_kp_ms_f x_kp_said_m x_kp_said_f x_kp_signs_m x_kp_signs_f x_kp_tape_m x_kp_tape_f x_kp_avo_m x_kp_avo_f x_kp_tal_m x_kp_tal_f x_kp_wai_m x_kp_wai_f x_fitting x_spread_f x_breakers_f x_fit_f x_counted_f x_kk x_rat x_flt x_codes_m x_codes_f x_stack_m x_stack_f x_parted x_vkk x_vkd x_vmm x_trace_m x_trace_f x_er_f x_bits0 x_num0_m x_num0_f x_bits1 x_num1_m x_num1_f x_bits2 x_num2_m x_num2_f x_bits3 x_num3_m x_num3_f m_images m_mfit m_known m_laid m_hre m_opnd m_bad m_usg m_trcd m_isP m_row_f m_kpt_f m_errs_f m_bitsOf_f m_sizeOf_f m_cels_f m_broken_f m_isFit_f m_breaks_f m_act_f m_wth_f m_facts_f m_pile_f m_trc_f a0 u w e1 e2 e3 ⟨iS, iV, jF, iR, jE, iH0, iH1, iH2, iH3, jK⟩
theorem st_parts (G : xG) (tx : Nat) (wx : Nat → Nat) (tm : Nat) (wm : Nat → Nat) (a0 : Int32) : StpI G tx wx tm wm yX7_parts (Cond.code yX7_parts cX7_parts 4 (some .int)) yX8_parts (Cond.code yX8_parts cX8_parts 4 (some .int)) [.int a0] := by
  intro c ws hc h
  refine h.on (fun x_hasI x_imgs x_vow x_day x_worth x_z x_kinds_m x_kinds_f x_ms_m x_ms_f x_said_m x_said_f x_signs_m x_signs_f x_tape_m x_tape_f x_avo_m x_avo_f x_tal_m x_tal_f x_wai_m x_wai_f x_kp_vow x_kp_day x_kp_worth x_kp_z x_kp_kinds_m x_kp_kinds_f x_kp_ms_m x_kp_ms_f x_kp_said_m x_kp_said_f x_kp_signs_m x_kp_signs_f x_kp_tape_m x_kp_tape_f x_kp_avo_m x_kp_avo_f x_kp_tal_m x_kp_tal_f x_kp_wai_m x_kp_wai_f x_fitting x_spread_f x_breakers_f x_fit_f x_counted_f x_kk x_rat x_flt x_codes_m x_codes_f x_stack_m x_stack_f x_parted x_vkk x_vkd x_vmm x_trace_m x_trace_f x_er_f x_bits0 x_num0_m x_num0_f x_bits1 x_num1_m x_num1_f x_bits2 x_num2_m x_num2_f x_bits3 x_num3_m x_num3_f m_images m_mfit m_known m_laid m_hre m_opnd m_bad m_usg m_trcd m_isP m_row_f m_kpt_f m_errs_f m_bitsOf_f m_sizeOf_f m_cels_f m_broken_f m_isFit_f m_breaks_f m_act_f m_wth_f m_facts_f m_pile_f m_trc_f hW hI => ?_)
  subst hW
  obtain ⟨iS, iV, iF, iR, iE, iH0, iH1, iH2, iH3, iK⟩ := hI
  have jK : ∃ k : Nat, k ≤ c + 1 ∧ x_imgs = nI k ∧ m_images = nI k ∧ (x_hasI = if k = 0 then nI 0 else nI 1) ∧ (k ≠ 0 → IvS x_kp_vow x_kp_day x_kp_worth x_kp_z x_kp_kinds_m x_kp_kinds_f x_kp_ms_m x_kp_ms_f x_kp_said_m x_kp_said_f x_kp_signs_m x_kp_signs_f x_kp_tape_m x_kp_tape_f x_kp_avo_m x_kp_avo_f x_kp_tal_m x_kp_tal_f x_kp_wai_m x_kp_wai_f m_kpt_f) := by
    obtain ⟨k, hk, q⟩ := iK
    exact ⟨k, by omega, q⟩
  obtain ⟨u, w, e1, e2, e3, jF, jE⟩ := k_parts iS iV iF iE a0
  exact s_parts G tx wx tm wm x_hasI x_imgs x_vow x_day x_worth x_z x_kinds_m x_kinds_f x_ms_m x_ms_f x_said_m x_said_f x_signs_m x_signs_f x_tape_m x_tape_f x_avo_m x_avo_f x_tal_m x_tal_f x_wai_m x_wai_f x_kp_vow x_kp_day x_kp_worth x_kp_z x_kp_kinds_m x_kp_kinds_f x_kp_ms_m x_kp_ms_f x_kp_said_m x_kp_said_f x_kp_signs_m x_kp_signs_f x_kp_tape_m x_kp_tape_f x_kp_avo_m x_kp_avo_f x_kp_tal_m x_kp_tal_f x_kp_wai_m x_kp_wai_f x_fitting x_spread_f x_breakers_f x_fit_f x_counted_f x_kk x_rat x_flt x_codes_m x_codes_f x_stack_m x_stack_f x_parted x_vkk x_vkd x_vmm x_trace_m x_trace_f x_er_f x_bits0 x_num0_m x_num0_f x_bits1 x_num1_m x_num1_f x_bits2 x_num2_m x_num2_f x_bits3 x_num3_m x_num3_f m_images m_mfit m_known m_laid m_hre m_opnd m_bad m_usg m_trcd m_isP m_row_f m_kpt_f m_errs_f m_bitsOf_f m_sizeOf_f m_cels_f m_broken_f m_isFit_f m_breaks_f m_act_f m_wth_f m_facts_f m_pile_f m_trc_f a0 u w e1 e2 e3 ⟨iS, iV, jF, iR, jE, iH0, iH1, iH2, iH3, jK⟩
theorem st_odds (G : xG) (tx : Nat) (wx : Nat → Nat) (tm : Nat) (wm : Nat → Nat) (a0 : Int32) (a1 : Int32) : StpI G tx wx tm wm yX7_odds (Cond.code yX7_odds cX7_odds 6 (some .int)) yX8_odds (Cond.code yX8_odds cX8_odds 8 (some .int)) [.int a0, .int a1] := by
  intro c ws hc h
  refine h.on (fun x_hasI x_imgs x_vow x_day x_worth x_z x_kinds_m x_kinds_f x_ms_m x_ms_f x_said_m x_said_f x_signs_m x_signs_f x_tape_m x_tape_f x_avo_m x_avo_f x_tal_m x_tal_f x_wai_m x_wai_f x_kp_vow x_kp_day x_kp_worth x_kp_z x_kp_kinds_m x_kp_kinds_f x_kp_ms_m x_kp_ms_f x_kp_said_m x_kp_said_f x_kp_signs_m x_kp_signs_f x_kp_tape_m x_kp_tape_f x_kp_avo_m x_kp_avo_f x_kp_tal_m x_kp_tal_f x_kp_wai_m x_kp_wai_f x_fitting x_spread_f x_breakers_f x_fit_f x_counted_f x_kk x_rat x_flt x_codes_m x_codes_f x_stack_m x_stack_f x_parted x_vkk x_vkd x_vmm x_trace_m x_trace_f x_er_f x_bits0 x_num0_m x_num0_f x_bits1 x_num1_m x_num1_f x_bits2 x_num2_m x_num2_f x_bits3 x_num3_m x_num3_f m_images m_mfit m_known m_laid m_hre m_opnd m_bad m_usg m_trcd m_isP m_row_f m_kpt_f m_errs_f m_bitsOf_f m_sizeOf_f m_cels_f m_broken_f m_isFit_f m_breaks_f m_act_f m_wth_f m_facts_f m_pile_f m_trc_f hW hI => ?_)
  subst hW
  obtain ⟨iS, iV, iF, iR, iE, iH0, iH1, iH2, iH3, iK⟩ := hI
  have jK : ∃ k : Nat, k ≤ c + 1 ∧ x_imgs = nI k ∧ m_images = nI k ∧ (x_hasI = if k = 0 then nI 0 else nI 1) ∧ (k ≠ 0 → IvS x_kp_vow x_kp_day x_kp_worth x_kp_z x_kp_kinds_m x_kp_kinds_f x_kp_ms_m x_kp_ms_f x_kp_said_m x_kp_said_f x_kp_signs_m x_kp_signs_f x_kp_tape_m x_kp_tape_f x_kp_avo_m x_kp_avo_f x_kp_tal_m x_kp_tal_f x_kp_wai_m x_kp_wai_f m_kpt_f) := by
    obtain ⟨k, hk, q⟩ := iK
    exact ⟨k, by omega, q⟩
  obtain ⟨u, w, e1, e2, e3, jF, jE⟩ := k_odds iS iV iF iE a0 a1
  exact s_odds G tx wx tm wm x_hasI x_imgs x_vow x_day x_worth x_z x_kinds_m x_kinds_f x_ms_m x_ms_f x_said_m x_said_f x_signs_m x_signs_f x_tape_m x_tape_f x_avo_m x_avo_f x_tal_m x_tal_f x_wai_m x_wai_f x_kp_vow x_kp_day x_kp_worth x_kp_z x_kp_kinds_m x_kp_kinds_f x_kp_ms_m x_kp_ms_f x_kp_said_m x_kp_said_f x_kp_signs_m x_kp_signs_f x_kp_tape_m x_kp_tape_f x_kp_avo_m x_kp_avo_f x_kp_tal_m x_kp_tal_f x_kp_wai_m x_kp_wai_f x_fitting x_spread_f x_breakers_f x_fit_f x_counted_f x_kk x_rat x_flt x_codes_m x_codes_f x_stack_m x_stack_f x_parted x_vkk x_vkd x_vmm x_trace_m x_trace_f x_er_f x_bits0 x_num0_m x_num0_f x_bits1 x_num1_m x_num1_f x_bits2 x_num2_m x_num2_f x_bits3 x_num3_m x_num3_f m_images m_mfit m_known m_laid m_hre m_opnd m_bad m_usg m_trcd m_isP m_row_f m_kpt_f m_errs_f m_bitsOf_f m_sizeOf_f m_cels_f m_broken_f m_isFit_f m_breaks_f m_act_f m_wth_f m_facts_f m_pile_f m_trc_f a0 a1 u w e1 e2 e3 ⟨iS, iV, jF, iR, jE, iH0, iH1, iH2, iH3, jK⟩
