/-! PURE: check, feed, signs, images -/
theorem ix1 (v : Int32) (M : Nat) (hM : M + 1 < 2 ^ 31) : (v < nI 1 ∨ nI M < v) ∨ ∃ j : Nat, 1 ≤ j ∧ j ≤ M ∧ v = nI j := by
  rcases ix v (M + 1) hM with (h | h) | ⟨j, hj, rfl⟩
  · refine Or.inl (Or.inl (Int32.lt_iff_toInt_lt.mpr ?_))
    have h2 := Int32.lt_iff_toInt_lt.mp h
    have e0 : (0 : Int32).toInt = 0 := rfl
    rw [nI_toInt (by omega)]
    omega
  · refine Or.inl (Or.inr (Int32.lt_iff_toInt_lt.mpr ?_))
    have h2 := Int32.le_iff_toInt_le.mp h
    rw [nI_toInt (by omega)] at h2
    rw [nI_toInt (by omega)]
    omega
  · rcases Nat.eq_zero_or_pos j with rfl | h
    · exact Or.inl (Or.inl (by decide))
    · exact Or.inr ⟨j, h, by omega, rfl⟩
theorem w1_N {v : Int32} {M : Nat} (h : v < nI 1 ∨ nI M < v) : F_X7_within v (nI 1) (nI M) = some (nI 0) := by
  unfold F_X7_within
  rcases h with h | h
  · rw [if_pos h]; rfl
  · by_cases h2 : v < nI 1
    · rw [if_pos h2]; rfl
    · rw [if_neg h2, if_pos h]; rfl
theorem w1_Y {j M : Nat} (h0 : 1 ≤ j) (h : j ≤ M) (hM : M < 2 ^ 31) : F_X7_within (nI j) (nI 1) (nI M) = some (nI 1) := by
  unfold F_X7_within
  simp (disch := omega) only [l0, l1, l2, l3, l4, l5, l6, l7, l8, l9, l10, l11, l12, l13, l14, l15, l16, l17, l18, l19, l20, l21, l22, l23, l24, l25, l26, l27, l28, l29, l30, l32, l33, l37, l38, l40, l41, l42, l43, l45, l47, l48, l57, l58, l60, l61, l62, l63, l64, l69, l70, l74, l88, l91, l96, l97, l98, l99, l100, l102, l115, l116, l121, l124, l134, l158, l279, l255, l400, l728, l729, l9999, l99999, l12345, l1103515245, l1000000000, l1000000001, l1000000002, l1000000003, l1000000004, l1000000005, l1000000006, pk_us, nI_add, pk_mul, pk_sub, pk_div, nI_clamp, nI_ltI, nI_leI, nI_eq, bd_some, Nat.not_lt_zero, false_or, or_false, true_or, or_true, if_pos, if_neg, ite_true, ite_false, if_true, if_false, Nat.add_zero]
theorem addm {a : Nat} : nI a + -(nI 1) = nI a - nI 1 := by
  rw [Int32.sub_eq_add_neg]
theorem neg1lt : nI 0 - nI 1 < nI 0 := by decide +kernel
theorem comes {row : Nat → Int32} {n s f : Nat} (h3 : row 3 = nI n) (hn : n < 24) : F_X8_comes row (nI s) (nI f) = some (nI 0, upd (upd (upd row (26 + 2 * n) (nI s)) (26 + 2 * n + 1) (nI f)) 3 (nI (n + 1))) := by
  unfold F_X8_comes
  simp (disch := omega) only [l0, l1, l2, l3, l4, l5, l6, l7, l8, l9, l10, l11, l12, l13, l14, l15, l16, l17, l18, l19, l20, l21, l22, l23, l24, l25, l26, l27, l28, l29, l30, l32, l33, l37, l38, l40, l41, l42, l43, l45, l47, l48, l57, l58, l60, l61, l62, l63, l64, l69, l70, l74, l88, l91, l96, l97, l98, l99, l100, l102, l115, l116, l121, l124, l134, l158, l279, l255, l400, l728, l729, l9999, l99999, l12345, l1103515245, l1000000000, l1000000001, l1000000002, l1000000003, l1000000004, l1000000005, l1000000006, pk_us, nI_add, pk_mul, pk_sub, pk_div, nI_clamp, nI_ltI, nI_leI, nI_eq, bd_some, Nat.not_lt_zero, false_or, or_false, true_or, or_true, if_pos, if_neg, ite_true, ite_false, if_true, if_false, Nat.add_zero, h3, pk_un]
theorem addSign {gf : Nat → Int32} {n s f : Nat} (hn : n < 24) : F_X3_addSign (nI n) gf (nI s) (nI f) = some (nI (n + 1), upd gf n (nI (2 * s + f))) := by
  unfold F_X3_addSign
  simp (disch := omega) only [l0, l1, l2, l3, l4, l5, l6, l7, l8, l9, l10, l11, l12, l13, l14, l15, l16, l17, l18, l19, l20, l21, l22, l23, l24, l25, l26, l27, l28, l29, l30, l32, l33, l37, l38, l40, l41, l42, l43, l45, l47, l48, l57, l58, l60, l61, l62, l63, l64, l69, l70, l74, l88, l91, l96, l97, l98, l99, l100, l102, l115, l116, l121, l124, l134, l158, l279, l255, l400, l728, l729, l9999, l99999, l12345, l1103515245, l1000000000, l1000000001, l1000000002, l1000000003, l1000000004, l1000000005, l1000000006, pk_us, nI_add, pk_mul, pk_sub, pk_div, nI_clamp, nI_ltI, nI_leI, nI_eq, bd_some, Nat.not_lt_zero, false_or, or_false, true_or, or_true, if_pos, if_neg, ite_true, ite_false, if_true, if_false, Nat.add_zero, x_add]
theorem comes_keep {row : Nat → Int32} {n s f : Nat} (hn : n < 24) : ∀ j, j ≠ 3 → (j < 26 ∨ 74 ≤ j) → upd (upd (upd row (26 + 2 * n) (nI s)) (26 + 2 * n + 1) (nI f)) 3 (nI (n + 1)) j = row j := fun j h1 h2 => by
  simp (disch := omega) only [pk_un]
theorem IvG_add {gf row : Nat → Int32} {n s f : Nat} (h : IvG (nI n) gf row) (hn : n < 24) (hs : s < 64) (hf : f < 2) : IvG (nI (n + 1)) (upd gf n (nI (2 * s + f))) (upd (upd (upd row (26 + 2 * n) (nI s)) (26 + 2 * n + 1) (nI f)) 3 (nI (n + 1))) := by
  obtain ⟨m, hm, a, b, c⟩ := h
  have e : n = m := (nI_eq (by omega) (by omega)).mp a
  subst e
  refine ⟨n + 1, by omega, rfl, pk_us, fun i hi => ?_⟩
  by_cases h2 : i = n
  · subst h2
    exact ⟨s, f, hs, hf, pk_us, by simp (disch := omega) only [pk_us, pk_un], by simp (disch := omega) only [pk_us, pk_un]⟩
  · simp (disch := omega) only [pk_un]
    exact c i (by omega)
theorem refit {br : Nat → Int64} {fit counted gf row : Nat → Int32} {gm : Int32} (hV : BrV br) (hG : IvG gm gf row) : ∃ fit' counted' : Nat → Int32, F_X5_refit 24 br fit counted gm gf = some (nI (cntF row), fit', counted') ∧ FtV row fit' ∧ CtV row counted' := by
  obtain ⟨n, hn, rfl, h3, hg⟩ := hG
  obtain ⟨f1, c1, e1, e2, e3⟩ := x_refit (fit := fit) (counted := counted) hV hn h3 hg
  exact ⟨f1, c1, e1, e2, fun s hs => Or.inl (e3 s hs)⟩
theorem m_copyAll (fr to : Nat → Int32) : ∃ to' : Nat → Int32, F_X8_copyAll fr to = some to' ∧ ∀ j, j < 400 → to' j = fr j := by
  unfold F_X8_copyAll
  refine lp_go (fun i (st : Int32 × (Nat → Int32)) => st.1 = nI i ∧ ∀ j, j < i → st.2 j = fr j) (fun o => ∃ to' : Nat → Int32, o = some to' ∧ ∀ j, j < 400 → to' j = fr j) 400 (by omega) ⟨rfl, fun j hj => absurd hj (Nat.not_lt_zero j)⟩ ?_ ?_
  · rintro i ⟨a, b⟩ hi ⟨ha, hb⟩
    simp only at ha hb
    subst ha
    refine Or.inr ⟨(nI (i + 1), upd b i (fr i)), ⟨rfl, fun j hj => ?_⟩, fun k => ?_⟩
    · show upd b i (fr i) j = fr j
      by_cases h : j = i
      · subst h; exact pk_us
      · rw [pk_un h]; exact hb j (by omega)
    · unfold B_X8_copyAll_2
      simp (disch := omega) only [l0, l1, l2, l3, l4, l5, l6, l7, l8, l9, l10, l11, l12, l13, l14, l15, l16, l17, l18, l19, l20, l21, l22, l23, l24, l25, l26, l27, l28, l29, l30, l32, l33, l37, l38, l40, l41, l42, l43, l45, l47, l48, l57, l58, l60, l61, l62, l63, l64, l69, l70, l74, l88, l91, l96, l97, l98, l99, l100, l102, l115, l116, l121, l124, l134, l158, l279, l255, l400, l728, l729, l9999, l99999, l12345, l1103515245, l1000000000, l1000000001, l1000000002, l1000000003, l1000000004, l1000000005, l1000000006, pk_us, nI_add, pk_mul, pk_sub, pk_div, nI_clamp, nI_ltI, nI_leI, nI_eq, bd_some, Nat.not_lt_zero, false_or, or_false, true_or, or_true, if_pos, if_neg, ite_true, ite_false, if_true, if_false, Nat.add_zero]
  · rintro ⟨a, b⟩ ⟨ha, hb⟩ k
    simp only at ha hb
    subst ha
    unfold B_X8_copyAll_2
    simp (disch := omega) only [l0, l1, l2, l3, l4, l5, l6, l7, l8, l9, l10, l11, l12, l13, l14, l15, l16, l17, l18, l19, l20, l21, l22, l23, l24, l25, l26, l27, l28, l29, l30, l32, l33, l37, l38, l40, l41, l42, l43, l45, l47, l48, l57, l58, l60, l61, l62, l63, l64, l69, l70, l74, l88, l91, l96, l97, l98, l99, l100, l102, l115, l116, l121, l124, l134, l158, l279, l255, l400, l728, l729, l9999, l99999, l12345, l1103515245, l1000000000, l1000000001, l1000000002, l1000000003, l1000000004, l1000000005, l1000000006, pk_us, nI_add, pk_mul, pk_sub, pk_div, nI_clamp, nI_ltI, nI_leI, nI_eq, bd_some, Nat.not_lt_zero, false_or, or_false, true_or, or_true, if_pos, if_neg, ite_true, ite_false, if_true, if_false, Nat.add_zero]
    exact ⟨b, rfl, hb⟩
theorem cpy_in {o t : Nat → Int32} {n i : Nat} (h : i < n) : va_cpy o t 0 0 n i = o i := by
  rw [pk_cpy_in (Nat.zero_le i) (by omega), Nat.zero_add, Nat.sub_zero]
theorem x_hasRun {n j k : Nat} (hn : n < 2 ^ 31) (h : j + k ≤ n) : F_X1_hasRun (nI n) (nI j) (nI k) = some (nI 1) := by
  unfold F_X1_hasRun
  simp (disch := omega) only [l0, l1, l2, l3, l4, l5, l6, l7, l8, l9, l10, l11, l12, l13, l14, l15, l16, l17, l18, l19, l20, l21, l22, l23, l24, l25, l26, l27, l28, l29, l30, l32, l33, l37, l38, l40, l41, l42, l43, l45, l47, l48, l57, l58, l60, l61, l62, l63, l64, l69, l70, l74, l88, l91, l96, l97, l98, l99, l100, l102, l115, l116, l121, l124, l134, l158, l279, l255, l400, l728, l729, l9999, l99999, l12345, l1103515245, l1000000000, l1000000001, l1000000002, l1000000003, l1000000004, l1000000005, l1000000006, pk_us, nI_add, pk_mul, pk_sub, pk_div, nI_clamp, nI_ltI, nI_leI, nI_eq, bd_some, Nat.not_lt_zero, false_or, or_false, true_or, or_true, if_pos, if_neg, ite_true, ite_false, if_true, if_false, Nat.add_zero]
theorem x_takeAll {N n : Nat} (t o : Nat → Int32) (hn : n ≤ N) (hN : N < 2 ^ 31) : F_X1_takeAll N N t (nI n) o = some (nI n, va_cpy o t 0 0 n) := by
  have e : (if nI N < nI n then nI N else nI n) = nI n := if_neg (by rw [nI_ltI (by omega) (by omega)]; omega)
  unfold F_X1_takeAll
  rw [e]
  unfold F_X1_takeRun
  have hr : F_X1_hasRun (nI n) (0 : Int32) (nI n) = some (nI 1) := x_hasRun (j := 0) (k := n) (by omega) (by omega)
  rw [hr, bd_some, if_neg (by decide), bd_some, if_neg (by decide), if_neg, bd_some, nI_clamp (by omega)]
  · rfl
  · rw [nI_clamp (by omega)]
    rintro (h | h | h | h | h)
    · exact absurd h (by decide)
    · exact absurd h (by decide)
    · exact nI_pos (by omega) h
    · exact h (by show 0 + n ≤ N; omega)
    · exact h (by show 0 + n ≤ N; omega)
theorem x_stAll {vow day worth z km mm sm gm tm am lm wm : Int32} {kf mf sf gf tf af lf wf row : Nat → Int32} (h : IvS vow day worth z km kf mm mf sm sf gm gf tm tf am af lm lf wm wf row) (kf0 mf0 sf0 gf0 tf0 af0 lf0 wf0 : Nat → Int32) : ∃ kf' mf' sf' gf' tf' af' lf' wf' : Nat → Int32, F_X3_takeAll kf0 mf0 sf0 gf0 tf0 af0 lf0 wf0 vow day worth z km kf mm mf sm sf gm gf tm tf am af lm lf wm wf = some (vow, day, worth, z, km, kf', mm, mf', sm, sf', gm, gf', tm, tf', am, af', lm, lf', wm, wf') ∧ ∀ row' : Nat → Int32, (∀ j, j < 400 → row' j = row j) → IvS vow day worth z km kf' mm mf' sm sf' gm gf' tm tf' am af' lm lf' wm wf' row' := by
  obtain ⟨hN, ⟨nB, hB, b1, b2, b3, b4, b5⟩, ⟨nG, hG, g1, g2, g3⟩, ⟨nT, hT, t1, t2, t3⟩, ⟨nA, hA, a1, a2, a3, a4⟩, ⟨nL, hL, l1', l2', l3', l4'⟩, ⟨nW, hW, w1, w2, w3⟩⟩ := h
  subst b1 b2 b3 g1 t1 a1 l1' w1
  refine ⟨va_cpy kf kf0 0 0 nB, va_cpy mf mf0 0 0 nB, va_cpy sf sf0 0 0 nB, va_cpy gf gf0 0 0 nG, va_cpy tf tf0 0 0 nT, va_cpy af af0 0 0 nA, va_cpy lf lf0 0 0 nL, va_cpy wf wf0 0 0 nW, ?_, fun row' hr => ⟨?_, ?_, ?_, ?_, ?_, ?_, ?_⟩⟩
  · unfold F_X3_takeAll
    rw [x_takeAll _ _ hB (by omega), bd_some, x_takeAll _ _ hB (by omega), bd_some, x_takeAll _ _ hB (by omega), bd_some, x_takeAll _ _ hG (by omega), bd_some, x_takeAll _ _ hT (by omega), bd_some, x_takeAll _ _ hA (by omega), bd_some, x_takeAll _ _ hL (by omega), bd_some, x_takeAll _ _ hW (by omega), bd_some]
  · exact hN.cong (hr _ (by omega)) (hr _ (by omega)) (hr _ (by omega)) (hr _ (by omega))
  · refine IvB.cong (row := row) ⟨nB, hB, rfl, rfl, rfl, b4, fun i hi => ?_⟩ (hr _ (by omega)) (fun j _ _ => hr j (by omega))
    rw [cpy_in hi, cpy_in hi, cpy_in hi]
    exact b5 i hi
  · refine IvG.cong (row := row) ⟨nG, hG, rfl, g2, fun i hi => ?_⟩ (hr _ (by omega)) (fun j _ _ => hr j (by omega))
    rw [cpy_in hi]
    exact g3 i hi
  · refine IvT.cong (row := row) ⟨nT, hT, rfl, t2, fun i hi => ?_⟩ (hr _ (by omega)) (fun j _ _ => hr j (by omega))
    rw [cpy_in hi]
    exact t3 i hi
  · refine IvC.cong (row := row) ⟨nA, hA, rfl, a2, fun i hi => ?_, a4⟩ (fun j _ _ => hr j (by omega))
    rw [cpy_in hi]
    exact a3 i hi
  · refine IvC.cong (row := row) ⟨nL, hL, rfl, l2', fun i hi => ?_, l4'⟩ (fun j _ _ => hr j (by omega))
    rw [cpy_in hi]
    exact l3' i hi
  · refine IvW.cong (row := row) ⟨nW, hW, rfl, w2, fun i hi => ?_⟩ (hr _ (by omega)) (fun j _ _ => hr j (by omega))
    rw [cpy_in hi]
    exact w3 i hi
section
variable {c : Nat} {x_hasI : Int32} {x_imgs : Int32} {x_vow : Int32} {x_day : Int32} {x_worth : Int32} {x_z : Int32} {x_kinds_m : Int32} {x_kinds_f : Nat → Int32} {x_ms_m : Int32} {x_ms_f : Nat → Int32} {x_said_m : Int32} {x_said_f : Nat → Int32} {x_signs_m : Int32} {x_signs_f : Nat → Int32} {x_tape_m : Int32} {x_tape_f : Nat → Int32} {x_avo_m : Int32} {x_avo_f : Nat → Int32} {x_tal_m : Int32} {x_tal_f : Nat → Int32} {x_wai_m : Int32} {x_wai_f : Nat → Int32} {x_kp_vow : Int32} {x_kp_day : Int32} {x_kp_worth : Int32} {x_kp_z : Int32} {x_kp_kinds_m : Int32} {x_kp_kinds_f : Nat → Int32} {x_kp_ms_m : Int32} {x_kp_ms_f : Nat → Int32} {x_kp_said_m : Int32} {x_kp_said_f : Nat → Int32} {x_kp_signs_m : Int32} {x_kp_signs_f : Nat → Int32} {x_kp_tape_m : Int32} {x_kp_tape_f : Nat → Int32} {x_kp_avo_m : Int32} {x_kp_avo_f : Nat → Int32} {x_kp_tal_m : Int32} {x_kp_tal_f : Nat → Int32} {x_kp_wai_m : Int32} {x_kp_wai_f : Nat → Int32} {x_fitting : Int32} {x_spread_f : Nat → Int32} {x_breakers_f : Nat → Int64} {x_fit_f : Nat → Int32} {x_counted_f : Nat → Int32} {x_kk : Nat} {x_rat : Int32} {x_flt : Int32} {x_codes_m : Int32} {x_codes_f : Nat → Int32} {x_stack_m : Int32} {x_stack_f : Nat → Int32} {x_parted : Int32} {x_vkk : Int32} {x_vkd : Int32} {x_vmm : Int32} {x_trace_m : Int32} {x_trace_f : Nat → Int32} {x_er_f : Nat → Int32} {x_bits0 : Int32} {x_num0_m : Int32} {x_num0_f : Nat → Int32} {x_bits1 : Int32} {x_num1_m : Int32} {x_num1_f : Nat → Int32} {x_bits2 : Int32} {x_num2_m : Int32} {x_num2_f : Nat → Int32} {x_bits3 : Int32} {x_num3_m : Int32} {x_num3_f : Nat → Int32} {m_images : Int32} {m_mfit : Int32} {m_known : Int32} {m_laid : Int32} {m_hre : Int32} {m_opnd : Int32} {m_bad : Int32} {m_usg : Int32} {m_trcd : Int32} {m_isP : Int32} {m_row_f : Nat → Int32} {m_kpt_f : Nat → Int32} {m_errs_f : Nat → Int32} {m_bitsOf_f : Nat → Int32} {m_sizeOf_f : Nat → Int32} {m_cels_f : Nat → Int32} {m_broken_f : Nat → Int64} {m_isFit_f : Nat → Int32} {m_breaks_f : Nat → Int32} {m_act_f : Nat → Int32} {m_wth_f : Nat → Int32} {m_facts_f : Nat → Int32} {m_pile_f : Nat → Int32} {m_trc_f : Nat → Int32}
theorem k_check (iS : IvS x_vow x_day x_worth x_z x_kinds_m x_kinds_f x_ms_m x_ms_f x_said_m x_said_f x_signs_m x_signs_f x_tape_m x_tape_f x_avo_m x_avo_f x_tal_m x_tal_f x_wai_m x_wai_f m_row_f) (iF : IvF m_row_f x_fitting x_fit_f x_counted_f m_mfit m_known m_isFit_f m_breaks_f) : ∃ (u : (Int32 × Int32)) (w : (Int32 × (Nat → Int32))), F_X7_check x_kinds_m x_said_m x_said_f x_wai_m x_wai_f = some u ∧ F_X8_check m_row_f = some w ∧ u.1 = w.1 ∧ IvS x_vow x_day x_worth x_z x_kinds_m x_kinds_f x_ms_m x_ms_f x_said_m x_said_f x_signs_m x_signs_f x_tape_m x_tape_f x_avo_m x_avo_f x_tal_m x_tal_f u.2 x_wai_f w.2 ∧ IvF w.2 x_fitting x_fit_f x_counted_f m_mfit m_known m_isFit_f m_breaks_f := by
  have hB0 := iS.2.1
  have hW0 := iS.2.2.2.2.2.2
  obtain ⟨nB, hB, b1, b2, b3, b4, b5⟩ := hB0
  obtain ⟨nW, hW, w1, w2, w3⟩ := hW0
  subst b1 b2 b3 w1
  have hmis : ∃ wr : Nat, wr ≤ nW ∧ (∀ i, i < wr → i < nB ∧ x_said_f i = x_wai_f i) ∧ (wr < nW → ¬ (wr < nB ∧ x_said_f wr = x_wai_f wr)) ∧ F_X7_check (nI nB) (nI nB) x_said_f (nI nW) x_wai_f = some (if wr < nW then nI (1 + wr) else nI 0, nI 0) := by
    unfold F_X7_check F_X1_many
    rw [bd_some]
    refine lp_go (fun j (st : Int32 × Int32) => ∃ wr : Nat, wr ≤ nW ∧ nW - j ≤ wr ∧ (∀ i, nW - j ≤ i → i < wr → i < nB ∧ x_said_f i = x_wai_f i) ∧ (wr < nW → ¬ (wr < nB ∧ x_said_f wr = x_wai_f wr)) ∧ st = (nI wr, nI (nW - j) - nI 1)) (fun o => ∃ wr : Nat, wr ≤ nW ∧ (∀ i, i < wr → i < nB ∧ x_said_f i = x_wai_f i) ∧ (wr < nW → ¬ (wr < nB ∧ x_said_f wr = x_wai_f wr)) ∧ o = some (if wr < nW then nI (1 + wr) else nI 0, nI 0)) nW (by omega) ⟨nW, Nat.le_refl _, by omega, fun i h1 h2 => by omega, fun h => absurd h (Nat.lt_irrefl _), rfl⟩ ?_ ?_
    · rintro j st hj ⟨wr, h1, h2, h3, h4, rfl⟩
      have ei : nI (nW - j) - nI 1 = nI (nW - (j + 1)) := by rw [pk_sub (by omega)]; congr 1
      rw [ei]
      by_cases hok : nW - (j + 1) < nB ∧ x_said_f (nW - (j + 1)) = x_wai_f (nW - (j + 1))
      · refine Or.inr ⟨_, ⟨wr, h1, by omega, fun i g1 g2 => ?_, h4, rfl⟩, fun k => ?_⟩
        · rcases Nat.lt_or_ge i (nW - j) with g | g
          · rw [show i = nW - (j + 1) by omega]; exact hok
          · exact h3 i g g2
        · unfold B_X7_check_15
          simp (disch := omega) only [l0, l1, l2, l3, l4, l5, l6, l7, l8, l9, l10, l11, l12, l13, l14, l15, l16, l17, l18, l19, l20, l21, l22, l23, l24, l25, l26, l27, l28, l29, l30, l32, l33, l37, l38, l40, l41, l42, l43, l45, l47, l48, l57, l58, l60, l61, l62, l63, l64, l69, l70, l74, l88, l91, l96, l97, l98, l99, l100, l102, l115, l116, l121, l124, l134, l158, l279, l255, l400, l728, l729, l9999, l99999, l12345, l1103515245, l1000000000, l1000000001, l1000000002, l1000000003, l1000000004, l1000000005, l1000000006, nI_ltI, Nat.not_lt_zero, if_false, isB_Y hok.1, bd_some, nI_eq, if_neg, x_get _ hok.1 hB, x_get x_wai_f (show nW - (j + 1) < nW by omega) hW, hok.2, if_true, addm]
      · refine Or.inr ⟨_, ⟨nW - (j + 1), by omega, by omega, fun i g1 g2 => by omega, fun _ => hok, rfl⟩, fun k => ?_⟩
        unfold B_X7_check_15
        by_cases hb : nW - (j + 1) < nB
        · have hne : ¬ x_said_f (nW - (j + 1)) = x_wai_f (nW - (j + 1)) := fun e => hok ⟨hb, e⟩
          simp (disch := omega) only [l0, l1, l2, l3, l4, l5, l6, l7, l8, l9, l10, l11, l12, l13, l14, l15, l16, l17, l18, l19, l20, l21, l22, l23, l24, l25, l26, l27, l28, l29, l30, l32, l33, l37, l38, l40, l41, l42, l43, l45, l47, l48, l57, l58, l60, l61, l62, l63, l64, l69, l70, l74, l88, l91, l96, l97, l98, l99, l100, l102, l115, l116, l121, l124, l134, l158, l279, l255, l400, l728, l729, l9999, l99999, l12345, l1103515245, l1000000000, l1000000001, l1000000002, l1000000003, l1000000004, l1000000005, l1000000006, nI_ltI, Nat.not_lt_zero, if_false, isB_Y hb, bd_some, nI_eq, if_neg, x_get _ hb hB, x_get x_wai_f (show nW - (j + 1) < nW by omega) hW, hne, addm]
        · simp (disch := omega) only [l0, l1, l2, l3, l4, l5, l6, l7, l8, l9, l10, l11, l12, l13, l14, l15, l16, l17, l18, l19, l20, l21, l22, l23, l24, l25, l26, l27, l28, l29, l30, l32, l33, l37, l38, l40, l41, l42, l43, l45, l47, l48, l57, l58, l60, l61, l62, l63, l64, l69, l70, l74, l88, l91, l96, l97, l98, l99, l100, l102, l115, l116, l121, l124, l134, l158, l279, l255, l400, l728, l729, l9999, l99999, l12345, l1103515245, l1000000000, l1000000001, l1000000002, l1000000003, l1000000004, l1000000005, l1000000006, nI_ltI, Nat.not_lt_zero, if_false, isB_N (show nI (nW - (j + 1)) < 0 ∨ nI nB ≤ nI (nW - (j + 1)) from Or.inr ((nI_leI (by omega) (by omega)).mpr (by omega))), bd_some, if_true, addm]
    · rintro st ⟨wr, h1, h2, h3, h4, rfl⟩ k
      refine ⟨wr, h1, fun i hi => h3 i (by omega) hi, h4, ?_⟩
      unfold B_X7_check_15 F_X1_many F_X1_clear
      rw [Nat.sub_self]
      simp (disch := omega) only [l0, l1, l2, l3, l4, l5, l6, l7, l8, l9, l10, l11, l12, l13, l14, l15, l16, l17, l18, l19, l20, l21, l22, l23, l24, l25, l26, l27, l28, l29, l30, l32, l33, l37, l38, l40, l41, l42, l43, l45, l47, l48, l57, l58, l60, l61, l62, l63, l64, l69, l70, l74, l88, l91, l96, l97, l98, l99, l100, l102, l115, l116, l121, l124, l134, l158, l279, l255, l400, l728, l729, l9999, l99999, l12345, l1103515245, l1000000000, l1000000001, l1000000002, l1000000003, l1000000004, l1000000005, l1000000006, if_pos neg1lt, bd_some, nI_leI, nI_add]
      by_cases hc : wr < nW
      · rw [if_pos hc, if_neg (by omega)]
      · rw [if_neg hc, if_pos (by omega)]
  obtain ⟨wr, h1, h2, h3, h4⟩ := hmis
  have hm : F_X8_check m_row_f = some (if wr < nW then nI (1 + wr) else nI 0, upd m_row_f 7 (nI 0)) := by
    unfold F_X8_check
    refine lp_det (body := B_X8_check_18 m_row_f) (fun i => nI i) _ wr (by omega) ?_ ?_
    · intro i hi k
      obtain ⟨g1, g2⟩ := h2 i hi
      have g3 : m_row_f (134 + i) = m_row_f (8 + 3 * i + 2) := by rw [← w3 i (by omega), ← (b5 i g1).2.2.1, g2]
      have g4 : upd m_row_f 7 (nI 0) 2 = nI nB := by rw [pk_un (by omega)]; exact b4
      unfold B_X8_check_18
      simp (disch := omega) only [l0, l1, l2, l3, l4, l5, l6, l7, l8, l9, l10, l11, l12, l13, l14, l15, l16, l17, l18, l19, l20, l21, l22, l23, l24, l25, l26, l27, l28, l29, l30, l32, l33, l37, l38, l40, l41, l42, l43, l45, l47, l48, l57, l58, l60, l61, l62, l63, l64, l69, l70, l74, l88, l91, l96, l97, l98, l99, l100, l102, l115, l116, l121, l124, l134, l158, l279, l255, l400, l728, l729, l9999, l99999, l12345, l1103515245, l1000000000, l1000000001, l1000000002, l1000000003, l1000000004, l1000000005, l1000000006, pk_us, nI_add, pk_mul, pk_sub, pk_div, nI_clamp, nI_ltI, nI_leI, nI_eq, bd_some, Nat.not_lt_zero, false_or, or_false, true_or, or_true, if_pos, if_neg, ite_true, ite_false, if_true, if_false, Nat.add_zero, w2, mB_Y g4 g1, m_of, pk_un, g3]
    · intro k
      have g4 : upd m_row_f 7 (nI 0) 2 = nI nB := by rw [pk_un (by omega)]; exact b4
      by_cases hc : wr < nW
      · rw [if_pos hc]
        unfold B_X8_check_18
        by_cases hb : wr < nB
        · have hne : ¬ m_row_f (134 + wr) = m_row_f (8 + 3 * wr + 2) := fun e => h3 hc ⟨hb, by rw [w3 wr hc, (b5 wr hb).2.2.1, e]⟩
          simp (disch := omega) only [l0, l1, l2, l3, l4, l5, l6, l7, l8, l9, l10, l11, l12, l13, l14, l15, l16, l17, l18, l19, l20, l21, l22, l23, l24, l25, l26, l27, l28, l29, l30, l32, l33, l37, l38, l40, l41, l42, l43, l45, l47, l48, l57, l58, l60, l61, l62, l63, l64, l69, l70, l74, l88, l91, l96, l97, l98, l99, l100, l102, l115, l116, l121, l124, l134, l158, l279, l255, l400, l728, l729, l9999, l99999, l12345, l1103515245, l1000000000, l1000000001, l1000000002, l1000000003, l1000000004, l1000000005, l1000000006, pk_us, nI_add, pk_mul, pk_sub, pk_div, nI_clamp, nI_ltI, nI_leI, nI_eq, bd_some, Nat.not_lt_zero, false_or, or_false, true_or, or_true, if_pos, if_neg, ite_true, ite_false, if_true, if_false, Nat.add_zero, w2, mB_Y g4 hb, m_of, pk_un, hne]
        · simp (disch := omega) only [l0, l1, l2, l3, l4, l5, l6, l7, l8, l9, l10, l11, l12, l13, l14, l15, l16, l17, l18, l19, l20, l21, l22, l23, l24, l25, l26, l27, l28, l29, l30, l32, l33, l37, l38, l40, l41, l42, l43, l45, l47, l48, l57, l58, l60, l61, l62, l63, l64, l69, l70, l74, l88, l91, l96, l97, l98, l99, l100, l102, l115, l116, l121, l124, l134, l158, l279, l255, l400, l728, l729, l9999, l99999, l12345, l1103515245, l1000000000, l1000000001, l1000000002, l1000000003, l1000000004, l1000000005, l1000000006, pk_us, nI_add, pk_mul, pk_sub, pk_div, nI_clamp, nI_ltI, nI_leI, nI_eq, bd_some, Nat.not_lt_zero, false_or, or_false, true_or, or_true, if_pos, if_neg, ite_true, ite_false, if_true, if_false, Nat.add_zero, w2, mB_N g4 (show nI wr < 0 ∨ nI nB ≤ nI wr from Or.inr ((nI_leI (by omega) (by omega)).mpr (by omega)))]
      · rw [if_neg hc]
        unfold B_X8_check_18
        simp (disch := omega) only [l0, l1, l2, l3, l4, l5, l6, l7, l8, l9, l10, l11, l12, l13, l14, l15, l16, l17, l18, l19, l20, l21, l22, l23, l24, l25, l26, l27, l28, l29, l30, l32, l33, l37, l38, l40, l41, l42, l43, l45, l47, l48, l57, l58, l60, l61, l62, l63, l64, l69, l70, l74, l88, l91, l96, l97, l98, l99, l100, l102, l115, l116, l121, l124, l134, l158, l279, l255, l400, l728, l729, l9999, l99999, l12345, l1103515245, l1000000000, l1000000001, l1000000002, l1000000003, l1000000004, l1000000005, l1000000006, pk_us, nI_add, pk_mul, pk_sub, pk_div, nI_clamp, nI_ltI, nI_leI, nI_eq, bd_some, Nat.not_lt_zero, false_or, or_false, true_or, or_true, if_pos, if_neg, ite_true, ite_false, if_true, if_false, Nat.add_zero, w2]
  refine ⟨_, _, h4, hm, rfl, ?_, ?_⟩
  · dsimp only
    exact iS.stW ⟨0, by omega, rfl, pk_us, fun i hi => absurd hi (Nat.not_lt_zero i)⟩ (fun j h1 h2 => pk_un h1)
  · dsimp only
    exact iF.keep iS (pk_un (by omega)) (fun j _ _ => pk_un (by omega))
theorem k_feed (iS : IvS x_vow x_day x_worth x_z x_kinds_m x_kinds_f x_ms_m x_ms_f x_said_m x_said_f x_signs_m x_signs_f x_tape_m x_tape_f x_avo_m x_avo_f x_tal_m x_tal_f x_wai_m x_wai_f m_row_f) (iF : IvF m_row_f x_fitting x_fit_f x_counted_f m_mfit m_known m_isFit_f m_breaks_f) (iE : IvE x_er_f m_errs_f) (wd : Int64) (k : Int32) : ∃ (u : (Int32 × Int32 × (Nat → Int32) × (Nat → Int32))) (w : (Int32 × (Nat → Int32) × (Nat → Int32))), F_X7_feed x_tape_m x_tape_f x_er_f wd k = some u ∧ F_X8_feed m_row_f m_errs_f wd k = some w ∧ u.1 = w.1 ∧ IvS x_vow x_day x_worth x_z x_kinds_m x_kinds_f x_ms_m x_ms_f x_said_m x_said_f x_signs_m x_signs_f u.2.1 u.2.2.1 x_avo_m x_avo_f x_tal_m x_tal_f x_wai_m x_wai_f w.2.1 ∧ IvF w.2.1 x_fitting x_fit_f x_counted_f m_mfit m_known m_isFit_f m_breaks_f ∧ IvE u.2.2.2 w.2.2 := by
  have hT0 := iS.2.2.2.1
  obtain ⟨nT, hT, t1, t2, t3⟩ := hT0
  subst t1
  rcases ix1 k 8 (by omega) with h | ⟨n, hn1, hn8, rfl⟩
  · refine ⟨(-(nI 1000000001), nI nT, x_tape_f, upd x_er_f 1 (x_er_f 1 + nI 1)), (-(nI 1000000001), m_row_f, upd m_errs_f 1 (m_errs_f 1 + nI 1)), ?_, ?_, rfl, iS, iF, iE.err 1⟩
    · unfold F_X7_feed
      simp (disch := omega) only [l0, l1, l2, l3, l4, l5, l6, l7, l8, l9, l10, l11, l12, l13, l14, l15, l16, l17, l18, l19, l20, l21, l22, l23, l24, l25, l26, l27, l28, l29, l30, l32, l33, l37, l38, l40, l41, l42, l43, l45, l47, l48, l57, l58, l60, l61, l62, l63, l64, l69, l70, l74, l88, l91, l96, l97, l98, l99, l100, l102, l115, l116, l121, l124, l134, l158, l279, l255, l400, l728, l729, l9999, l99999, l12345, l1103515245, l1000000000, l1000000001, l1000000002, l1000000003, l1000000004, l1000000005, l1000000006, pk_us, nI_add, pk_mul, pk_sub, pk_div, nI_clamp, nI_ltI, nI_leI, nI_eq, bd_some, Nat.not_lt_zero, false_or, or_false, true_or, or_true, if_pos, if_neg, ite_true, ite_false, if_true, if_false, Nat.add_zero, w1_N h, x_err1]
    · unfold F_X8_feed
      simp (disch := omega) only [l0, l1, l2, l3, l4, l5, l6, l7, l8, l9, l10, l11, l12, l13, l14, l15, l16, l17, l18, l19, l20, l21, l22, l23, l24, l25, l26, l27, l28, l29, l30, l32, l33, l37, l38, l40, l41, l42, l43, l45, l47, l48, l57, l58, l60, l61, l62, l63, l64, l69, l70, l74, l88, l91, l96, l97, l98, l99, l100, l102, l115, l116, l121, l124, l134, l158, l279, l255, l400, l728, l729, l9999, l99999, l12345, l1103515245, l1000000000, l1000000001, l1000000002, l1000000003, l1000000004, l1000000005, l1000000006, pk_us, nI_add, pk_mul, pk_sub, pk_div, nI_clamp, nI_ltI, nI_leI, nI_eq, bd_some, Nat.not_lt_zero, false_or, or_false, true_or, or_true, if_pos, if_neg, ite_true, ite_false, if_true, if_false, Nat.add_zero, in_eq, w1_N h, m_err1]
  by_cases hc : nT + n ≤ 60
  · have key : ∃ (tf' row' : Nat → Int32), F_X7_feed (nI nT) x_tape_f x_er_f wd (nI n) = some (nI (nT + n), nI (nT + n), tf', x_er_f) ∧ F_X8_feed m_row_f m_errs_f wd (nI n) = some (nI (nT + n), row', m_errs_f) ∧ IvT (nI (nT + n)) tf' row' ∧ ∀ j, j ≠ 6 → (j < 74 ∨ 134 ≤ j) → row' j = m_row_f j := by
      unfold F_X7_feed F_X8_feed F_X1_many
      simp (disch := omega) only [l0, l1, l2, l3, l4, l5, l6, l7, l8, l9, l10, l11, l12, l13, l14, l15, l16, l17, l18, l19, l20, l21, l22, l23, l24, l25, l26, l27, l28, l29, l30, l32, l33, l37, l38, l40, l41, l42, l43, l45, l47, l48, l57, l58, l60, l61, l62, l63, l64, l69, l70, l74, l88, l91, l96, l97, l98, l99, l100, l102, l115, l116, l121, l124, l134, l158, l279, l255, l400, l728, l729, l9999, l99999, l12345, l1103515245, l1000000000, l1000000001, l1000000002, l1000000003, l1000000004, l1000000005, l1000000006, pk_us, nI_add, pk_mul, pk_sub, pk_div, nI_clamp, nI_ltI, nI_leI, nI_eq, bd_some, Nat.not_lt_zero, false_or, or_false, true_or, or_true, if_pos, if_neg, ite_true, ite_false, if_true, if_false, Nat.add_zero, in_eq, w1_Y, t2]
      refine lp_two (body := B_X7_feed_42 x_er_f wd (nI n)) (body' := B_X8_feed_41 m_errs_f wd (nI n)) (fun i s t => s.1 = nI i ∧ s.2.1 = nI (nT + i) ∧ t.1 = nI i ∧ IvT (nI (nT + i)) s.2.2 t.2 ∧ ∀ j, j ≠ 6 → (j < 74 ∨ 134 ≤ j) → t.2 j = m_row_f j) (fun o o' => ∃ (tf' row' : Nat → Int32), o = some (nI (nT + n), nI (nT + n), tf', x_er_f) ∧ o' = some (nI (nT + n), row', m_errs_f) ∧ IvT (nI (nT + n)) tf' row' ∧ ∀ j, j ≠ 6 → (j < 74 ∨ 134 ≤ j) → row' j = m_row_f j) n (by omega) ⟨rfl, rfl, rfl, ⟨nT, hT, rfl, t2, t3⟩, fun j _ _ => rfl⟩ ?_ ?_
      · rintro i ⟨s1, s2, s3⟩ ⟨q1, q2⟩ hi ⟨h1, h2, h3, h4, h5⟩
        simp only at h1 h2 h3 h4 h5
        subst h1 h2 h3
        obtain ⟨m, hm, e1, e2, e3⟩ := h4
        have e4 : nT + i = m := (nI_eq (by omega) (by omega)).mp e1
        subst e4
        obtain ⟨y, hy, y1, y2⟩ := fed (i := i) (by omega) wd
        refine Or.inr ⟨(nI (i + 1), nI (nT + i + 1), upd s3 (nT + i) (nI y)), (nI (i + 1), upd (upd q2 (74 + (nT + i)) (nI y)) 6 (nI (nT + i + 1))), ⟨rfl, rfl, rfl, ⟨nT + i + 1, by omega, rfl, by dsimp only; exact pk_us, fun z hz => ?_⟩, fun j g1 g2 => ?_⟩, fun kk => ?_, fun kk => ?_⟩
        · dsimp only
          by_cases hz2 : z = nT + i
          · subst hz2
            exact ⟨y, hy, pk_us, by simp (disch := omega) only [pk_us, pk_un]⟩
          · simp (disch := omega) only [pk_un]
            exact e3 z (by omega)
        · dsimp only
          simp (disch := omega) only [pk_un]
          exact h5 j g1 g2
        · unfold B_X7_feed_42
          simp (disch := omega) only [l0, l1, l2, l3, l4, l5, l6, l7, l8, l9, l10, l11, l12, l13, l14, l15, l16, l17, l18, l19, l20, l21, l22, l23, l24, l25, l26, l27, l28, l29, l30, l32, l33, l37, l38, l40, l41, l42, l43, l45, l47, l48, l57, l58, l60, l61, l62, l63, l64, l69, l70, l74, l88, l91, l96, l97, l98, l99, l100, l102, l115, l116, l121, l124, l134, l158, l279, l255, l400, l728, l729, l9999, l99999, l12345, l1103515245, l1000000000, l1000000001, l1000000002, l1000000003, l1000000004, l1000000005, l1000000006, pk_us, nI_add, pk_mul, pk_sub, pk_div, nI_clamp, nI_ltI, nI_leI, nI_eq, bd_some, Nat.not_lt_zero, false_or, or_false, true_or, or_true, if_pos, if_neg, ite_true, ite_false, if_true, if_false, Nat.add_zero, x_add, y1]
        · unfold B_X8_feed_41
          simp (disch := omega) only [l0, l1, l2, l3, l4, l5, l6, l7, l8, l9, l10, l11, l12, l13, l14, l15, l16, l17, l18, l19, l20, l21, l22, l23, l24, l25, l26, l27, l28, l29, l30, l32, l33, l37, l38, l40, l41, l42, l43, l45, l47, l48, l57, l58, l60, l61, l62, l63, l64, l69, l70, l74, l88, l91, l96, l97, l98, l99, l100, l102, l115, l116, l121, l124, l134, l158, l279, l255, l400, l728, l729, l9999, l99999, l12345, l1103515245, l1000000000, l1000000001, l1000000002, l1000000003, l1000000004, l1000000005, l1000000006, pk_us, nI_add, pk_mul, pk_sub, pk_div, nI_clamp, nI_ltI, nI_leI, nI_eq, bd_some, Nat.not_lt_zero, false_or, or_false, true_or, or_true, if_pos, if_neg, ite_true, ite_false, if_true, if_false, Nat.add_zero, e2, pk_un, y2]
      · rintro ⟨s1, s2, s3⟩ ⟨q1, q2⟩ ⟨h1, h2, h3, h4, h5⟩ kk kk'
        simp only at h1 h2 h3 h4 h5
        subst h1 h2 h3
        have h6 : q2 6 = nI (nT + n) := by
          obtain ⟨m, hm, e1, e2, e3⟩ := h4
          rw [e2, ← e1]
        refine ⟨s3, q2, ?_, ?_, h4, h5⟩
        · unfold B_X7_feed_42 F_X1_many
          simp (disch := omega) only [l0, l1, l2, l3, l4, l5, l6, l7, l8, l9, l10, l11, l12, l13, l14, l15, l16, l17, l18, l19, l20, l21, l22, l23, l24, l25, l26, l27, l28, l29, l30, l32, l33, l37, l38, l40, l41, l42, l43, l45, l47, l48, l57, l58, l60, l61, l62, l63, l64, l69, l70, l74, l88, l91, l96, l97, l98, l99, l100, l102, l115, l116, l121, l124, l134, l158, l279, l255, l400, l728, l729, l9999, l99999, l12345, l1103515245, l1000000000, l1000000001, l1000000002, l1000000003, l1000000004, l1000000005, l1000000006, pk_us, nI_add, pk_mul, pk_sub, pk_div, nI_clamp, nI_ltI, nI_leI, nI_eq, bd_some, Nat.not_lt_zero, false_or, or_false, true_or, or_true, if_pos, if_neg, ite_true, ite_false, if_true, if_false, Nat.add_zero]
        · unfold B_X8_feed_41
          simp (disch := omega) only [l0, l1, l2, l3, l4, l5, l6, l7, l8, l9, l10, l11, l12, l13, l14, l15, l16, l17, l18, l19, l20, l21, l22, l23, l24, l25, l26, l27, l28, l29, l30, l32, l33, l37, l38, l40, l41, l42, l43, l45, l47, l48, l57, l58, l60, l61, l62, l63, l64, l69, l70, l74, l88, l91, l96, l97, l98, l99, l100, l102, l115, l116, l121, l124, l134, l158, l279, l255, l400, l728, l729, l9999, l99999, l12345, l1103515245, l1000000000, l1000000001, l1000000002, l1000000003, l1000000004, l1000000005, l1000000006, pk_us, nI_add, pk_mul, pk_sub, pk_div, nI_clamp, nI_ltI, nI_leI, nI_eq, bd_some, Nat.not_lt_zero, false_or, or_false, true_or, or_true, if_pos, if_neg, ite_true, ite_false, if_true, if_false, Nat.add_zero, h6]
    obtain ⟨tf', row', e1, e2, e3, e4⟩ := key
    refine ⟨_, _, e1, e2, rfl, ?_, ?_, iE⟩
    · dsimp only
      exact iS.stT e3 e4
    · dsimp only
      exact iF.keep iS (e4 3 (by omega) (by omega)) (fun j _ _ => e4 j (by omega) (by omega))
  · refine ⟨(-(nI 1000000004), nI nT, x_tape_f, upd x_er_f 4 (x_er_f 4 + nI 1)), (-(nI 1000000004), m_row_f, upd m_errs_f 4 (m_errs_f 4 + nI 1)), ?_, ?_, rfl, iS, iF, iE.err 4⟩
    · unfold F_X7_feed F_X1_many
      simp (disch := omega) only [l0, l1, l2, l3, l4, l5, l6, l7, l8, l9, l10, l11, l12, l13, l14, l15, l16, l17, l18, l19, l20, l21, l22, l23, l24, l25, l26, l27, l28, l29, l30, l32, l33, l37, l38, l40, l41, l42, l43, l45, l47, l48, l57, l58, l60, l61, l62, l63, l64, l69, l70, l74, l88, l91, l96, l97, l98, l99, l100, l102, l115, l116, l121, l124, l134, l158, l279, l255, l400, l728, l729, l9999, l99999, l12345, l1103515245, l1000000000, l1000000001, l1000000002, l1000000003, l1000000004, l1000000005, l1000000006, pk_us, nI_add, pk_mul, pk_sub, pk_div, nI_clamp, nI_ltI, nI_leI, nI_eq, bd_some, Nat.not_lt_zero, false_or, or_false, true_or, or_true, if_pos, if_neg, ite_true, ite_false, if_true, if_false, Nat.add_zero, w1_Y, x_err4]
    · unfold F_X8_feed
      simp (disch := omega) only [l0, l1, l2, l3, l4, l5, l6, l7, l8, l9, l10, l11, l12, l13, l14, l15, l16, l17, l18, l19, l20, l21, l22, l23, l24, l25, l26, l27, l28, l29, l30, l32, l33, l37, l38, l40, l41, l42, l43, l45, l47, l48, l57, l58, l60, l61, l62, l63, l64, l69, l70, l74, l88, l91, l96, l97, l98, l99, l100, l102, l115, l116, l121, l124, l134, l158, l279, l255, l400, l728, l729, l9999, l99999, l12345, l1103515245, l1000000000, l1000000001, l1000000002, l1000000003, l1000000004, l1000000005, l1000000006, pk_us, nI_add, pk_mul, pk_sub, pk_div, nI_clamp, nI_ltI, nI_leI, nI_eq, bd_some, Nat.not_lt_zero, false_or, or_false, true_or, or_true, if_pos, if_neg, ite_true, ite_false, if_true, if_false, Nat.add_zero, in_eq, w1_Y, t2, m_err4]
theorem k_sign (iS : IvS x_vow x_day x_worth x_z x_kinds_m x_kinds_f x_ms_m x_ms_f x_said_m x_said_f x_signs_m x_signs_f x_tape_m x_tape_f x_avo_m x_avo_f x_tal_m x_tal_f x_wai_m x_wai_f m_row_f) (iV : IvV x_spread_f x_breakers_f m_broken_f) (iF : IvF m_row_f x_fitting x_fit_f x_counted_f m_mfit m_known m_isFit_f m_breaks_f) (iE : IvE x_er_f m_errs_f) (sy : Int32) (fe : Int32) : ∃ (u : (Int32 × Int32 × (Nat → Int32) × Int32 × (Nat → Int32) × (Nat → Int32) × (Nat → Int32))) (w : (Int32 × Int32 × Int32 × (Nat → Int32) × (Nat → Int32) × (Nat → Int32) × (Nat → Int32))), F_X7_sign x_signs_m x_signs_f x_fitting x_breakers_f x_fit_f x_counted_f x_er_f sy fe = some u ∧ F_X8_sign m_mfit m_known m_row_f m_errs_f m_broken_f m_isFit_f m_breaks_f sy fe = some w ∧ u.1 = w.1 ∧ IvS x_vow x_day x_worth x_z x_kinds_m x_kinds_f x_ms_m x_ms_f x_said_m x_said_f u.2.1 u.2.2.1 x_tape_m x_tape_f x_avo_m x_avo_f x_tal_m x_tal_f x_wai_m x_wai_f w.2.2.2.1 ∧ IvF w.2.2.2.1 u.2.2.2.1 u.2.2.2.2.1 u.2.2.2.2.2.1 w.2.1 w.2.2.1 w.2.2.2.2.2.1 w.2.2.2.2.2.2 ∧ IvE u.2.2.2.2.2.2 w.2.2.2.2.1 := by
  have hG0 := iS.2.2.1
  obtain ⟨n, hn, g1, g2, g3⟩ := hG0
  rcases ix sy 64 (by omega) with h | ⟨s, hs, rfl⟩
  · refine ⟨(-(nI 1000000001), x_signs_m, x_signs_f, x_fitting, x_fit_f, x_counted_f, upd x_er_f 1 (x_er_f 1 + nI 1)), (-(nI 1000000001), m_mfit, m_known, m_row_f, upd m_errs_f 1 (m_errs_f 1 + nI 1), m_isFit_f, m_breaks_f), ?_, ?_, rfl, iS, iF, iE.err 1⟩
    · unfold F_X7_sign
      simp (disch := omega) only [l0, l1, l2, l3, l4, l5, l6, l7, l8, l9, l10, l11, l12, l13, l14, l15, l16, l17, l18, l19, l20, l21, l22, l23, l24, l25, l26, l27, l28, l29, l30, l32, l33, l37, l38, l40, l41, l42, l43, l45, l47, l48, l57, l58, l60, l61, l62, l63, l64, l69, l70, l74, l88, l91, l96, l97, l98, l99, l100, l102, l115, l116, l121, l124, l134, l158, l279, l255, l400, l728, l729, l9999, l99999, l12345, l1103515245, l1000000000, l1000000001, l1000000002, l1000000003, l1000000004, l1000000005, l1000000006, pk_us, nI_add, pk_mul, pk_sub, pk_div, nI_clamp, nI_ltI, nI_leI, nI_eq, bd_some, Nat.not_lt_zero, false_or, or_false, true_or, or_true, if_pos, if_neg, ite_true, ite_false, if_true, if_false, Nat.add_zero, isS_N h, x_err1]
    · unfold F_X8_sign
      simp (disch := omega) only [l0, l1, l2, l3, l4, l5, l6, l7, l8, l9, l10, l11, l12, l13, l14, l15, l16, l17, l18, l19, l20, l21, l22, l23, l24, l25, l26, l27, l28, l29, l30, l32, l33, l37, l38, l40, l41, l42, l43, l45, l47, l48, l57, l58, l60, l61, l62, l63, l64, l69, l70, l74, l88, l91, l96, l97, l98, l99, l100, l102, l115, l116, l121, l124, l134, l158, l279, l255, l400, l728, l729, l9999, l99999, l12345, l1103515245, l1000000000, l1000000001, l1000000002, l1000000003, l1000000004, l1000000005, l1000000006, pk_us, nI_add, pk_mul, pk_sub, pk_div, nI_clamp, nI_ltI, nI_leI, nI_eq, bd_some, Nat.not_lt_zero, false_or, or_false, true_or, or_true, if_pos, if_neg, ite_true, ite_false, if_true, if_false, Nat.add_zero, isS_eq, isS_N h, m_err1]
  rcases ix fe 2 (by omega) with h | ⟨f, hf, rfl⟩
  · refine ⟨(-(nI 1000000001), x_signs_m, x_signs_f, x_fitting, x_fit_f, x_counted_f, upd x_er_f 1 (x_er_f 1 + nI 1)), (-(nI 1000000001), m_mfit, m_known, m_row_f, upd m_errs_f 1 (m_errs_f 1 + nI 1), m_isFit_f, m_breaks_f), ?_, ?_, rfl, iS, iF, iE.err 1⟩
    · unfold F_X7_sign
      simp (disch := omega) only [l0, l1, l2, l3, l4, l5, l6, l7, l8, l9, l10, l11, l12, l13, l14, l15, l16, l17, l18, l19, l20, l21, l22, l23, l24, l25, l26, l27, l28, l29, l30, l32, l33, l37, l38, l40, l41, l42, l43, l45, l47, l48, l57, l58, l60, l61, l62, l63, l64, l69, l70, l74, l88, l91, l96, l97, l98, l99, l100, l102, l115, l116, l121, l124, l134, l158, l279, l255, l400, l728, l729, l9999, l99999, l12345, l1103515245, l1000000000, l1000000001, l1000000002, l1000000003, l1000000004, l1000000005, l1000000006, pk_us, nI_add, pk_mul, pk_sub, pk_div, nI_clamp, nI_ltI, nI_leI, nI_eq, bd_some, Nat.not_lt_zero, false_or, or_false, true_or, or_true, if_pos, if_neg, ite_true, ite_false, if_true, if_false, Nat.add_zero, isS_Y hs, w_N h, x_err1]
    · unfold F_X8_sign
      simp (disch := omega) only [l0, l1, l2, l3, l4, l5, l6, l7, l8, l9, l10, l11, l12, l13, l14, l15, l16, l17, l18, l19, l20, l21, l22, l23, l24, l25, l26, l27, l28, l29, l30, l32, l33, l37, l38, l40, l41, l42, l43, l45, l47, l48, l57, l58, l60, l61, l62, l63, l64, l69, l70, l74, l88, l91, l96, l97, l98, l99, l100, l102, l115, l116, l121, l124, l134, l158, l279, l255, l400, l728, l729, l9999, l99999, l12345, l1103515245, l1000000000, l1000000001, l1000000002, l1000000003, l1000000004, l1000000005, l1000000006, pk_us, nI_add, pk_mul, pk_sub, pk_div, nI_clamp, nI_ltI, nI_leI, nI_eq, bd_some, Nat.not_lt_zero, false_or, or_false, true_or, or_true, if_pos, if_neg, ite_true, ite_false, if_true, if_false, Nat.add_zero, isS_eq, isS_Y hs, in_eq, w_N h, m_err1]
  subst g1
  by_cases h24 : n = 24
  · subst h24
    refine ⟨(-(nI 1000000004), nI 24, x_signs_f, x_fitting, x_fit_f, x_counted_f, upd x_er_f 4 (x_er_f 4 + nI 1)), (-(nI 1000000004), m_mfit, m_known, m_row_f, upd m_errs_f 4 (m_errs_f 4 + nI 1), m_isFit_f, m_breaks_f), ?_, ?_, rfl, iS, iF, iE.err 4⟩
    · unfold F_X7_sign F_X1_many
      simp (disch := omega) only [l0, l1, l2, l3, l4, l5, l6, l7, l8, l9, l10, l11, l12, l13, l14, l15, l16, l17, l18, l19, l20, l21, l22, l23, l24, l25, l26, l27, l28, l29, l30, l32, l33, l37, l38, l40, l41, l42, l43, l45, l47, l48, l57, l58, l60, l61, l62, l63, l64, l69, l70, l74, l88, l91, l96, l97, l98, l99, l100, l102, l115, l116, l121, l124, l134, l158, l279, l255, l400, l728, l729, l9999, l99999, l12345, l1103515245, l1000000000, l1000000001, l1000000002, l1000000003, l1000000004, l1000000005, l1000000006, pk_us, nI_add, pk_mul, pk_sub, pk_div, nI_clamp, nI_ltI, nI_leI, nI_eq, bd_some, Nat.not_lt_zero, false_or, or_false, true_or, or_true, if_pos, if_neg, ite_true, ite_false, if_true, if_false, Nat.add_zero, isS_Y hs, w_Y, x_err4]
    · unfold F_X8_sign
      simp (disch := omega) only [l0, l1, l2, l3, l4, l5, l6, l7, l8, l9, l10, l11, l12, l13, l14, l15, l16, l17, l18, l19, l20, l21, l22, l23, l24, l25, l26, l27, l28, l29, l30, l32, l33, l37, l38, l40, l41, l42, l43, l45, l47, l48, l57, l58, l60, l61, l62, l63, l64, l69, l70, l74, l88, l91, l96, l97, l98, l99, l100, l102, l115, l116, l121, l124, l134, l158, l279, l255, l400, l728, l729, l9999, l99999, l12345, l1103515245, l1000000000, l1000000001, l1000000002, l1000000003, l1000000004, l1000000005, l1000000006, pk_us, nI_add, pk_mul, pk_sub, pk_div, nI_clamp, nI_ltI, nI_leI, nI_eq, bd_some, Nat.not_lt_zero, false_or, or_false, true_or, or_true, if_pos, if_neg, ite_true, ite_false, if_true, if_false, Nat.add_zero, isS_eq, isS_Y hs, in_eq, w_Y, g2, m_err4]
  · have hlt : n < 24 := by omega
    have hG1 := IvG_add (s := s) (f := f) iS.2.2.1 hlt hs hf
    obtain ⟨f1, c1, e1, e2, e3⟩ := refit (fit := x_fit_f) (counted := x_counted_f) iV.2.1 hG1
    obtain ⟨i1, b1, r1, r2, r3⟩ := m_findVows (mfit := m_mfit) (known := nI 0) (isFit := m_isFit_f) (breaks := m_breaks_f) iV.2.2 hG1.sg (Or.inl rfl)
    refine ⟨(nI (cntF (upd (upd (upd m_row_f (26 + 2 * n) (nI s)) (26 + 2 * n + 1) (nI f)) 3 (nI (n + 1)))), nI (n + 1), upd x_signs_f n (nI (2 * s + f)), nI (cntF (upd (upd (upd m_row_f (26 + 2 * n) (nI s)) (26 + 2 * n + 1) (nI f)) 3 (nI (n + 1)))), f1, c1, x_er_f), (nI (cntF (upd (upd (upd m_row_f (26 + 2 * n) (nI s)) (26 + 2 * n + 1) (nI f)) 3 (nI (n + 1)))), nI (cntF (upd (upd (upd m_row_f (26 + 2 * n) (nI s)) (26 + 2 * n + 1) (nI f)) 3 (nI (n + 1)))), nI 1, (upd (upd (upd m_row_f (26 + 2 * n) (nI s)) (26 + 2 * n + 1) (nI f)) 3 (nI (n + 1))), m_errs_f, i1, b1), ?_, ?_, by dsimp only, ?_, ?_, iE⟩
    · unfold F_X7_sign F_X1_many F_X5_fitting
      simp (disch := omega) only [l0, l1, l2, l3, l4, l5, l6, l7, l8, l9, l10, l11, l12, l13, l14, l15, l16, l17, l18, l19, l20, l21, l22, l23, l24, l25, l26, l27, l28, l29, l30, l32, l33, l37, l38, l40, l41, l42, l43, l45, l47, l48, l57, l58, l60, l61, l62, l63, l64, l69, l70, l74, l88, l91, l96, l97, l98, l99, l100, l102, l115, l116, l121, l124, l134, l158, l279, l255, l400, l728, l729, l9999, l99999, l12345, l1103515245, l1000000000, l1000000001, l1000000002, l1000000003, l1000000004, l1000000005, l1000000006, pk_us, nI_add, pk_mul, pk_sub, pk_div, nI_clamp, nI_ltI, nI_leI, nI_eq, bd_some, Nat.not_lt_zero, false_or, or_false, true_or, or_true, if_pos, if_neg, ite_true, ite_false, if_true, if_false, Nat.add_zero, isS_Y hs, w_Y, addSign hlt, e1]
    · unfold F_X8_sign F_X8_fittingNow
      simp (disch := omega) only [l0, l1, l2, l3, l4, l5, l6, l7, l8, l9, l10, l11, l12, l13, l14, l15, l16, l17, l18, l19, l20, l21, l22, l23, l24, l25, l26, l27, l28, l29, l30, l32, l33, l37, l38, l40, l41, l42, l43, l45, l47, l48, l57, l58, l60, l61, l62, l63, l64, l69, l70, l74, l88, l91, l96, l97, l98, l99, l100, l102, l115, l116, l121, l124, l134, l158, l279, l255, l400, l728, l729, l9999, l99999, l12345, l1103515245, l1000000000, l1000000001, l1000000002, l1000000003, l1000000004, l1000000005, l1000000006, pk_us, nI_add, pk_mul, pk_sub, pk_div, nI_clamp, nI_ltI, nI_leI, nI_eq, bd_some, Nat.not_lt_zero, false_or, or_false, true_or, or_true, if_pos, if_neg, ite_true, ite_false, if_true, if_false, Nat.add_zero, isS_eq, isS_Y hs, in_eq, w_Y, g2, comes g2 hlt, r1]
    · dsimp only
      exact iS.stG hG1 (comes_keep hlt)
    · dsimp only
      exact ⟨e2, rfl, e3, Or.inr ⟨rfl, r2, rfl, r3⟩⟩
theorem k_forget (iS : IvS x_vow x_day x_worth x_z x_kinds_m x_kinds_f x_ms_m x_ms_f x_said_m x_said_f x_signs_m x_signs_f x_tape_m x_tape_f x_avo_m x_avo_f x_tal_m x_tal_f x_wai_m x_wai_f m_row_f) (iV : IvV x_spread_f x_breakers_f m_broken_f) (iF : IvF m_row_f x_fitting x_fit_f x_counted_f m_mfit m_known m_isFit_f m_breaks_f) (iE : IvE x_er_f m_errs_f) (k : Int32) : ∃ (u : (Int32 × Int32 × Int32 × (Nat → Int32) × (Nat → Int32) × (Nat → Int32))) (w : (Int32 × Int32 × Int32 × (Nat → Int32) × (Nat → Int32) × (Nat → Int32) × (Nat → Int32))), F_X7_forget x_signs_m x_signs_f x_fitting x_breakers_f x_fit_f x_counted_f x_er_f k = some u ∧ F_X8_forget m_mfit m_known m_row_f m_errs_f m_broken_f m_isFit_f m_breaks_f k = some w ∧ u.1 = w.1 ∧ IvS x_vow x_day x_worth x_z x_kinds_m x_kinds_f x_ms_m x_ms_f x_said_m x_said_f u.2.1 x_signs_f x_tape_m x_tape_f x_avo_m x_avo_f x_tal_m x_tal_f x_wai_m x_wai_f w.2.2.2.1 ∧ IvF w.2.2.2.1 u.2.2.1 u.2.2.2.1 u.2.2.2.2.1 w.2.1 w.2.2.1 w.2.2.2.2.2.1 w.2.2.2.2.2.2 ∧ IvE u.2.2.2.2.2 w.2.2.2.2.1 := by
  have hG0 := iS.2.2.1
  obtain ⟨n, hn, g1, g2, g3⟩ := hG0
  subst g1
  rcases ix k (n + 1) (by omega) with h | ⟨j, hj, rfl⟩
  · refine ⟨(-(nI 1000000001), nI n, x_fitting, x_fit_f, x_counted_f, upd x_er_f 1 (x_er_f 1 + nI 1)), (-(nI 1000000001), m_mfit, m_known, m_row_f, upd m_errs_f 1 (m_errs_f 1 + nI 1), m_isFit_f, m_breaks_f), ?_, ?_, rfl, iS, iF, iE.err 1⟩
    · unfold F_X7_forget F_X1_many
      simp (disch := omega) only [l0, l1, l2, l3, l4, l5, l6, l7, l8, l9, l10, l11, l12, l13, l14, l15, l16, l17, l18, l19, l20, l21, l22, l23, l24, l25, l26, l27, l28, l29, l30, l32, l33, l37, l38, l40, l41, l42, l43, l45, l47, l48, l57, l58, l60, l61, l62, l63, l64, l69, l70, l74, l88, l91, l96, l97, l98, l99, l100, l102, l115, l116, l121, l124, l134, l158, l279, l255, l400, l728, l729, l9999, l99999, l12345, l1103515245, l1000000000, l1000000001, l1000000002, l1000000003, l1000000004, l1000000005, l1000000006, pk_us, nI_add, pk_mul, pk_sub, pk_div, nI_clamp, nI_ltI, nI_leI, nI_eq, bd_some, Nat.not_lt_zero, false_or, or_false, true_or, or_true, if_pos, if_neg, ite_true, ite_false, if_true, if_false, Nat.add_zero, w_N h, x_err1]
    · unfold F_X8_forget
      simp (disch := omega) only [l0, l1, l2, l3, l4, l5, l6, l7, l8, l9, l10, l11, l12, l13, l14, l15, l16, l17, l18, l19, l20, l21, l22, l23, l24, l25, l26, l27, l28, l29, l30, l32, l33, l37, l38, l40, l41, l42, l43, l45, l47, l48, l57, l58, l60, l61, l62, l63, l64, l69, l70, l74, l88, l91, l96, l97, l98, l99, l100, l102, l115, l116, l121, l124, l134, l158, l279, l255, l400, l728, l729, l9999, l99999, l12345, l1103515245, l1000000000, l1000000001, l1000000002, l1000000003, l1000000004, l1000000005, l1000000006, pk_us, nI_add, pk_mul, pk_sub, pk_div, nI_clamp, nI_ltI, nI_leI, nI_eq, bd_some, Nat.not_lt_zero, false_or, or_false, true_or, or_true, if_pos, if_neg, ite_true, ite_false, if_true, if_false, Nat.add_zero, g2, in_eq, w_N h, m_err1]
  · have hG1 : IvG (nI (n - j)) x_signs_f (upd m_row_f 3 (nI (n - j))) := by
      refine ⟨n - j, by omega, rfl, pk_us, fun i hi => ?_⟩
      simp (disch := omega) only [pk_un]
      exact g3 i (by omega)
    obtain ⟨f1, c1, e1, e2, e3⟩ := refit (fit := x_fit_f) (counted := x_counted_f) iV.2.1 hG1
    obtain ⟨i1, b1, r1, r2, r3⟩ := m_findVows (mfit := m_mfit) (known := nI 0) (isFit := m_isFit_f) (breaks := m_breaks_f) iV.2.2 hG1.sg (Or.inl rfl)
    have hdrop : F_X1_drop (nI n) (nI j) = some (nI (n - j)) := by
      have q1 : (if nI 0 < nI j then nI j else nI 0) = nI j := by
        by_cases h0 : 0 < j
        · rw [if_pos ((nI_ltI (by omega) (by omega)).mpr h0)]
        · rw [show j = 0 by omega, if_neg (by decide)]
      unfold F_X1_drop
      simp only [l0, l1, l2, l3, l4, l5, l6, l7, l8, l9, l10, l11, l12, l13, l14, l15, l16, l17, l18, l19, l20, l21, l22, l23, l24, l25, l26, l27, l28, l29, l30, l32, l33, l37, l38, l40, l41, l42, l43, l45, l47, l48, l57, l58, l60, l61, l62, l63, l64, l69, l70, l74, l88, l91, l96, l97, l98, l99, l100, l102, l115, l116, l121, l124, l134, l158, l279, l255, l400, l728, l729, l9999, l99999, l12345, l1103515245, l1000000000, l1000000001, l1000000002, l1000000003, l1000000004, l1000000005, l1000000006]
      rw [q1, pk_sub (by omega)]
      by_cases h0 : 0 < n - j
      · rw [if_pos ((nI_ltI (by omega) (by omega)).mpr h0)]
      · rw [show n - j = 0 by omega, if_neg (by decide)]
    refine ⟨(nI (cntF (upd m_row_f 3 (nI (n - j)))), nI (n - j), nI (cntF (upd m_row_f 3 (nI (n - j)))), f1, c1, x_er_f), (nI (cntF (upd m_row_f 3 (nI (n - j)))), nI (cntF (upd m_row_f 3 (nI (n - j)))), nI 1, upd m_row_f 3 (nI (n - j)), m_errs_f, i1, b1), ?_, ?_, rfl, ?_, ?_, iE⟩
    · unfold F_X7_forget F_X1_many F_X5_fitting
      simp (disch := omega) only [l0, l1, l2, l3, l4, l5, l6, l7, l8, l9, l10, l11, l12, l13, l14, l15, l16, l17, l18, l19, l20, l21, l22, l23, l24, l25, l26, l27, l28, l29, l30, l32, l33, l37, l38, l40, l41, l42, l43, l45, l47, l48, l57, l58, l60, l61, l62, l63, l64, l69, l70, l74, l88, l91, l96, l97, l98, l99, l100, l102, l115, l116, l121, l124, l134, l158, l279, l255, l400, l728, l729, l9999, l99999, l12345, l1103515245, l1000000000, l1000000001, l1000000002, l1000000003, l1000000004, l1000000005, l1000000006, pk_us, nI_add, pk_mul, pk_sub, pk_div, nI_clamp, nI_ltI, nI_leI, nI_eq, bd_some, Nat.not_lt_zero, false_or, or_false, true_or, or_true, if_pos, if_neg, ite_true, ite_false, if_true, if_false, Nat.add_zero, w_Y, hdrop, e1]
    · unfold F_X8_forget F_X8_fittingNow
      simp (disch := omega) only [l0, l1, l2, l3, l4, l5, l6, l7, l8, l9, l10, l11, l12, l13, l14, l15, l16, l17, l18, l19, l20, l21, l22, l23, l24, l25, l26, l27, l28, l29, l30, l32, l33, l37, l38, l40, l41, l42, l43, l45, l47, l48, l57, l58, l60, l61, l62, l63, l64, l69, l70, l74, l88, l91, l96, l97, l98, l99, l100, l102, l115, l116, l121, l124, l134, l158, l279, l255, l400, l728, l729, l9999, l99999, l12345, l1103515245, l1000000000, l1000000001, l1000000002, l1000000003, l1000000004, l1000000005, l1000000006, pk_us, nI_add, pk_mul, pk_sub, pk_div, nI_clamp, nI_ltI, nI_leI, nI_eq, bd_some, Nat.not_lt_zero, false_or, or_false, true_or, or_true, if_pos, if_neg, ite_true, ite_false, if_true, if_false, Nat.add_zero, g2, in_eq, w_Y, r1]
    · dsimp only
      exact iS.stG hG1 (fun j h1 h2 => pk_un h1)
    · dsimp only
      exact ⟨e2, rfl, e3, Or.inr ⟨rfl, r2, rfl, r3⟩⟩
theorem k_image (iS : IvS x_vow x_day x_worth x_z x_kinds_m x_kinds_f x_ms_m x_ms_f x_said_m x_said_f x_signs_m x_signs_f x_tape_m x_tape_f x_avo_m x_avo_f x_tal_m x_tal_f x_wai_m x_wai_f m_row_f) (iK : ∃ k : Nat, k ≤ c ∧ x_imgs = nI k ∧ m_images = nI k ∧ (x_hasI = if k = 0 then nI 0 else nI 1) ∧ (k ≠ 0 → IvS x_kp_vow x_kp_day x_kp_worth x_kp_z x_kp_kinds_m x_kp_kinds_f x_kp_ms_m x_kp_ms_f x_kp_said_m x_kp_said_f x_kp_signs_m x_kp_signs_f x_kp_tape_m x_kp_tape_f x_kp_avo_m x_kp_avo_f x_kp_tal_m x_kp_tal_f x_kp_wai_m x_kp_wai_f m_kpt_f)) : ∃ (u : (Int32 × Int32 × Int32 × Int32 × Int32 × Int32 × Int32 × Int32 × (Nat → Int32) × Int32 × (Nat → Int32) × Int32 × (Nat → Int32) × Int32 × (Nat → Int32) × Int32 × (Nat → Int32) × Int32 × (Nat → Int32) × Int32 × (Nat → Int32) × Int32 × (Nat → Int32))) (w : (Int32 × Int32 × (Nat → Int32))), F_X7_image x_imgs x_vow x_day x_worth x_z x_kinds_m x_kinds_f x_ms_m x_ms_f x_said_m x_said_f x_signs_m x_signs_f x_tape_m x_tape_f x_avo_m x_avo_f x_tal_m x_tal_f x_wai_m x_wai_f x_kp_kinds_f x_kp_ms_f x_kp_said_f x_kp_signs_f x_kp_tape_f x_kp_avo_f x_kp_tal_f x_kp_wai_f = some u ∧ F_X8_image m_images m_row_f m_kpt_f = some w ∧ u.1 = w.1 ∧ (∃ k : Nat, k ≤ c + 1 ∧ u.2.2.1 = nI k ∧ w.2.1 = nI k ∧ (u.2.1 = if k = 0 then nI 0 else nI 1) ∧ (k ≠ 0 → IvS u.2.2.2.1 u.2.2.2.2.1 u.2.2.2.2.2.1 u.2.2.2.2.2.2.1 u.2.2.2.2.2.2.2.1 u.2.2.2.2.2.2.2.2.1 u.2.2.2.2.2.2.2.2.2.1 u.2.2.2.2.2.2.2.2.2.2.1 u.2.2.2.2.2.2.2.2.2.2.2.1 u.2.2.2.2.2.2.2.2.2.2.2.2.1 u.2.2.2.2.2.2.2.2.2.2.2.2.2.1 u.2.2.2.2.2.2.2.2.2.2.2.2.2.2.1 u.2.2.2.2.2.2.2.2.2.2.2.2.2.2.2.1 u.2.2.2.2.2.2.2.2.2.2.2.2.2.2.2.2.1 u.2.2.2.2.2.2.2.2.2.2.2.2.2.2.2.2.2.1 u.2.2.2.2.2.2.2.2.2.2.2.2.2.2.2.2.2.2.1 u.2.2.2.2.2.2.2.2.2.2.2.2.2.2.2.2.2.2.2.1 u.2.2.2.2.2.2.2.2.2.2.2.2.2.2.2.2.2.2.2.2.1 u.2.2.2.2.2.2.2.2.2.2.2.2.2.2.2.2.2.2.2.2.2.1 u.2.2.2.2.2.2.2.2.2.2.2.2.2.2.2.2.2.2.2.2.2.2 w.2.2)) := by
  obtain ⟨k, hk, q1, q2, q3, q4⟩ := iK
  obtain ⟨kf', mf', sf', gf', tf', af', lf', wf', e1, e2⟩ := x_stAll iS x_kp_kinds_f x_kp_ms_f x_kp_said_f x_kp_signs_f x_kp_tape_f x_kp_avo_f x_kp_tal_f x_kp_wai_f
  obtain ⟨to', r1, r2⟩ := m_copyAll m_row_f m_kpt_f
  subst q1 q2
  refine ⟨_, (nI (k + 1), nI (k + 1), to'), by unfold F_X7_image; rw [e1, bd_some], ?_, ?_, ?_⟩
  · unfold F_X8_image
    simp (disch := omega) only [l0, l1, l2, l3, l4, l5, l6, l7, l8, l9, l10, l11, l12, l13, l14, l15, l16, l17, l18, l19, l20, l21, l22, l23, l24, l25, l26, l27, l28, l29, l30, l32, l33, l37, l38, l40, l41, l42, l43, l45, l47, l48, l57, l58, l60, l61, l62, l63, l64, l69, l70, l74, l88, l91, l96, l97, l98, l99, l100, l102, l115, l116, l121, l124, l134, l158, l279, l255, l400, l728, l729, l9999, l99999, l12345, l1103515245, l1000000000, l1000000001, l1000000002, l1000000003, l1000000004, l1000000005, l1000000006, pk_us, nI_add, pk_mul, pk_sub, pk_div, nI_clamp, nI_ltI, nI_leI, nI_eq, bd_some, Nat.not_lt_zero, false_or, or_false, true_or, or_true, if_pos, if_neg, ite_true, ite_false, if_true, if_false, Nat.add_zero, r1]
  · dsimp only
    exact nI_add k 1
  · dsimp only
    exact ⟨k + 1, by omega, nI_add k 1, rfl, by rw [if_neg (by omega)]; rfl, fun _ => e2 to' r2⟩
theorem k_restore (iS : IvS x_vow x_day x_worth x_z x_kinds_m x_kinds_f x_ms_m x_ms_f x_said_m x_said_f x_signs_m x_signs_f x_tape_m x_tape_f x_avo_m x_avo_f x_tal_m x_tal_f x_wai_m x_wai_f m_row_f) (iV : IvV x_spread_f x_breakers_f m_broken_f) (iF : IvF m_row_f x_fitting x_fit_f x_counted_f m_mfit m_known m_isFit_f m_breaks_f) (iE : IvE x_er_f m_errs_f) (iK : ∃ k : Nat, k ≤ c ∧ x_imgs = nI k ∧ m_images = nI k ∧ (x_hasI = if k = 0 then nI 0 else nI 1) ∧ (k ≠ 0 → IvS x_kp_vow x_kp_day x_kp_worth x_kp_z x_kp_kinds_m x_kp_kinds_f x_kp_ms_m x_kp_ms_f x_kp_said_m x_kp_said_f x_kp_signs_m x_kp_signs_f x_kp_tape_m x_kp_tape_f x_kp_avo_m x_kp_avo_f x_kp_tal_m x_kp_tal_f x_kp_wai_m x_kp_wai_f m_kpt_f)) (hc : c < 512) : ∃ (u : (Int32 × Int32 × Int32 × Int32 × Int32 × Int32 × (Nat → Int32) × Int32 × (Nat → Int32) × Int32 × (Nat → Int32) × Int32 × (Nat → Int32) × Int32 × (Nat → Int32) × Int32 × (Nat → Int32) × Int32 × (Nat → Int32) × Int32 × (Nat → Int32) × Int32 × (Nat → Int32) × (Nat → Int32) × (Nat → Int32))) (w : (Int32 × Int32 × (Nat → Int32) × (Nat → Int32))), F_X7_restore x_hasI x_vow x_day x_worth x_z x_kinds_m x_kinds_f x_ms_m x_ms_f x_said_m x_said_f x_signs_m x_signs_f x_tape_m x_tape_f x_avo_m x_avo_f x_tal_m x_tal_f x_wai_m x_wai_f x_kp_vow x_kp_day x_kp_worth x_kp_z x_kp_kinds_m x_kp_kinds_f x_kp_ms_m x_kp_ms_f x_kp_said_m x_kp_said_f x_kp_signs_m x_kp_signs_f x_kp_tape_m x_kp_tape_f x_kp_avo_m x_kp_avo_f x_kp_tal_m x_kp_tal_f x_kp_wai_m x_kp_wai_f x_fitting x_breakers_f x_fit_f x_counted_f x_er_f = some u ∧ F_X8_restore m_images m_known m_row_f m_kpt_f m_errs_f = some w ∧ u.1 = w.1 ∧ IvS u.2.1 u.2.2.1 u.2.2.2.1 u.2.2.2.2.1 u.2.2.2.2.2.1 u.2.2.2.2.2.2.1 u.2.2.2.2.2.2.2.1 u.2.2.2.2.2.2.2.2.1 u.2.2.2.2.2.2.2.2.2.1 u.2.2.2.2.2.2.2.2.2.2.1 u.2.2.2.2.2.2.2.2.2.2.2.1 u.2.2.2.2.2.2.2.2.2.2.2.2.1 u.2.2.2.2.2.2.2.2.2.2.2.2.2.1 u.2.2.2.2.2.2.2.2.2.2.2.2.2.2.1 u.2.2.2.2.2.2.2.2.2.2.2.2.2.2.2.1 u.2.2.2.2.2.2.2.2.2.2.2.2.2.2.2.2.1 u.2.2.2.2.2.2.2.2.2.2.2.2.2.2.2.2.2.1 u.2.2.2.2.2.2.2.2.2.2.2.2.2.2.2.2.2.2.1 u.2.2.2.2.2.2.2.2.2.2.2.2.2.2.2.2.2.2.2.1 u.2.2.2.2.2.2.2.2.2.2.2.2.2.2.2.2.2.2.2.2.1 w.2.2.1 ∧ IvF w.2.2.1 u.2.2.2.2.2.2.2.2.2.2.2.2.2.2.2.2.2.2.2.2.2.1 u.2.2.2.2.2.2.2.2.2.2.2.2.2.2.2.2.2.2.2.2.2.2.1 u.2.2.2.2.2.2.2.2.2.2.2.2.2.2.2.2.2.2.2.2.2.2.2.1 m_mfit w.2.1 m_isFit_f m_breaks_f ∧ IvE u.2.2.2.2.2.2.2.2.2.2.2.2.2.2.2.2.2.2.2.2.2.2.2.2 w.2.2.2 := by
  obtain ⟨k, hk, q1, q2, q3, q4⟩ := iK
  subst q2
  by_cases h0 : k = 0
  · subst h0
    refine ⟨(-(nI 1000000002), x_vow, x_day, x_worth, x_z, x_kinds_m, x_kinds_f, x_ms_m, x_ms_f, x_said_m, x_said_f, x_signs_m, x_signs_f, x_tape_m, x_tape_f, x_avo_m, x_avo_f, x_tal_m, x_tal_f, x_wai_m, x_wai_f, x_fitting, x_fit_f, x_counted_f, upd x_er_f 2 (x_er_f 2 + nI 1)), (-(nI 1000000002), m_known, m_row_f, upd m_errs_f 2 (m_errs_f 2 + nI 1)), ?_, ?_, rfl, iS, iF, iE.err 2⟩
    · unfold F_X7_restore
      rw [if_pos (show x_hasI = 0 from q3)]
      rw [show F_X7_error x_er_f (2 : Int32) = _ from x_err2 x_er_f, bd_some]
    · unfold F_X8_restore
      simp (disch := omega) only [l0, l1, l2, l3, l4, l5, l6, l7, l8, l9, l10, l11, l12, l13, l14, l15, l16, l17, l18, l19, l20, l21, l22, l23, l24, l25, l26, l27, l28, l29, l30, l32, l33, l37, l38, l40, l41, l42, l43, l45, l47, l48, l57, l58, l60, l61, l62, l63, l64, l69, l70, l74, l88, l91, l96, l97, l98, l99, l100, l102, l115, l116, l121, l124, l134, l158, l279, l255, l400, l728, l729, l9999, l99999, l12345, l1103515245, l1000000000, l1000000001, l1000000002, l1000000003, l1000000004, l1000000005, l1000000006, pk_us, nI_add, pk_mul, pk_sub, pk_div, nI_clamp, nI_ltI, nI_leI, nI_eq, bd_some, Nat.not_lt_zero, false_or, or_false, true_or, or_true, if_pos, if_neg, ite_true, ite_false, if_true, if_false, Nat.add_zero, m_err2]
  · rw [if_neg h0] at q3
    have iKp := q4 h0
    obtain ⟨kf', mf', sf', gf', tf', af', lf', wf', e1, e2⟩ := x_stAll iKp x_kinds_f x_ms_f x_said_f x_signs_f x_tape_f x_avo_f x_tal_f x_wai_f
    obtain ⟨to', r1, r2⟩ := m_copyAll m_kpt_f m_row_f
    have iS' := e2 to' r2
    obtain ⟨f1, c1, g1, g2, g3⟩ := refit (fit := x_fit_f) (counted := x_counted_f) iV.2.1 iS'.2.2.1
    refine ⟨(x_kp_day, x_kp_vow, x_kp_day, x_kp_worth, x_kp_z, x_kp_kinds_m, kf', x_kp_ms_m, mf', x_kp_said_m, sf', x_kp_signs_m, gf', x_kp_tape_m, tf', x_kp_avo_m, af', x_kp_tal_m, lf', x_kp_wai_m, wf', nI (cntF to'), f1, c1, x_er_f), (to' 0, nI 0, to', m_errs_f), ?_, ?_, iS'.1.2.1.symm, iS', ⟨g2, rfl, g3, Or.inl rfl⟩, iE⟩
    · unfold F_X7_restore
      rw [if_neg (show ¬ x_hasI = 0 from by rw [q3]; decide), e1, bd_some]
      dsimp only
      rw [g1, bd_some]
    unfold F_X8_restore
    simp (disch := omega) only [l0, l1, l2, l3, l4, l5, l6, l7, l8, l9, l10, l11, l12, l13, l14, l15, l16, l17, l18, l19, l20, l21, l22, l23, l24, l25, l26, l27, l28, l29, l30, l32, l33, l37, l38, l40, l41, l42, l43, l45, l47, l48, l57, l58, l60, l61, l62, l63, l64, l69, l70, l74, l88, l91, l96, l97, l98, l99, l100, l102, l115, l116, l121, l124, l134, l158, l279, l255, l400, l728, l729, l9999, l99999, l12345, l1103515245, l1000000000, l1000000001, l1000000002, l1000000003, l1000000004, l1000000005, l1000000006, pk_us, nI_add, pk_mul, pk_sub, pk_div, nI_clamp, nI_ltI, nI_leI, nI_eq, bd_some, Nat.not_lt_zero, false_or, or_false, true_or, or_true, if_pos, if_neg, ite_true, ite_false, if_true, if_false, Nat.add_zero, r1]
end
theorem st_check (G : xG) (tx : Nat) (wx : Nat → Nat) (tm : Nat) (wm : Nat → Nat)  : StpI G tx wx tm wm yX7_check (Cond.code yX7_check cX7_check 3 (some .int)) yX8_check (Cond.code yX8_check cX8_check 3 (some .int)) [] := by
  intro c ws hc h
  refine h.on (fun x_hasI x_imgs x_vow x_day x_worth x_z x_kinds_m x_kinds_f x_ms_m x_ms_f x_said_m x_said_f x_signs_m x_signs_f x_tape_m x_tape_f x_avo_m x_avo_f x_tal_m x_tal_f x_wai_m x_wai_f x_kp_vow x_kp_day x_kp_worth x_kp_z x_kp_kinds_m x_kp_kinds_f x_kp_ms_m x_kp_ms_f x_kp_said_m x_kp_said_f x_kp_signs_m x_kp_signs_f x_kp_tape_m x_kp_tape_f x_kp_avo_m x_kp_avo_f x_kp_tal_m x_kp_tal_f x_kp_wai_m x_kp_wai_f x_fitting x_spread_f x_breakers_f x_fit_f x_counted_f x_kk x_rat x_flt x_codes_m x_codes_f x_stack_m x_stack_f x_parted x_vkk x_vkd x_vmm x_trace_m x_trace_f x_er_f x_bits0 x_num0_m x_num0_f x_bits1 x_num1_m x_num1_f x_bits2 x_num2_m x_num2_f x_bits3 x_num3_m x_num3_f m_images m_mfit m_known m_laid m_hre m_opnd m_bad m_usg m_trcd m_isP m_row_f m_kpt_f m_errs_f m_bitsOf_f m_sizeOf_f m_cels_f m_broken_f m_isFit_f m_breaks_f m_act_f m_wth_f m_facts_f m_pile_f m_trc_f hW hI => ?_)
  subst hW
  obtain ⟨iS, iV, iF, iR, iE, iH0, iH1, iH2, iH3, iK⟩ := hI
  have jK : ∃ k : Nat, k ≤ c + 1 ∧ x_imgs = nI k ∧ m_images = nI k ∧ (x_hasI = if k = 0 then nI 0 else nI 1) ∧ (k ≠ 0 → IvS x_kp_vow x_kp_day x_kp_worth x_kp_z x_kp_kinds_m x_kp_kinds_f x_kp_ms_m x_kp_ms_f x_kp_said_m x_kp_said_f x_kp_signs_m x_kp_signs_f x_kp_tape_m x_kp_tape_f x_kp_avo_m x_kp_avo_f x_kp_tal_m x_kp_tal_f x_kp_wai_m x_kp_wai_f m_kpt_f) := by
    obtain ⟨k, hk, q⟩ := iK
    exact ⟨k, by omega, q⟩
  obtain ⟨u, w, e1, e2, e3, jS, jF⟩ := k_check iS iF
  exact s_check G tx wx tm wm x_hasI x_imgs x_vow x_day x_worth x_z x_kinds_m x_kinds_f x_ms_m x_ms_f x_said_m x_said_f x_signs_m x_signs_f x_tape_m x_tape_f x_avo_m x_avo_f x_tal_m x_tal_f x_wai_m x_wai_f x_kp_vow x_kp_day x_kp_worth x_kp_z x_kp_kinds_m x_kp_kinds_f x_kp_ms_m x_kp_ms_f x_kp_said_m x_kp_said_f x_kp_signs_m x_kp_signs_f x_kp_tape_m x_kp_tape_f x_kp_avo_m x_kp_avo_f x_kp_tal_m x_kp_tal_f x_kp_wai_m x_kp_wai_f x_fitting x_spread_f x_breakers_f x_fit_f x_counted_f x_kk x_rat x_flt x_codes_m x_codes_f x_stack_m x_stack_f x_parted x_vkk x_vkd x_vmm x_trace_m x_trace_f x_er_f x_bits0 x_num0_m x_num0_f x_bits1 x_num1_m x_num1_f x_bits2 x_num2_m x_num2_f x_bits3 x_num3_m x_num3_f m_images m_mfit m_known m_laid m_hre m_opnd m_bad m_usg m_trcd m_isP m_row_f m_kpt_f m_errs_f m_bitsOf_f m_sizeOf_f m_cels_f m_broken_f m_isFit_f m_breaks_f m_act_f m_wth_f m_facts_f m_pile_f m_trc_f u w e1 e2 e3 ⟨jS, iV, jF, iR, iE, iH0, iH1, iH2, iH3, jK⟩
theorem st_feed (G : xG) (tx : Nat) (wx : Nat → Nat) (tm : Nat) (wm : Nat → Nat) (a0 : Int64) (a1 : Int32) : StpI G tx wx tm wm yX7_feed (Cond.code yX7_feed cX7_feed 5 (some .int)) yX8_feed (Cond.code yX8_feed cX8_feed 5 (some .int)) [.long a0, .int a1] := by
  intro c ws hc h
  refine h.on (fun x_hasI x_imgs x_vow x_day x_worth x_z x_kinds_m x_kinds_f x_ms_m x_ms_f x_said_m x_said_f x_signs_m x_signs_f x_tape_m x_tape_f x_avo_m x_avo_f x_tal_m x_tal_f x_wai_m x_wai_f x_kp_vow x_kp_day x_kp_worth x_kp_z x_kp_kinds_m x_kp_kinds_f x_kp_ms_m x_kp_ms_f x_kp_said_m x_kp_said_f x_kp_signs_m x_kp_signs_f x_kp_tape_m x_kp_tape_f x_kp_avo_m x_kp_avo_f x_kp_tal_m x_kp_tal_f x_kp_wai_m x_kp_wai_f x_fitting x_spread_f x_breakers_f x_fit_f x_counted_f x_kk x_rat x_flt x_codes_m x_codes_f x_stack_m x_stack_f x_parted x_vkk x_vkd x_vmm x_trace_m x_trace_f x_er_f x_bits0 x_num0_m x_num0_f x_bits1 x_num1_m x_num1_f x_bits2 x_num2_m x_num2_f x_bits3 x_num3_m x_num3_f m_images m_mfit m_known m_laid m_hre m_opnd m_bad m_usg m_trcd m_isP m_row_f m_kpt_f m_errs_f m_bitsOf_f m_sizeOf_f m_cels_f m_broken_f m_isFit_f m_breaks_f m_act_f m_wth_f m_facts_f m_pile_f m_trc_f hW hI => ?_)
  subst hW
  obtain ⟨iS, iV, iF, iR, iE, iH0, iH1, iH2, iH3, iK⟩ := hI
  have jK : ∃ k : Nat, k ≤ c + 1 ∧ x_imgs = nI k ∧ m_images = nI k ∧ (x_hasI = if k = 0 then nI 0 else nI 1) ∧ (k ≠ 0 → IvS x_kp_vow x_kp_day x_kp_worth x_kp_z x_kp_kinds_m x_kp_kinds_f x_kp_ms_m x_kp_ms_f x_kp_said_m x_kp_said_f x_kp_signs_m x_kp_signs_f x_kp_tape_m x_kp_tape_f x_kp_avo_m x_kp_avo_f x_kp_tal_m x_kp_tal_f x_kp_wai_m x_kp_wai_f m_kpt_f) := by
    obtain ⟨k, hk, q⟩ := iK
    exact ⟨k, by omega, q⟩
  obtain ⟨u, w, e1, e2, e3, jS, jF, jE⟩ := k_feed iS iF iE a0 a1
  exact s_feed G tx wx tm wm x_hasI x_imgs x_vow x_day x_worth x_z x_kinds_m x_kinds_f x_ms_m x_ms_f x_said_m x_said_f x_signs_m x_signs_f x_tape_m x_tape_f x_avo_m x_avo_f x_tal_m x_tal_f x_wai_m x_wai_f x_kp_vow x_kp_day x_kp_worth x_kp_z x_kp_kinds_m x_kp_kinds_f x_kp_ms_m x_kp_ms_f x_kp_said_m x_kp_said_f x_kp_signs_m x_kp_signs_f x_kp_tape_m x_kp_tape_f x_kp_avo_m x_kp_avo_f x_kp_tal_m x_kp_tal_f x_kp_wai_m x_kp_wai_f x_fitting x_spread_f x_breakers_f x_fit_f x_counted_f x_kk x_rat x_flt x_codes_m x_codes_f x_stack_m x_stack_f x_parted x_vkk x_vkd x_vmm x_trace_m x_trace_f x_er_f x_bits0 x_num0_m x_num0_f x_bits1 x_num1_m x_num1_f x_bits2 x_num2_m x_num2_f x_bits3 x_num3_m x_num3_f m_images m_mfit m_known m_laid m_hre m_opnd m_bad m_usg m_trcd m_isP m_row_f m_kpt_f m_errs_f m_bitsOf_f m_sizeOf_f m_cels_f m_broken_f m_isFit_f m_breaks_f m_act_f m_wth_f m_facts_f m_pile_f m_trc_f a0 a1 u w e1 e2 e3 ⟨jS, iV, jF, iR, jE, iH0, iH1, iH2, iH3, jK⟩
theorem st_sign (G : xG) (tx : Nat) (wx : Nat → Nat) (tm : Nat) (wm : Nat → Nat) (a0 : Int32) (a1 : Int32) : StpI G tx wx tm wm yX7_sign (Cond.code yX7_sign cX7_sign 3 (some .int)) yX8_sign (Cond.code yX8_sign cX8_sign 3 (some .int)) [.int a0, .int a1] := by
  intro c ws hc h
  refine h.on (fun x_hasI x_imgs x_vow x_day x_worth x_z x_kinds_m x_kinds_f x_ms_m x_ms_f x_said_m x_said_f x_signs_m x_signs_f x_tape_m x_tape_f x_avo_m x_avo_f x_tal_m x_tal_f x_wai_m x_wai_f x_kp_vow x_kp_day x_kp_worth x_kp_z x_kp_kinds_m x_kp_kinds_f x_kp_ms_m x_kp_ms_f x_kp_said_m x_kp_said_f x_kp_signs_m x_kp_signs_f x_kp_tape_m x_kp_tape_f x_kp_avo_m x_kp_avo_f x_kp_tal_m x_kp_tal_f x_kp_wai_m x_kp_wai_f x_fitting x_spread_f x_breakers_f x_fit_f x_counted_f x_kk x_rat x_flt x_codes_m x_codes_f x_stack_m x_stack_f x_parted x_vkk x_vkd x_vmm x_trace_m x_trace_f x_er_f x_bits0 x_num0_m x_num0_f x_bits1 x_num1_m x_num1_f x_bits2 x_num2_m x_num2_f x_bits3 x_num3_m x_num3_f m_images m_mfit m_known m_laid m_hre m_opnd m_bad m_usg m_trcd m_isP m_row_f m_kpt_f m_errs_f m_bitsOf_f m_sizeOf_f m_cels_f m_broken_f m_isFit_f m_breaks_f m_act_f m_wth_f m_facts_f m_pile_f m_trc_f hW hI => ?_)
  subst hW
  obtain ⟨iS, iV, iF, iR, iE, iH0, iH1, iH2, iH3, iK⟩ := hI
  have jK : ∃ k : Nat, k ≤ c + 1 ∧ x_imgs = nI k ∧ m_images = nI k ∧ (x_hasI = if k = 0 then nI 0 else nI 1) ∧ (k ≠ 0 → IvS x_kp_vow x_kp_day x_kp_worth x_kp_z x_kp_kinds_m x_kp_kinds_f x_kp_ms_m x_kp_ms_f x_kp_said_m x_kp_said_f x_kp_signs_m x_kp_signs_f x_kp_tape_m x_kp_tape_f x_kp_avo_m x_kp_avo_f x_kp_tal_m x_kp_tal_f x_kp_wai_m x_kp_wai_f m_kpt_f) := by
    obtain ⟨k, hk, q⟩ := iK
    exact ⟨k, by omega, q⟩
  obtain ⟨u, w, e1, e2, e3, jS, jF, jE⟩ := k_sign iS iV iF iE a0 a1
  exact s_sign G tx wx tm wm x_hasI x_imgs x_vow x_day x_worth x_z x_kinds_m x_kinds_f x_ms_m x_ms_f x_said_m x_said_f x_signs_m x_signs_f x_tape_m x_tape_f x_avo_m x_avo_f x_tal_m x_tal_f x_wai_m x_wai_f x_kp_vow x_kp_day x_kp_worth x_kp_z x_kp_kinds_m x_kp_kinds_f x_kp_ms_m x_kp_ms_f x_kp_said_m x_kp_said_f x_kp_signs_m x_kp_signs_f x_kp_tape_m x_kp_tape_f x_kp_avo_m x_kp_avo_f x_kp_tal_m x_kp_tal_f x_kp_wai_m x_kp_wai_f x_fitting x_spread_f x_breakers_f x_fit_f x_counted_f x_kk x_rat x_flt x_codes_m x_codes_f x_stack_m x_stack_f x_parted x_vkk x_vkd x_vmm x_trace_m x_trace_f x_er_f x_bits0 x_num0_m x_num0_f x_bits1 x_num1_m x_num1_f x_bits2 x_num2_m x_num2_f x_bits3 x_num3_m x_num3_f m_images m_mfit m_known m_laid m_hre m_opnd m_bad m_usg m_trcd m_isP m_row_f m_kpt_f m_errs_f m_bitsOf_f m_sizeOf_f m_cels_f m_broken_f m_isFit_f m_breaks_f m_act_f m_wth_f m_facts_f m_pile_f m_trc_f a0 a1 u w e1 e2 e3 ⟨jS, iV, jF, iR, jE, iH0, iH1, iH2, iH3, jK⟩
theorem st_forget (G : xG) (tx : Nat) (wx : Nat → Nat) (tm : Nat) (wm : Nat → Nat) (a0 : Int32) : StpI G tx wx tm wm yX7_forget (Cond.code yX7_forget cX7_forget 2 (some .int)) yX8_forget (Cond.code yX8_forget cX8_forget 2 (some .int)) [.int a0] := by
  intro c ws hc h
  refine h.on (fun x_hasI x_imgs x_vow x_day x_worth x_z x_kinds_m x_kinds_f x_ms_m x_ms_f x_said_m x_said_f x_signs_m x_signs_f x_tape_m x_tape_f x_avo_m x_avo_f x_tal_m x_tal_f x_wai_m x_wai_f x_kp_vow x_kp_day x_kp_worth x_kp_z x_kp_kinds_m x_kp_kinds_f x_kp_ms_m x_kp_ms_f x_kp_said_m x_kp_said_f x_kp_signs_m x_kp_signs_f x_kp_tape_m x_kp_tape_f x_kp_avo_m x_kp_avo_f x_kp_tal_m x_kp_tal_f x_kp_wai_m x_kp_wai_f x_fitting x_spread_f x_breakers_f x_fit_f x_counted_f x_kk x_rat x_flt x_codes_m x_codes_f x_stack_m x_stack_f x_parted x_vkk x_vkd x_vmm x_trace_m x_trace_f x_er_f x_bits0 x_num0_m x_num0_f x_bits1 x_num1_m x_num1_f x_bits2 x_num2_m x_num2_f x_bits3 x_num3_m x_num3_f m_images m_mfit m_known m_laid m_hre m_opnd m_bad m_usg m_trcd m_isP m_row_f m_kpt_f m_errs_f m_bitsOf_f m_sizeOf_f m_cels_f m_broken_f m_isFit_f m_breaks_f m_act_f m_wth_f m_facts_f m_pile_f m_trc_f hW hI => ?_)
  subst hW
  obtain ⟨iS, iV, iF, iR, iE, iH0, iH1, iH2, iH3, iK⟩ := hI
  have jK : ∃ k : Nat, k ≤ c + 1 ∧ x_imgs = nI k ∧ m_images = nI k ∧ (x_hasI = if k = 0 then nI 0 else nI 1) ∧ (k ≠ 0 → IvS x_kp_vow x_kp_day x_kp_worth x_kp_z x_kp_kinds_m x_kp_kinds_f x_kp_ms_m x_kp_ms_f x_kp_said_m x_kp_said_f x_kp_signs_m x_kp_signs_f x_kp_tape_m x_kp_tape_f x_kp_avo_m x_kp_avo_f x_kp_tal_m x_kp_tal_f x_kp_wai_m x_kp_wai_f m_kpt_f) := by
    obtain ⟨k, hk, q⟩ := iK
    exact ⟨k, by omega, q⟩
  obtain ⟨u, w, e1, e2, e3, jS, jF, jE⟩ := k_forget iS iV iF iE a0
  exact s_forget G tx wx tm wm x_hasI x_imgs x_vow x_day x_worth x_z x_kinds_m x_kinds_f x_ms_m x_ms_f x_said_m x_said_f x_signs_m x_signs_f x_tape_m x_tape_f x_avo_m x_avo_f x_tal_m x_tal_f x_wai_m x_wai_f x_kp_vow x_kp_day x_kp_worth x_kp_z x_kp_kinds_m x_kp_kinds_f x_kp_ms_m x_kp_ms_f x_kp_said_m x_kp_said_f x_kp_signs_m x_kp_signs_f x_kp_tape_m x_kp_tape_f x_kp_avo_m x_kp_avo_f x_kp_tal_m x_kp_tal_f x_kp_wai_m x_kp_wai_f x_fitting x_spread_f x_breakers_f x_fit_f x_counted_f x_kk x_rat x_flt x_codes_m x_codes_f x_stack_m x_stack_f x_parted x_vkk x_vkd x_vmm x_trace_m x_trace_f x_er_f x_bits0 x_num0_m x_num0_f x_bits1 x_num1_m x_num1_f x_bits2 x_num2_m x_num2_f x_bits3 x_num3_m x_num3_f m_images m_mfit m_known m_laid m_hre m_opnd m_bad m_usg m_trcd m_isP m_row_f m_kpt_f m_errs_f m_bitsOf_f m_sizeOf_f m_cels_f m_broken_f m_isFit_f m_breaks_f m_act_f m_wth_f m_facts_f m_pile_f m_trc_f a0 u w e1 e2 e3 ⟨jS, iV, jF, iR, jE, iH0, iH1, iH2, iH3, jK⟩
theorem st_image (G : xG) (tx : Nat) (wx : Nat → Nat) (tm : Nat) (wm : Nat → Nat)  : StpI G tx wx tm wm yX7_image (Cond.code yX7_image cX7_image 1 (some .int)) yX8_image (Cond.code yX8_image cX8_image 1 (some .int)) [] := by
  intro c ws hc h
  refine h.on (fun x_hasI x_imgs x_vow x_day x_worth x_z x_kinds_m x_kinds_f x_ms_m x_ms_f x_said_m x_said_f x_signs_m x_signs_f x_tape_m x_tape_f x_avo_m x_avo_f x_tal_m x_tal_f x_wai_m x_wai_f x_kp_vow x_kp_day x_kp_worth x_kp_z x_kp_kinds_m x_kp_kinds_f x_kp_ms_m x_kp_ms_f x_kp_said_m x_kp_said_f x_kp_signs_m x_kp_signs_f x_kp_tape_m x_kp_tape_f x_kp_avo_m x_kp_avo_f x_kp_tal_m x_kp_tal_f x_kp_wai_m x_kp_wai_f x_fitting x_spread_f x_breakers_f x_fit_f x_counted_f x_kk x_rat x_flt x_codes_m x_codes_f x_stack_m x_stack_f x_parted x_vkk x_vkd x_vmm x_trace_m x_trace_f x_er_f x_bits0 x_num0_m x_num0_f x_bits1 x_num1_m x_num1_f x_bits2 x_num2_m x_num2_f x_bits3 x_num3_m x_num3_f m_images m_mfit m_known m_laid m_hre m_opnd m_bad m_usg m_trcd m_isP m_row_f m_kpt_f m_errs_f m_bitsOf_f m_sizeOf_f m_cels_f m_broken_f m_isFit_f m_breaks_f m_act_f m_wth_f m_facts_f m_pile_f m_trc_f hW hI => ?_)
  subst hW
  obtain ⟨iS, iV, iF, iR, iE, iH0, iH1, iH2, iH3, iK⟩ := hI
  obtain ⟨u, w, e1, e2, e3, jK⟩ := k_image iS iK
  exact s_image G tx wx tm wm x_hasI x_imgs x_vow x_day x_worth x_z x_kinds_m x_kinds_f x_ms_m x_ms_f x_said_m x_said_f x_signs_m x_signs_f x_tape_m x_tape_f x_avo_m x_avo_f x_tal_m x_tal_f x_wai_m x_wai_f x_kp_vow x_kp_day x_kp_worth x_kp_z x_kp_kinds_m x_kp_kinds_f x_kp_ms_m x_kp_ms_f x_kp_said_m x_kp_said_f x_kp_signs_m x_kp_signs_f x_kp_tape_m x_kp_tape_f x_kp_avo_m x_kp_avo_f x_kp_tal_m x_kp_tal_f x_kp_wai_m x_kp_wai_f x_fitting x_spread_f x_breakers_f x_fit_f x_counted_f x_kk x_rat x_flt x_codes_m x_codes_f x_stack_m x_stack_f x_parted x_vkk x_vkd x_vmm x_trace_m x_trace_f x_er_f x_bits0 x_num0_m x_num0_f x_bits1 x_num1_m x_num1_f x_bits2 x_num2_m x_num2_f x_bits3 x_num3_m x_num3_f m_images m_mfit m_known m_laid m_hre m_opnd m_bad m_usg m_trcd m_isP m_row_f m_kpt_f m_errs_f m_bitsOf_f m_sizeOf_f m_cels_f m_broken_f m_isFit_f m_breaks_f m_act_f m_wth_f m_facts_f m_pile_f m_trc_f u w e1 e2 e3 ⟨iS, iV, iF, iR, iE, iH0, iH1, iH2, iH3, jK⟩
theorem st_restore (G : xG) (tx : Nat) (wx : Nat → Nat) (tm : Nat) (wm : Nat → Nat)  : StpI G tx wx tm wm yX7_restore (Cond.code yX7_restore cX7_restore 1 (some .int)) yX8_restore (Cond.code yX8_restore cX8_restore 1 (some .int)) [] := by
  intro c ws hc h
  refine h.on (fun x_hasI x_imgs x_vow x_day x_worth x_z x_kinds_m x_kinds_f x_ms_m x_ms_f x_said_m x_said_f x_signs_m x_signs_f x_tape_m x_tape_f x_avo_m x_avo_f x_tal_m x_tal_f x_wai_m x_wai_f x_kp_vow x_kp_day x_kp_worth x_kp_z x_kp_kinds_m x_kp_kinds_f x_kp_ms_m x_kp_ms_f x_kp_said_m x_kp_said_f x_kp_signs_m x_kp_signs_f x_kp_tape_m x_kp_tape_f x_kp_avo_m x_kp_avo_f x_kp_tal_m x_kp_tal_f x_kp_wai_m x_kp_wai_f x_fitting x_spread_f x_breakers_f x_fit_f x_counted_f x_kk x_rat x_flt x_codes_m x_codes_f x_stack_m x_stack_f x_parted x_vkk x_vkd x_vmm x_trace_m x_trace_f x_er_f x_bits0 x_num0_m x_num0_f x_bits1 x_num1_m x_num1_f x_bits2 x_num2_m x_num2_f x_bits3 x_num3_m x_num3_f m_images m_mfit m_known m_laid m_hre m_opnd m_bad m_usg m_trcd m_isP m_row_f m_kpt_f m_errs_f m_bitsOf_f m_sizeOf_f m_cels_f m_broken_f m_isFit_f m_breaks_f m_act_f m_wth_f m_facts_f m_pile_f m_trc_f hW hI => ?_)
  subst hW
  obtain ⟨iS, iV, iF, iR, iE, iH0, iH1, iH2, iH3, iK⟩ := hI
  have jK : ∃ k : Nat, k ≤ c + 1 ∧ x_imgs = nI k ∧ m_images = nI k ∧ (x_hasI = if k = 0 then nI 0 else nI 1) ∧ (k ≠ 0 → IvS x_kp_vow x_kp_day x_kp_worth x_kp_z x_kp_kinds_m x_kp_kinds_f x_kp_ms_m x_kp_ms_f x_kp_said_m x_kp_said_f x_kp_signs_m x_kp_signs_f x_kp_tape_m x_kp_tape_f x_kp_avo_m x_kp_avo_f x_kp_tal_m x_kp_tal_f x_kp_wai_m x_kp_wai_f m_kpt_f) := by
    obtain ⟨k, hk, q⟩ := iK
    exact ⟨k, by omega, q⟩
  obtain ⟨u, w, e1, e2, e3, jS, jF, jE⟩ := k_restore iS iV iF iE iK hc
  exact s_restore G tx wx tm wm x_hasI x_imgs x_vow x_day x_worth x_z x_kinds_m x_kinds_f x_ms_m x_ms_f x_said_m x_said_f x_signs_m x_signs_f x_tape_m x_tape_f x_avo_m x_avo_f x_tal_m x_tal_f x_wai_m x_wai_f x_kp_vow x_kp_day x_kp_worth x_kp_z x_kp_kinds_m x_kp_kinds_f x_kp_ms_m x_kp_ms_f x_kp_said_m x_kp_said_f x_kp_signs_m x_kp_signs_f x_kp_tape_m x_kp_tape_f x_kp_avo_m x_kp_avo_f x_kp_tal_m x_kp_tal_f x_kp_wai_m x_kp_wai_f x_fitting x_spread_f x_breakers_f x_fit_f x_counted_f x_kk x_rat x_flt x_codes_m x_codes_f x_stack_m x_stack_f x_parted x_vkk x_vkd x_vmm x_trace_m x_trace_f x_er_f x_bits0 x_num0_m x_num0_f x_bits1 x_num1_m x_num1_f x_bits2 x_num2_m x_num2_f x_bits3 x_num3_m x_num3_f m_images m_mfit m_known m_laid m_hre m_opnd m_bad m_usg m_trcd m_isP m_row_f m_kpt_f m_errs_f m_bitsOf_f m_sizeOf_f m_cels_f m_broken_f m_isFit_f m_breaks_f m_act_f m_wth_f m_facts_f m_pile_f m_trc_f u w e1 e2 e3 ⟨jS, iV, jF, iR, jE, iH0, iH1, iH2, iH3, jK⟩
