/-! PURE: vows, sheets of signs -/
def fig (v : Nat) : Nat := (List.range 6).countP fun k => !(v / 3 ^ k % 3 == 2)
theorem fig_le (v : Nat) : fig v ≤ 6 := cP_le _ _
theorem pow3_div (v j : Nat) : v / 3 ^ j / 3 = v / 3 ^ (j + 1) := by rw [Nat.div_div_eq_div_mul, Nat.pow_succ]
theorem x_settled {v : Nat} (hv : v < 729) : F_X5_settled (nI v) = some (nI (fig v)) := by
  unfold F_X5_settled
  have h := lp_det (body := B_X5_settled_7) (fun j => (nI ((List.range j).countP fun k => !(v / 3 ^ k % 3 == 2)), nI (v / 3 ^ j), nI j)) (some (nI (fig v))) 6 (by omega) (fun j hj k => ?_) (fun k => ?_)
  · refine Eq.trans ?_ h
    show lp _ _ (nI 0, nI v, nI 0) = lp _ _ (nI 0, nI (v / 3 ^ 0), nI 0)
    rw [Nat.pow_zero, Nat.div_one]
  · have hle : v / 3 ^ j ≤ v := Nat.div_le_self _ _
    have hc := cP_le (fun k => !(v / 3 ^ k % 3 == 2)) j
    have e1 : nI (v / 3 ^ j) - nI (v / 3 ^ j) / (3 : Int32) * (3 : Int32) = nI (v / 3 ^ j % 3) := by rw [l3]; exact pk_rem (by omega) (by omega) (by omega)
    have e2 : nI (v / 3 ^ j) / (3 : Int32) = nI (v / 3 ^ (j + 1)) := by rw [l3, pk_div (by omega) (by omega) (by omega), pow3_div]
    unfold B_X5_settled_7
    rw [if_neg (show ¬ (6 : Int32) ≤ nI j from by rw [l6, nI_leI (by omega) (by omega)]; omega)]
    by_cases h2 : v / 3 ^ j % 3 = 2
    · rw [if_pos (show nI (v / 3 ^ j) - nI (v / 3 ^ j) / (3 : Int32) * (3 : Int32) = (2 : Int32) from by rw [e1, h2]; rfl)]
      show k (_ + (0 : Int32), nI (v / 3 ^ j) / (3 : Int32), nI j + (1 : Int32)) = _
      rw [e2, l0, l1, nI_add, nI_add, cP_succ]
      simp [h2]
    · rw [if_neg (show ¬ nI (v / 3 ^ j) - nI (v / 3 ^ j) / (3 : Int32) * (3 : Int32) = (2 : Int32) from by rw [e1, l2, nI_eq (by omega) (by omega)]; exact h2)]
      show k (_ + (1 : Int32), nI (v / 3 ^ j) / (3 : Int32), nI j + (1 : Int32)) = _
      rw [e2, l1, nI_add, nI_add, cP_succ]
      simp [h2]
  · unfold B_X5_settled_7
    rw [if_pos (show (6 : Int32) ≤ nI 6 from by decide)]
    rfl
theorem fig_eq : F_X8_figuresOf = F_X5_settled := rfl
theorem m_figures {v : Nat} (hv : v < 729) : F_X8_figuresOf (nI v) = some (nI (fig v)) := x_settled hv
/-- the least that fits in [lo, 729), and the simplest -/
def LeastIn (row : Nat → Int32) (lo L : Nat) : Prop := lo ≤ L ∧ L < 729 ∧ fitP row L = true ∧ ∀ v, lo ≤ v → v < L → fitP row v = false
def SimpIn (row : Nat → Int32) (lo hi S : Nat) : Prop := lo ≤ S ∧ S < hi ∧ fitP row S = true ∧ (∀ v, lo ≤ v → v < hi → fitP row v = true → fig S ≤ fig v) ∧ ∀ v, lo ≤ v → v < S → fitP row v = true → fig S < fig v
theorem SimpIn.one {row : Nat → Int32} {lo hi S T : Nat} (h : SimpIn row lo hi S) (g : SimpIn row lo hi T) : S = T := by
  obtain ⟨a, b, c, d, e⟩ := h
  obtain ⟨a', b', c', d', e'⟩ := g
  rcases Nat.lt_trichotomy S T with h | h | h
  · have h1 := e' S a h c
    have h2 := d T a' b' c'
    omega
  · exact h
  · have h1 := e T a' h c'
    have h2 := d' S a b c
    omega
section
variable {c : Nat} {x_hasI : Int32} {x_imgs : Int32} {x_vow : Int32} {x_day : Int32} {x_worth : Int32} {x_z : Int32} {x_kinds_m : Int32} {x_kinds_f : Nat → Int32} {x_ms_m : Int32} {x_ms_f : Nat → Int32} {x_said_m : Int32} {x_said_f : Nat → Int32} {x_signs_m : Int32} {x_signs_f : Nat → Int32} {x_tape_m : Int32} {x_tape_f : Nat → Int32} {x_avo_m : Int32} {x_avo_f : Nat → Int32} {x_tal_m : Int32} {x_tal_f : Nat → Int32} {x_wai_m : Int32} {x_wai_f : Nat → Int32} {x_kp_vow : Int32} {x_kp_day : Int32} {x_kp_worth : Int32} {x_kp_z : Int32} {x_kp_kinds_m : Int32} {x_kp_kinds_f : Nat → Int32} {x_kp_ms_m : Int32} {x_kp_ms_f : Nat → Int32} {x_kp_said_m : Int32} {x_kp_said_f : Nat → Int32} {x_kp_signs_m : Int32} {x_kp_signs_f : Nat → Int32} {x_kp_tape_m : Int32} {x_kp_tape_f : Nat → Int32} {x_kp_avo_m : Int32} {x_kp_avo_f : Nat → Int32} {x_kp_tal_m : Int32} {x_kp_tal_f : Nat → Int32} {x_kp_wai_m : Int32} {x_kp_wai_f : Nat → Int32} {x_fitting : Int32} {x_spread_f : Nat → Int32} {x_breakers_f : Nat → Int64} {x_fit_f : Nat → Int32} {x_counted_f : Nat → Int32} {x_kk : Nat} {x_rat : Int32} {x_flt : Int32} {x_codes_m : Int32} {x_codes_f : Nat → Int32} {x_stack_m : Int32} {x_stack_f : Nat → Int32} {x_parted : Int32} {x_vkk : Int32} {x_vkd : Int32} {x_vmm : Int32} {x_trace_m : Int32} {x_trace_f : Nat → Int32} {x_er_f : Nat → Int32} {x_bits0 : Int32} {x_num0_m : Int32} {x_num0_f : Nat → Int32} {x_bits1 : Int32} {x_num1_m : Int32} {x_num1_f : Nat → Int32} {x_bits2 : Int32} {x_num2_m : Int32} {x_num2_f : Nat → Int32} {x_bits3 : Int32} {x_num3_m : Int32} {x_num3_f : Nat → Int32} {m_images : Int32} {m_mfit : Int32} {m_known : Int32} {m_laid : Int32} {m_hre : Int32} {m_opnd : Int32} {m_bad : Int32} {m_usg : Int32} {m_trcd : Int32} {m_isP : Int32} {m_row_f : Nat → Int32} {m_kpt_f : Nat → Int32} {m_errs_f : Nat → Int32} {m_bitsOf_f : Nat → Int32} {m_sizeOf_f : Nat → Int32} {m_cels_f : Nat → Int32} {m_broken_f : Nat → Int64} {m_isFit_f : Nat → Int32} {m_breaks_f : Nat → Int32} {m_act_f : Nat → Int32} {m_wth_f : Nat → Int32} {m_facts_f : Nat → Int32} {m_pile_f : Nat → Int32} {m_trc_f : Nat → Int32}
theorem cnt0 : cntF m_row_f = 0 ↔ ∀ v, v < 729 → fitP m_row_f v = false := by
  unfold cntF
  rw [List.countP_eq_zero]
  constructor
  · intro h v hv
    have := h v (List.mem_range.mpr hv)
    simpa using this
  · intro h v hv
    simp [h v (List.mem_range.mp hv)]
theorem x_least (hF : FtV m_row_f x_fit_f) (h0 : ¬ cntF m_row_f = 0) : ∃ L, F_X5_least x_fit_f = some (nI L) ∧ LeastIn m_row_f 0 L := by
  unfold F_X5_least
  refine lp_go (fun j (s : Int32) => s = nI j ∧ ∀ v, v < j → fitP m_row_f v = false) (fun o => ∃ L, o = some (nI L) ∧ LeastIn m_row_f 0 L) 729 (by omega) ⟨rfl, fun v hv => absurd hv (Nat.not_lt_zero v)⟩ ?_ ?_
  · rintro j s hj ⟨rfl, h⟩
    have hf := hF j hj
    cases hb : fitP m_row_f j with
    | false =>
      rw [hb] at hf
      refine Or.inr ⟨nI (j + 1), ⟨rfl, fun v hv => ?_⟩, fun k => ?_⟩
      · rcases Nat.lt_or_ge v j with g | g
        · exact h v g
        · rw [show v = j by omega]; exact hb
      · unfold B_X5_least_2
        simp (disch := omega) only [↓reduceIte, l0, l1, l2, l3, l4, l5, l6, l7, l8, l9, l10, l11, l12, l13, l14, l15, l16, l17, l18, l19, l20, l21, l22, l23, l24, l25, l26, l27, l28, l29, l30, l32, l33, l37, l38, l40, l41, l42, l43, l45, l47, l48, l57, l58, l60, l61, l62, l63, l64, l69, l70, l74, l88, l91, l96, l97, l98, l99, l100, l102, l115, l116, l121, l124, l134, l158, l279, l255, l400, l728, l729, l9999, l99999, l12345, l1103515245, l1000000000, l1000000001, l1000000002, l1000000003, l1000000004, l1000000005, l1000000006, pk_us, nI_add, pk_mul, pk_sub, pk_div, nI_clamp, nI_ltI, nI_leI, nI_eq, bd_some, Nat.not_lt_zero, false_or, or_false, true_or, or_true, if_pos, if_neg, ite_true, ite_false, if_true, if_false, Nat.add_zero, hf, Bool.false_eq_true]
    | true =>
      rw [hb] at hf
      refine Or.inl (fun k => ⟨j, ?_, Nat.zero_le _, hj, hb, fun v _ hv => h v hv⟩)
      unfold B_X5_least_2
      simp (disch := omega) only [↓reduceIte, l0, l1, l2, l3, l4, l5, l6, l7, l8, l9, l10, l11, l12, l13, l14, l15, l16, l17, l18, l19, l20, l21, l22, l23, l24, l25, l26, l27, l28, l29, l30, l32, l33, l37, l38, l40, l41, l42, l43, l45, l47, l48, l57, l58, l60, l61, l62, l63, l64, l69, l70, l74, l88, l91, l96, l97, l98, l99, l100, l102, l115, l116, l121, l124, l134, l158, l279, l255, l400, l728, l729, l9999, l99999, l12345, l1103515245, l1000000000, l1000000001, l1000000002, l1000000003, l1000000004, l1000000005, l1000000006, pk_us, nI_add, pk_mul, pk_sub, pk_div, nI_clamp, nI_ltI, nI_leI, nI_eq, bd_some, Nat.not_lt_zero, false_or, or_false, true_or, or_true, if_pos, if_neg, ite_true, ite_false, if_true, if_false, Nat.add_zero, hf]
  · rintro s ⟨rfl, h⟩ k
    exact absurd (cnt0.mpr h) h0
theorem x_simplest (hF : FtV m_row_f x_fit_f) (h0 : ¬ cntF m_row_f = 0) : ∃ S, F_X5_simplest x_fit_f = some (nI S) ∧ SimpIn m_row_f 0 729 S := by
  unfold F_X5_simplest
  refine lp_go (fun j (s : Int32 × Int32 × Int32) => s.2.2 = nI j ∧ ((s.1 = -(nI 1) ∧ s.2.1 = nI 7 ∧ ∀ v, v < j → fitP m_row_f v = false) ∨ ∃ S, s.1 = nI S ∧ s.2.1 = nI (fig S) ∧ SimpIn m_row_f 0 j S)) (fun o => ∃ S, o = some (nI S) ∧ SimpIn m_row_f 0 729 S) 729 (by omega) ⟨rfl, Or.inl ⟨rfl, rfl, fun v hv => absurd hv (Nat.not_lt_zero v)⟩⟩ ?_ ?_
  · rintro j ⟨s1, s2, s3⟩ hj ⟨h1, h⟩
    dsimp only at h1 h
    subst h1
    have hf := hF j hj
    have hfg := fig_le j
    have hset := x_settled hj
    cases hb : fitP m_row_f j with
    | false =>
      rw [hb] at hf
      refine Or.inr ⟨(s1, s2, nI (j + 1)), ⟨rfl, ?_⟩, fun k => ?_⟩
      · rcases h with ⟨a, b, c⟩ | ⟨S, a, b, c1, c2, c3, c4, c5⟩
        · refine Or.inl ⟨a, b, fun v hv => ?_⟩
          rcases Nat.lt_or_ge v j with g | g
          · exact c v g
          · rw [show v = j by omega]; exact hb
        · refine Or.inr ⟨S, a, b, c1, by omega, c3, fun v g1 g2 g3 => ?_, c5⟩
          rcases Nat.lt_or_ge v j with g | g
          · exact c4 v g1 g g3
          · rw [show v = j by omega, hb] at g3; cases g3
      · unfold B_X5_simplest_7
        simp (disch := omega) only [↓reduceIte, l0, l1, l2, l3, l4, l5, l6, l7, l8, l9, l10, l11, l12, l13, l14, l15, l16, l17, l18, l19, l20, l21, l22, l23, l24, l25, l26, l27, l28, l29, l30, l32, l33, l37, l38, l40, l41, l42, l43, l45, l47, l48, l57, l58, l60, l61, l62, l63, l64, l69, l70, l74, l88, l91, l96, l97, l98, l99, l100, l102, l115, l116, l121, l124, l134, l158, l279, l255, l400, l728, l729, l9999, l99999, l12345, l1103515245, l1000000000, l1000000001, l1000000002, l1000000003, l1000000004, l1000000005, l1000000006, pk_us, nI_add, pk_mul, pk_sub, pk_div, nI_clamp, nI_ltI, nI_leI, nI_eq, bd_some, Nat.not_lt_zero, false_or, or_false, true_or, or_true, if_pos, if_neg, ite_true, ite_false, if_true, if_false, Nat.add_zero, hf, Bool.false_eq_true]
    | true =>
      rw [hb] at hf
      rcases h with ⟨a, b, c⟩ | ⟨S, a, b, c1, c2, c3, c4, c5⟩
      · subst a b
        refine Or.inr ⟨(nI j, nI (fig j), nI (j + 1)), ⟨rfl, Or.inr ⟨j, rfl, rfl, Nat.zero_le _, by omega, hb, fun v g1 g2 g3 => ?_, fun v g1 g2 g3 => ?_⟩⟩, fun k => ?_⟩
        · rcases Nat.lt_or_ge v j with g | g
          · rw [c v g] at g3; cases g3
          · rw [show v = j by omega]; exact Nat.le_refl _
        · rw [c v g2] at g3; cases g3
        · unfold B_X5_simplest_7
          simp (disch := omega) only [↓reduceIte, l0, l1, l2, l3, l4, l5, l6, l7, l8, l9, l10, l11, l12, l13, l14, l15, l16, l17, l18, l19, l20, l21, l22, l23, l24, l25, l26, l27, l28, l29, l30, l32, l33, l37, l38, l40, l41, l42, l43, l45, l47, l48, l57, l58, l60, l61, l62, l63, l64, l69, l70, l74, l88, l91, l96, l97, l98, l99, l100, l102, l115, l116, l121, l124, l134, l158, l279, l255, l400, l728, l729, l9999, l99999, l12345, l1103515245, l1000000000, l1000000001, l1000000002, l1000000003, l1000000004, l1000000005, l1000000006, pk_us, nI_add, pk_mul, pk_sub, pk_div, nI_clamp, nI_ltI, nI_leI, nI_eq, bd_some, Nat.not_lt_zero, false_or, or_false, true_or, or_true, if_pos, if_neg, ite_true, ite_false, if_true, if_false, Nat.add_zero, hf, hset]
      · subst a b
        have hfS := fig_le S
        by_cases hlt : fig S ≤ fig j
        · refine Or.inr ⟨(nI S, nI (fig S), nI (j + 1)), ⟨rfl, Or.inr ⟨S, rfl, rfl, c1, by omega, c3, fun v g1 g2 g3 => ?_, c5⟩⟩, fun k => ?_⟩
          · rcases Nat.lt_or_ge v j with g | g
            · exact c4 v g1 g g3
            · rw [show v = j by omega]; exact hlt
          · unfold B_X5_simplest_7
            simp (disch := omega) only [↓reduceIte, l0, l1, l2, l3, l4, l5, l6, l7, l8, l9, l10, l11, l12, l13, l14, l15, l16, l17, l18, l19, l20, l21, l22, l23, l24, l25, l26, l27, l28, l29, l30, l32, l33, l37, l38, l40, l41, l42, l43, l45, l47, l48, l57, l58, l60, l61, l62, l63, l64, l69, l70, l74, l88, l91, l96, l97, l98, l99, l100, l102, l115, l116, l121, l124, l134, l158, l279, l255, l400, l728, l729, l9999, l99999, l12345, l1103515245, l1000000000, l1000000001, l1000000002, l1000000003, l1000000004, l1000000005, l1000000006, pk_us, nI_add, pk_mul, pk_sub, pk_div, nI_clamp, nI_ltI, nI_leI, nI_eq, bd_some, Nat.not_lt_zero, false_or, or_false, true_or, or_true, if_pos, if_neg, ite_true, ite_false, if_true, if_false, Nat.add_zero, hf, hset, hlt]
        · refine Or.inr ⟨(nI j, nI (fig j), nI (j + 1)), ⟨rfl, Or.inr ⟨j, rfl, rfl, Nat.zero_le _, by omega, hb, fun v g1 g2 g3 => ?_, fun v g1 g2 g3 => ?_⟩⟩, fun k => ?_⟩
          · rcases Nat.lt_or_ge v j with g | g
            · have := c4 v g1 g g3; omega
            · rw [show v = j by omega]; exact Nat.le_refl _
          · have := c4 v g1 g2 g3; omega
          · unfold B_X5_simplest_7
            simp (disch := omega) only [↓reduceIte, l0, l1, l2, l3, l4, l5, l6, l7, l8, l9, l10, l11, l12, l13, l14, l15, l16, l17, l18, l19, l20, l21, l22, l23, l24, l25, l26, l27, l28, l29, l30, l32, l33, l37, l38, l40, l41, l42, l43, l45, l47, l48, l57, l58, l60, l61, l62, l63, l64, l69, l70, l74, l88, l91, l96, l97, l98, l99, l100, l102, l115, l116, l121, l124, l134, l158, l279, l255, l400, l728, l729, l9999, l99999, l12345, l1103515245, l1000000000, l1000000001, l1000000002, l1000000003, l1000000004, l1000000005, l1000000006, pk_us, nI_add, pk_mul, pk_sub, pk_div, nI_clamp, nI_ltI, nI_leI, nI_eq, bd_some, Nat.not_lt_zero, false_or, or_false, true_or, or_true, if_pos, if_neg, ite_true, ite_false, if_true, if_false, Nat.add_zero, hf, hset, hlt]
  · rintro ⟨s1, s2, s3⟩ ⟨h1, h⟩ k
    dsimp only at h1 h
    subst h1
    rcases h with ⟨a, b, c⟩ | ⟨S, a, b, c⟩
    · exact absurd (cnt0.mpr c) h0
    · subst a
      refine ⟨S, ?_, c⟩
      unfold B_X5_simplest_7
      simp (disch := omega) only [↓reduceIte, l0, l1, l2, l3, l4, l5, l6, l7, l8, l9, l10, l11, l12, l13, l14, l15, l16, l17, l18, l19, l20, l21, l22, l23, l24, l25, l26, l27, l28, l29, l30, l32, l33, l37, l38, l40, l41, l42, l43, l45, l47, l48, l57, l58, l60, l61, l62, l63, l64, l69, l70, l74, l88, l91, l96, l97, l98, l99, l100, l102, l115, l116, l121, l124, l134, l158, l279, l255, l400, l728, l729, l9999, l99999, l12345, l1103515245, l1000000000, l1000000001, l1000000002, l1000000003, l1000000004, l1000000005, l1000000006, pk_us, nI_add, pk_mul, pk_sub, pk_div, nI_clamp, nI_ltI, nI_leI, nI_eq, bd_some, Nat.not_lt_zero, false_or, or_false, true_or, or_true, if_pos, if_neg, ite_true, ite_false, if_true, if_false, Nat.add_zero]
theorem m_vowsL {isFit : Nat → Int32} {errs : Nat → Int32} {wh k1 : Int32} {breaks : Nat → Int32} (hF : FtV m_row_f isFit) : ∃ (le si : Int32), ((le = -(nI 1) ∧ si = -(nI 1) ∧ cntF m_row_f = 0) ∨ (¬ cntF m_row_f = 0 ∧ ∃ L S, le = nI L ∧ si = nI S ∧ LeastIn m_row_f 0 L ∧ SimpIn m_row_f 0 729 S)) ∧ ∃ kk, lp (B_X8_vows_29 errs wh (nI (cntF m_row_f), k1, isFit, breaks)) fuelC (-(nI 1), -(nI 1), nI 728) = B_X8_vows_29 errs wh (nI (cntF m_row_f), k1, isFit, breaks) kk (le, si, nI 0 - nI 1) := by
  refine lp_go (fun j (s : Int32 × Int32 × Int32) => s.2.2 = nI (729 - j) - nI 1 ∧ ((s.1 = -(nI 1) ∧ s.2.1 = -(nI 1) ∧ ∀ v, 729 - j ≤ v → v < 729 → fitP m_row_f v = false) ∨ ∃ L S, s.1 = nI L ∧ s.2.1 = nI S ∧ LeastIn m_row_f (729 - j) L ∧ SimpIn m_row_f (729 - j) 729 S)) (fun o => ∃ (le si : Int32), ((le = -(nI 1) ∧ si = -(nI 1) ∧ cntF m_row_f = 0) ∨ (¬ cntF m_row_f = 0 ∧ ∃ L S, le = nI L ∧ si = nI S ∧ LeastIn m_row_f 0 L ∧ SimpIn m_row_f 0 729 S)) ∧ ∃ kk, o = B_X8_vows_29 errs wh (nI (cntF m_row_f), k1, isFit, breaks) kk (le, si, nI 0 - nI 1)) 729 (by omega) ⟨by decide, Or.inl ⟨rfl, rfl, fun v h1 h2 => by omega⟩⟩ ?_ ?_
  · rintro j ⟨s1, s2, s3⟩ hj ⟨h1, h⟩
    dsimp only at h1 h
    obtain ⟨x, hx⟩ : ∃ x, x = 729 - (j + 1) := ⟨_, rfl⟩
    have hx1 : 729 - j = x + 1 := by omega
    have hxl : x < 729 := by omega
    have e1 : nI (729 - j) - nI 1 = nI x := by rw [hx1, pk_sub (by omega), Nat.add_sub_cancel]
    rw [e1] at h1
    subst h1
    rw [hx1] at h
    have hf := hF x hxl
    have hg : ¬ (nI x < 0 ∨ 729 ≤ (nI x).toNatClampNeg) := nI_in hxl (by omega)
    have hneg : ¬ nI x < 0 := nI_pos (by omega)
    have hcl : (nI x).toNatClampNeg = x := nI_clamp (by omega)
    have hset := m_figures hxl
    have hfg := fig_le x
    rw [← hx]
    cases hb : fitP m_row_f x with
    | false =>
      rw [hb] at hf
      have hf0 : isFit (nI x).toNatClampNeg = 0 := by rw [hcl]; exact hf
      refine Or.inr ⟨(s1, s2, nI x - nI 1), ⟨rfl, ?_⟩, fun k => ?_⟩
      · rcases h with ⟨a, b, c⟩ | ⟨L, S, a, b, ⟨c1, c2, c3, c4⟩, d1, d2, d3, d4, d5⟩
        · refine Or.inl ⟨a, b, fun v g1 g2 => ?_⟩
          rcases Nat.lt_or_ge x v with g | g
          · exact c v g g2
          · rw [show v = x by omega]; exact hb
        · refine Or.inr ⟨L, S, a, b, ⟨by omega, c2, c3, fun v g1 g2 => ?_⟩, by omega, d2, d3, fun v g1 g2 g3 => ?_, fun v g1 g2 g3 => ?_⟩
          · rcases Nat.lt_or_ge x v with g | g
            · exact c4 v g g2
            · rw [show v = x by omega]; exact hb
          · rcases Nat.lt_or_ge x v with g | g
            · exact d4 v g g2 g3
            · rw [show v = x by omega, hb] at g3; cases g3
          · rcases Nat.lt_or_ge x v with g | g
            · exact d5 v g g2 g3
            · rw [show v = x by omega, hb] at g3; cases g3
      · unfold B_X8_vows_29
        rw [if_neg (show ¬ (s1, s2, nI x).2.2 < 0 from hneg), if_neg (show ¬ ((s1, s2, nI x).2.2 < 0 ∨ 729 ≤ (s1, s2, nI x).2.2.toNatClampNeg) from hg), if_pos (show isFit (nI x).toNatClampNeg = 0 from hf0), if_neg (show ¬ ((s1, s2, nI x).2.2 < 0 ∨ 729 ≤ (s1, s2, nI x).2.2.toNatClampNeg) from hg), if_pos (show isFit (nI x).toNatClampNeg = 0 from hf0)]
        show k (s1, s2, nI x + (-1 : Int32)) = _
        rw [show nI x + (-1 : Int32) = nI x - nI 1 from addm]
    | true =>
      rw [hb] at hf
      have hf1 : ¬ isFit (nI x).toNatClampNeg = 0 := by rw [hcl, hf]; decide
      have hL : LeastIn m_row_f x x := ⟨Nat.le_refl _, hxl, hb, fun v g1 g2 => by omega⟩
      rcases h with ⟨a, b, c⟩ | ⟨L, S, a, b, c, d1, d2, d3, d4, d5⟩
      · subst a b
        refine Or.inr ⟨(nI x, nI x, nI x - nI 1), ⟨rfl, Or.inr ⟨x, x, rfl, rfl, hL, Nat.le_refl _, hxl, hb, fun v g1 g2 g3 => ?_, fun v g1 g2 g3 => by omega⟩⟩, fun k => ?_⟩
        · rcases Nat.lt_or_ge x v with g | g
          · rw [c v g g2] at g3; cases g3
          · rw [show v = x by omega]; exact Nat.le_refl _
        · unfold B_X8_vows_29
          rw [if_neg (show ¬ (-(nI 1), -(nI 1), nI x).2.2 < 0 from hneg), if_neg (show ¬ ((-(nI 1), -(nI 1), nI x).2.2 < 0 ∨ 729 ≤ (-(nI 1), -(nI 1), nI x).2.2.toNatClampNeg) from hg), if_neg (show ¬ isFit (nI x).toNatClampNeg = 0 from hf1), if_neg (show ¬ ((-(nI 1), -(nI 1), nI x).2.2 < 0 ∨ 729 ≤ (-(nI 1), -(nI 1), nI x).2.2.toNatClampNeg) from hg), if_neg (show ¬ isFit (nI x).toNatClampNeg = 0 from hf1), if_pos (show (-(nI 1), -(nI 1), nI x).2.1 < 0 from (by decide : -(nI 1) < 0))]
          show k (nI x, nI x, nI x + (-1 : Int32)) = _
          rw [show nI x + (-1 : Int32) = nI x - nI 1 from addm]
      · subst a b
        have hfS := fig_le S
        have hsetS := m_figures (v := S) d2
        have hSneg : ¬ nI S < 0 := nI_pos (by omega)
        by_cases hlt : fig S < fig x
        · refine Or.inr ⟨(nI x, nI S, nI x - nI 1), ⟨rfl, Or.inr ⟨x, S, rfl, rfl, hL, by omega, d2, d3, fun v g1 g2 g3 => ?_, fun v g1 g2 g3 => ?_⟩⟩, fun k => ?_⟩
          · rcases Nat.lt_or_ge x v with g | g
            · exact d4 v g g2 g3
            · rw [show v = x by omega]; omega
          · rcases Nat.lt_or_ge x v with g | g
            · exact d5 v g g2 g3
            · rw [show v = x by omega]; omega
          · unfold B_X8_vows_29
            rw [if_neg (show ¬ (nI L, nI S, nI x).2.2 < 0 from hneg), if_neg (show ¬ ((nI L, nI S, nI x).2.2 < 0 ∨ 729 ≤ (nI L, nI S, nI x).2.2.toNatClampNeg) from hg), if_neg (show ¬ isFit (nI x).toNatClampNeg = 0 from hf1), if_neg (show ¬ ((nI L, nI S, nI x).2.2 < 0 ∨ 729 ≤ (nI L, nI S, nI x).2.2.toNatClampNeg) from hg), if_neg (show ¬ isFit (nI x).toNatClampNeg = 0 from hf1), if_neg (show ¬ (nI L, nI S, nI x).2.1 < 0 from hSneg)]
            dsimp only
            rw [hset, bd_some, hsetS, bd_some, if_pos ((nI_ltI (by omega) (by omega)).mpr hlt)]
            show k (nI x, nI S, nI x + (-1 : Int32)) = _
            rw [show nI x + (-1 : Int32) = nI x - nI 1 from addm]
        · refine Or.inr ⟨(nI x, nI x, nI x - nI 1), ⟨rfl, Or.inr ⟨x, x, rfl, rfl, hL, Nat.le_refl _, hxl, hb, fun v g1 g2 g3 => ?_, fun v g1 g2 g3 => by omega⟩⟩, fun k => ?_⟩
          · rcases Nat.lt_or_ge x v with g | g
            · have := d4 v g g2 g3; omega
            · rw [show v = x by omega]; exact Nat.le_refl _
          · unfold B_X8_vows_29
            rw [if_neg (show ¬ (nI L, nI S, nI x).2.2 < 0 from hneg), if_neg (show ¬ ((nI L, nI S, nI x).2.2 < 0 ∨ 729 ≤ (nI L, nI S, nI x).2.2.toNatClampNeg) from hg), if_neg (show ¬ isFit (nI x).toNatClampNeg = 0 from hf1), if_neg (show ¬ ((nI L, nI S, nI x).2.2 < 0 ∨ 729 ≤ (nI L, nI S, nI x).2.2.toNatClampNeg) from hg), if_neg (show ¬ isFit (nI x).toNatClampNeg = 0 from hf1), if_neg (show ¬ (nI L, nI S, nI x).2.1 < 0 from hSneg)]
            dsimp only
            rw [hset, bd_some, hsetS, bd_some, if_neg (by rw [nI_ltI (by omega) (by omega)]; exact hlt)]
            show k (nI x, nI x, nI x + (-1 : Int32)) = _
            rw [show nI x + (-1 : Int32) = nI x - nI 1 from addm]
  · rintro ⟨s1, s2, s3⟩ ⟨h1, h⟩ k
    dsimp only at h1 h
    subst h1
    rcases h with ⟨a, b, c⟩ | ⟨L, S, a, b, c, d⟩
    · exact ⟨s1, s2, Or.inl ⟨a, b, cnt0.mpr (fun v hv => c v (by omega) hv)⟩, k, rfl⟩
    · refine ⟨s1, s2, Or.inr ⟨fun e => ?_, L, S, a, b, c, d⟩, k, rfl⟩
      have := cnt0.mp e L c.2.1
      rw [c.2.2.1] at this
      cases this
theorem k_vows (iS : IvS x_vow x_day x_worth x_z x_kinds_m x_kinds_f x_ms_m x_ms_f x_said_m x_said_f x_signs_m x_signs_f x_tape_m x_tape_f x_avo_m x_avo_f x_tal_m x_tal_f x_wai_m x_wai_f m_row_f) (iV : IvV x_spread_f x_breakers_f m_broken_f) (iF : IvF m_row_f x_fitting x_fit_f x_counted_f m_mfit m_known m_isFit_f m_breaks_f) (iE : IvE x_er_f m_errs_f) (wh : Int32) : ∃ (u : (Int32 × (Nat → Int32))) (w : (Int32 × Int32 × Int32 × (Nat → Int32) × (Nat → Int32) × (Nat → Int32))), F_X7_vows x_fitting x_fit_f x_er_f wh = some u ∧ F_X8_vows m_mfit m_known m_row_f m_errs_f m_broken_f m_isFit_f m_breaks_f wh = some w ∧ u.1 = w.1 ∧ IvF m_row_f x_fitting x_fit_f x_counted_f w.2.1 w.2.2.1 w.2.2.2.2.1 w.2.2.2.2.2 ∧ IvE u.2 w.2.2.2.1 := by
  have iF0 := iF
  obtain ⟨hF, hf, hC, hK⟩ := iF0
  rcases ix wh 4 (by omega) with h | ⟨b, hb, rfl⟩
  · refine ⟨(-(nI 1000000001), upd x_er_f 1 (x_er_f 1 + nI 1)), (-(nI 1000000001), m_mfit, m_known, upd m_errs_f 1 (m_errs_f 1 + nI 1), m_isFit_f, m_breaks_f), ?_, ?_, rfl, iF, iE.err 1⟩
    · unfold F_X7_vows
      rw [show F_X7_within wh (0 : Int32) (3 : Int32) = _ from w_N (M := 3) h (by omega), bd_some, if_pos (show nI 0 = 0 from rfl), show F_X7_error x_er_f (1 : Int32) = _ from x_err1 x_er_f, bd_some]
    · unfold F_X8_vows
      rw [show F_X8_in wh (0 : Int32) (3 : Int32) = _ from w_N (M := 3) h (by omega), bd_some, if_pos (show nI 0 = 0 from rfl), show F_X8_error m_errs_f (-1000000001 : Int32) = _ from m_err1 m_errs_f, bd_some]
  · obtain ⟨i1, b1, r1, r2, r3⟩ := m_findVows iV.2.2 iS.2.2.1.sg hK
    have hK1 : KnV m_row_f (nI (cntF m_row_f)) (nI 1) i1 b1 := Or.inr ⟨rfl, r2, rfl, r3⟩
    have iF1 : IvF m_row_f x_fitting x_fit_f x_counted_f (nI (cntF m_row_f)) (nI 1) i1 b1 := ⟨hF, hf, hC, hK1⟩
    have q1 := cntF_le m_row_f
    obtain ⟨le, si, hls, kk, hlp⟩ := m_vowsL (isFit := i1) (errs := m_errs_f) (wh := nI b) (k1 := nI 1) (breaks := b1) r2
    have hM : F_X8_vows m_mfit m_known m_row_f m_errs_f m_broken_f m_isFit_f m_breaks_f (nI b) = B_X8_vows_29 m_errs_f (nI b) (nI (cntF m_row_f), nI 1, i1, b1) kk (le, si, nI 0 - nI 1) := by
      unfold F_X8_vows
      rw [show F_X8_in (nI b) (0 : Int32) (3 : Int32) = _ from w_Y (M := 3) (show b ≤ 3 by omega) (by omega), bd_some, if_neg (show ¬ nI 1 = 0 from by decide), r1, bd_some]
      exact hlp
    have hX : F_X7_vows x_fitting x_fit_f x_er_f (nI b) = (if nI b = 0 then some (x_fitting, x_er_f) else if x_fitting = 0 then some (-(nI 1000000002), upd x_er_f 2 (x_er_f 2 + nI 1)) else if nI b = (1 : Int32) then bd (F_X5_least x_fit_f) (fun u3 => some (u3, x_er_f)) else bd (F_X5_simplest x_fit_f) (fun u3 => if nI b = (2 : Int32) then some (u3, x_er_f) else bd (F_X5_settled u3) (fun u4 => some (u4, x_er_f)))) := by
      unfold F_X7_vows F_X5_fitting
      rw [show F_X7_within (nI b) (0 : Int32) (3 : Int32) = _ from w_Y (M := 3) (show b ≤ 3 by omega) (by omega), bd_some, if_neg (show ¬ nI 1 = 0 from by decide), bd_some, bd_some, show F_X7_error x_er_f (2 : Int32) = _ from x_err2 x_er_f, bd_some]
    unfold B_X8_vows_29 at hM
    rw [if_pos (show (le, si, nI 0 - nI 1).2.2 < 0 from neg1lt)] at hM
    by_cases hb0 : nI b = 0
    · rw [if_pos hb0] at hX hM
      exact ⟨_, _, hX, hM, hf, iF1, iE⟩
    · rw [if_neg hb0] at hX hM
      rcases hls with ⟨a1, a2, a3⟩ | ⟨a3, L, S, a1, a2, hL, hS⟩
      · rw [if_pos (show x_fitting = 0 from by rw [hf, a3]; rfl)] at hX
        rw [if_neg (show ¬ 0 ≤ (le, si, nI 0 - nI 1).1 from by rw [a1]; exact (by decide : ¬ 0 ≤ -(nI 1))), show F_X8_error m_errs_f (-1000000002 : Int32) = _ from m_err2 m_errs_f, bd_some] at hM
        exact ⟨_, _, hX, hM, rfl, iF1, iE.err 2⟩
      · rw [if_neg (show ¬ x_fitting = 0 from by rw [hf]; exact nI_ne0 (by omega) (by omega))] at hX
        have hL729 := hL.2.1
        rw [if_pos (show 0 ≤ (le, si, nI 0 - nI 1).1 from by rw [a1]; exact nI_pos' (by omega))] at hM
        obtain ⟨L', g1, g2⟩ := x_least hF a3
        obtain ⟨S', g3, g4⟩ := x_simplest hF a3
        have eS : S' = S := SimpIn.one g4 hS
        have eL : L' = L := by
          rcases Nat.lt_trichotomy L' L with h | h | h
          · have := hL.2.2.2 L' (Nat.zero_le _) h
            rw [g2.2.2.1] at this; cases this
          · exact h
          · have := g2.2.2.2 L (Nat.zero_le _) h
            rw [hL.2.2.1] at this; cases this
        subst eS eL a1 a2
        by_cases hb1 : nI b = (1 : Int32)
        · rw [if_pos hb1, g1, bd_some] at hX
          rw [if_pos hb1] at hM
          exact ⟨_, _, hX, hM, rfl, iF1, iE⟩
        · rw [if_neg hb1, g3, bd_some] at hX
          rw [if_neg hb1] at hM
          by_cases hb2 : nI b = (2 : Int32)
          · rw [if_pos hb2] at hX hM
            exact ⟨_, _, hX, hM, rfl, iF1, iE⟩
          · rw [if_neg hb2, x_settled hS.2.1, bd_some] at hX
            rw [if_neg hb2] at hM
            dsimp only at hM
            rw [m_figures hS.2.1, bd_some] at hM
            exact ⟨_, _, hX, hM, rfl, iF1, iE⟩
end
theorem st_vows (G : xG) (tx : Nat) (wx : Nat → Nat) (tm : Nat) (wm : Nat → Nat) (a0 : Int32) : StpI G tx wx tm wm yX7_vows (Cond.code yX7_vows cX7_vows 3 (some .int)) yX8_vows (Cond.code yX8_vows cX8_vows 6 (some .int)) [.int a0] := by
  intro c ws hc h
  refine h.on (fun x_hasI x_imgs x_vow x_day x_worth x_z x_kinds_m x_kinds_f x_ms_m x_ms_f x_said_m x_said_f x_signs_m x_signs_f x_tape_m x_tape_f x_avo_m x_avo_f x_tal_m x_tal_f x_wai_m x_wai_f x_kp_vow x_kp_day x_kp_worth x_kp_z x_kp_kinds_m x_kp_kinds_f x_kp_ms_m x_kp_ms_f x_kp_said_m x_kp_said_f x_kp_signs_m x_kp_signs_f x_kp_tape_m x_kp_tape_f x_kp_avo_m x_kp_avo_f x_kp_tal_m x_kp_tal_f x_kp_wai_m x_kp_wai_f x_fitting x_spread_f x_breakers_f x_fit_f x_counted_f x_kk x_rat x_flt x_codes_m x_codes_f x_stack_m x_stack_f x_parted x_vkk x_vkd x_vmm x_trace_m x_trace_f x_er_f x_bits0 x_num0_m x_num0_f x_bits1 x_num1_m x_num1_f x_bits2 x_num2_m x_num2_f x_bits3 x_num3_m x_num3_f m_images m_mfit m_known m_laid m_hre m_opnd m_bad m_usg m_trcd m_isP m_row_f m_kpt_f m_errs_f m_bitsOf_f m_sizeOf_f m_cels_f m_broken_f m_isFit_f m_breaks_f m_act_f m_wth_f m_facts_f m_pile_f m_trc_f hW hI => ?_)
  subst hW
  obtain ⟨iS, iV, iF, iR, iE, iH0, iH1, iH2, iH3, iK⟩ := hI
  have jK : ∃ k : Nat, k ≤ c + 1 ∧ x_imgs = nI k ∧ m_images = nI k ∧ (x_hasI = if k = 0 then nI 0 else nI 1) ∧ (k ≠ 0 → IvS x_kp_vow x_kp_day x_kp_worth x_kp_z x_kp_kinds_m x_kp_kinds_f x_kp_ms_m x_kp_ms_f x_kp_said_m x_kp_said_f x_kp_signs_m x_kp_signs_f x_kp_tape_m x_kp_tape_f x_kp_avo_m x_kp_avo_f x_kp_tal_m x_kp_tal_f x_kp_wai_m x_kp_wai_f m_kpt_f) := by
    obtain ⟨k, hk, q⟩ := iK
    exact ⟨k, by omega, q⟩
  obtain ⟨u, w, e1, e2, e3, jF, jE⟩ := k_vows iS iV iF iE a0
  exact s_vows G tx wx tm wm x_hasI x_imgs x_vow x_day x_worth x_z x_kinds_m x_kinds_f x_ms_m x_ms_f x_said_m x_said_f x_signs_m x_signs_f x_tape_m x_tape_f x_avo_m x_avo_f x_tal_m x_tal_f x_wai_m x_wai_f x_kp_vow x_kp_day x_kp_worth x_kp_z x_kp_kinds_m x_kp_kinds_f x_kp_ms_m x_kp_ms_f x_kp_said_m x_kp_said_f x_kp_signs_m x_kp_signs_f x_kp_tape_m x_kp_tape_f x_kp_avo_m x_kp_avo_f x_kp_tal_m x_kp_tal_f x_kp_wai_m x_kp_wai_f x_fitting x_spread_f x_breakers_f x_fit_f x_counted_f x_kk x_rat x_flt x_codes_m x_codes_f x_stack_m x_stack_f x_parted x_vkk x_vkd x_vmm x_trace_m x_trace_f x_er_f x_bits0 x_num0_m x_num0_f x_bits1 x_num1_m x_num1_f x_bits2 x_num2_m x_num2_f x_bits3 x_num3_m x_num3_f m_images m_mfit m_known m_laid m_hre m_opnd m_bad m_usg m_trcd m_isP m_row_f m_kpt_f m_errs_f m_bitsOf_f m_sizeOf_f m_cels_f m_broken_f m_isFit_f m_breaks_f m_act_f m_wth_f m_facts_f m_pile_f m_trc_f a0 u w e1 e2 e3 ⟨iS, iV, jF, iR, jE, iH0, iH1, iH2, iH3, jK⟩
