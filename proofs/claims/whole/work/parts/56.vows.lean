/-! PURE: vows, sayings, signs -/
def brk (v s : Nat) : Bool := (List.range 6).all fun k => v / 3 ^ k % 3 == 2 || v / 3 ^ k % 3 == s / 2 ^ k % 2
def spN (s : Nat) : Nat := ((List.range 6).map fun k => s / 2 ^ k % 2 * 3 ^ k).sum
def vo (s e : Nat) : Nat := 2 * spN e + spN (s &&& (63 ^^^ e))
theorem brk_vo : ∀ s, s < 64 → (List.range 729).filter (fun v => brk v s) = (List.range 64).map (vo s) := by decide +kernel
theorem vo_lt : ∀ s, s < 64 → ∀ e, e < 64 → vo s e < 729 := by decide +kernel
theorem mix_e : ∀ s, s < 64 → ∀ e, e < 64 → ((nI s &&& (nI e ^^^ (-(nI 1)))) &&& nI 63) = nI (s &&& (63 ^^^ e)) := by decide +kernel
theorem mix_lt : ∀ s, s < 64 → ∀ e, e < 64 → s &&& (63 ^^^ e) < 64 := by decide +kernel
theorem and63 : ∀ e, e < 64 → nI e &&& nI 63 = nI e := by decide +kernel
theorem bI_eq (b : Bool) : (if b then nI 1 else nI 0) = nI 0 ↔ b = false := by cases b <;> decide
theorem bI_ne (b : Bool) : (if b then nI 1 else nI 0) = nI 1 ↔ b = true := by cases b <;> decide
theorem nar1 : vp_nar .boolean (nI 1) = nI 1 := by decide +kernel
theorem nar0 : vp_nar .boolean (nI 0) = nI 0 := by decide +kernel
/-! bits of longs -/
theorem bit_or1 {x : Int64} {s b : Nat} (hs : s < 64) : (x ||| ((1 : Int64) <<< ((nI s).toInt64 &&& 63))).toBitVec.getLsbD b = (x.toBitVec.getLsbD b || decide (b = s)) := by
  have hm : ((1 : Int64) <<< ((nI s).toInt64 &&& 63)).toBitVec = BitVec.twoPow 64 s := (by decide +kernel : ∀ s, s < 64 → ((1 : Int64) <<< ((nI s).toInt64 &&& 63)).toBitVec = BitVec.twoPow 64 s) s hs
  rw [Int64.toBitVec_or, BitVec.getLsbD_or, hm, BitVec.getLsbD_twoPow]
  simp [hs, eq_comm]
theorem sh_n : ∀ s, s < 64 → ((nI s).toInt64.toUInt64 &&& Int64.toUInt64 63).toNat = s := by decide +kernel
theorem bit_sh {w : Int64} {s : UInt64} {j : Nat} (hj : j < 64) (hs : s.toNat = j) : (w.toUInt64 >>> s).toInt64.toBitVec = w.toBitVec >>> j := by
  apply BitVec.eq_of_toNat_eq
  show (w.toUInt64 >>> s).toNat = _
  rw [UInt64.toNat_shiftRight, hs, Nat.mod_eq_of_lt hj, BitVec.toNat_ushiftRight]
  rfl
theorem bit_t0 {w : Int64} {j : Nat} (hj : j < 64) : (lg_cmp (((w.toUInt64 >>> ((nI j).toInt64.toUInt64 &&& Int64.toUInt64 63)).toInt64) &&& (1 : Int64)) (0 : Int64) = nI 0) ↔ w.toBitVec.getLsbD j = false := by
  refine (lg_cmp_eq _ _).trans ?_
  rw [← Int64.toBitVec_inj, Int64.toBitVec_and, bit_sh hj (sh_n j hj)]
  show w.toBitVec >>> j &&& 1#64 = 0#64 ↔ _
  constructor
  · intro h
    have t := congrArg (fun x => x.getLsbD 0) h
    simpa using t
  · intro h
    apply BitVec.eq_of_getLsbD_eq
    intro i hi
    cases i with
    | zero => simp [h]
    | succ i => simp
theorem bit_t1 {w : Int64} {j : Nat} (hj : j < 64) : (lg_cmp (((w.toUInt64 >>> ((nI j).toInt64.toUInt64 &&& Int64.toUInt64 63)).toInt64) &&& (1 : Int64)) (1 : Int64) = nI 0) ↔ w.toBitVec.getLsbD j = true := by
  refine (lg_cmp_eq _ _).trans ?_
  rw [← Int64.toBitVec_inj, Int64.toBitVec_and, bit_sh hj (sh_n j hj)]
  show w.toBitVec >>> j &&& 1#64 = 1#64 ↔ _
  constructor
  · intro h
    have t := congrArg (fun x => x.getLsbD 0) h
    simpa using t
  · intro h
    apply BitVec.eq_of_getLsbD_eq
    intro i hi
    cases i with
    | zero => simp [h]
    | succ i => simp
theorem i64_sub (a x : Int64) : a &&& x = x ↔ ∀ b, b < 64 → x.toBitVec.getLsbD b = true → a.toBitVec.getLsbD b = true := by
  rw [← Int64.toBitVec_inj, Int64.toBitVec_and]
  constructor
  · intro h b hb hx
    have t := congrArg (fun z => z.getLsbD b) h
    simp only [BitVec.getLsbD_and, hx, Bool.and_true] at t
    exact t
  · intro h
    apply BitVec.eq_of_getLsbD_eq
    intro i hi
    rw [BitVec.getLsbD_and]
    cases hx : x.toBitVec.getLsbD i with
    | false => simp
    | true => simp [h i hi hx]
theorem i64_dis (a x : Int64) : a &&& x = 0 ↔ ∀ b, b < 64 → x.toBitVec.getLsbD b = true → a.toBitVec.getLsbD b = false := by
  rw [← Int64.toBitVec_inj, Int64.toBitVec_and]
  show a.toBitVec &&& x.toBitVec = 0#64 ↔ _
  constructor
  · intro h b hb hx
    have t := congrArg (fun z => z.getLsbD b) h
    simp only [BitVec.getLsbD_and, hx, Bool.and_true, BitVec.getLsbD_zero] at t
    exact t
  · intro h
    apply BitVec.eq_of_getLsbD_eq
    intro i hi
    rw [BitVec.getLsbD_and, BitVec.getLsbD_zero]
    cases hx : x.toBitVec.getLsbD i with
    | false => simp
    | true => simp [h i hi hx]
/-! the class: vowOf, countBroken -/
def SpV (spread : Nat → Int32) : Prop := ∀ s, s < 64 → spread s = nI (spN s)
def BrV (br : Nat → Int64) : Prop := ∀ v, v < 729 → ∀ s, s < 64 → (br v).toBitVec.getLsbD s = brk v s
theorem x_vowOf {spread : Nat → Int32} (hsp : SpV spread) {s e : Nat} (hs : s < 64) (he : e < 64) : F_X5_vowOf spread (nI s) (nI e) = some (nI (vo s e)) := by
  have h1 := mix_lt s hs e he
  unfold F_X5_vowOf
  simp only [l0, l1, l2, l3, l4, l5, l6, l7, l8, l9, l10, l11, l12, l13, l14, l15, l16, l17, l18, l19, l20, l21, l22, l23, l24, l25, l26, l27, l28, l29, l30, l32, l33, l37, l38, l40, l41, l42, l43, l45, l47, l48, l57, l58, l60, l61, l62, l63, l64, l69, l70, l74, l88, l91, l96, l97, l98, l99, l100, l102, l115, l116, l121, l124, l134, l158, l279, l255, l400, l728, l729, l9999, l99999, l12345, l1103515245, l1000000000, l1000000001, l1000000002, l1000000003, l1000000004, l1000000005, l1000000006, mix_e s hs e he, and63 e he]
  simp (disch := omega) only [l0, l1, l2, l3, l4, l5, l6, l7, l8, l9, l10, l11, l12, l13, l14, l15, l16, l17, l18, l19, l20, l21, l22, l23, l24, l25, l26, l27, l28, l29, l30, l32, l33, l37, l38, l40, l41, l42, l43, l45, l47, l48, l57, l58, l60, l61, l62, l63, l64, l69, l70, l74, l88, l91, l96, l97, l98, l99, l100, l102, l115, l116, l121, l124, l134, l158, l279, l255, l400, l728, l729, l9999, l99999, l12345, l1103515245, l1000000000, l1000000001, l1000000002, l1000000003, l1000000004, l1000000005, l1000000006, pk_us, nI_add, pk_mul, pk_sub, pk_div, nI_clamp, nI_ltI, nI_leI, nI_eq, bd_some, Nat.not_lt_zero, false_or, or_false, true_or, or_true, if_pos, if_neg, ite_true, ite_false, if_true, if_false, Nat.add_zero, hsp e he, hsp _ h1]
  rfl
theorem x_countBroken {spread fit : Nat → Int32} {F : Nat → Bool} (hsp : SpV spread) (hf : ∀ v, v < 729 → fit v = if F v then nI 1 else nI 0) {s : Nat} (hs : s < 64) : F_X5_countBroken spread fit (nI s) = some (nI ((List.range 64).countP fun e => F (vo s e))) := by
  unfold F_X5_countBroken
  refine lp_det (body := B_X5_countBroken_4 spread fit (nI s)) (fun j => (nI ((List.range j).countP fun e => F (vo s e)), nI j)) _ 64 (by omega) ?_ ?_
  · intro j hj k
    have hv := vo_lt s hs j hj
    have hF := hf _ hv
    have hc := cP_le (fun e => F (vo s e)) j
    unfold B_X5_countBroken_4
    simp (disch := omega) only [l0, l1, l2, l3, l4, l5, l6, l7, l8, l9, l10, l11, l12, l13, l14, l15, l16, l17, l18, l19, l20, l21, l22, l23, l24, l25, l26, l27, l28, l29, l30, l32, l33, l37, l38, l40, l41, l42, l43, l45, l47, l48, l57, l58, l60, l61, l62, l63, l64, l69, l70, l74, l88, l91, l96, l97, l98, l99, l100, l102, l115, l116, l121, l124, l134, l158, l279, l255, l400, l728, l729, l9999, l99999, l12345, l1103515245, l1000000000, l1000000001, l1000000002, l1000000003, l1000000004, l1000000005, l1000000006, pk_us, nI_add, pk_mul, pk_sub, pk_div, nI_clamp, nI_ltI, nI_leI, nI_eq, bd_some, Nat.not_lt_zero, false_or, or_false, true_or, or_true, if_pos, if_neg, ite_true, ite_false, if_true, if_false, Nat.add_zero, x_vowOf hsp hs hj, hF, cP_succ]
    cases hb : F (vo s j) <;> simp (disch := omega) [nI_eq, nI_add, l0, l1]
  · intro k
    unfold B_X5_countBroken_4
    simp (disch := omega) only [l0, l1, l2, l3, l4, l5, l6, l7, l8, l9, l10, l11, l12, l13, l14, l15, l16, l17, l18, l19, l20, l21, l22, l23, l24, l25, l26, l27, l28, l29, l30, l32, l33, l37, l38, l40, l41, l42, l43, l45, l47, l48, l57, l58, l60, l61, l62, l63, l64, l69, l70, l74, l88, l91, l96, l97, l98, l99, l100, l102, l115, l116, l121, l124, l134, l158, l279, l255, l400, l728, l729, l9999, l99999, l12345, l1103515245, l1000000000, l1000000001, l1000000002, l1000000003, l1000000004, l1000000005, l1000000006, pk_us, nI_add, pk_mul, pk_sub, pk_div, nI_clamp, nI_ltI, nI_leI, nI_eq, bd_some, Nat.not_lt_zero, false_or, or_false, true_or, or_true, if_pos, if_neg, ite_true, ite_false, if_true, if_false, Nat.add_zero]
/-! signs, and the vows that fit -/
def SgV (row : Nat → Int32) : Prop := ∃ n : Nat, n ≤ 24 ∧ row 3 = nI n ∧ ∀ i, i < n → ∃ s f : Nat, s < 64 ∧ f < 2 ∧ row (26 + 2 * i) = nI s ∧ row (26 + 2 * i + 1) = nI f
def fitP (row : Nat → Int32) (v : Nat) : Bool := (List.range (row 3).toNatClampNeg).all fun i => brk v (row (26 + 2 * i)).toNatClampNeg == decide (row (26 + 2 * i + 1) = nI 1)
def cntF (row : Nat → Int32) : Nat := (List.range 729).countP (fitP row)
def cntB (row : Nat → Int32) (s : Nat) : Nat := (List.range 729).countP fun v => fitP row v && brk v s
theorem cntF_le (row : Nat → Int32) : cntF row ≤ 729 := cP_le _ _
theorem cntB_le (row : Nat → Int32) (s : Nat) : cntB row s ≤ 729 := cP_le _ _
theorem cntB_cntF (row : Nat → Int32) (s : Nat) : cntB row s ≤ cntF row := by
  unfold cntB cntF
  refine List.countP_mono_left (fun v _ h => ?_)
  rw [Bool.and_eq_true] at h
  exact h.1
theorem cntB_64 (row : Nat → Int32) {s : Nat} (hs : s < 64) : (List.range 64).countP (fun e => fitP row (vo s e)) = cntB row s := by
  unfold cntB
  rw [← List.countP_filter, brk_vo s hs, List.countP_map]
  rfl
/-! refit -/
def feB (row : Nat → Int32) (n b : Nat) : Bool := (List.range n).any fun i => decide (row (26 + 2 * i + 1) = nI 1) && decide (row (26 + 2 * i) = nI b)
def unB (row : Nat → Int32) (n b : Nat) : Bool := (List.range n).any fun i => !decide (row (26 + 2 * i + 1) = nI 1) && decide (row (26 + 2 * i) = nI b)
theorem fit_iff {row : Nat → Int32} {n : Nat} (hn : n ≤ 24) (h3 : row 3 = nI n) (hg : ∀ i, i < n → ∃ s f : Nat, s < 64 ∧ f < 2 ∧ row (26 + 2 * i) = nI s ∧ row (26 + 2 * i + 1) = nI f) (v : Nat) : fitP row v = true ↔ (∀ b, b < 64 → feB row n b = true → brk v b = true) ∧ (∀ b, b < 64 → unB row n b = true → brk v b = false) := by
  unfold fitP
  rw [h3, nI_clamp (by omega), List.all_eq_true]
  constructor
  · intro h
    refine ⟨fun b hb hf => ?_, fun b hb hf => ?_⟩
    · unfold feB at hf
      obtain ⟨i, hi, hf⟩ := List.any_eq_true.mp hf
      have hin := List.mem_range.mp hi
      have h1 := h i hi
      obtain ⟨s, f, hs, hf2, e1, e2⟩ := hg i hin
      rw [Bool.and_eq_true, decide_eq_true_eq, decide_eq_true_eq] at hf
      rw [hf.1, hf.2, nI_clamp (by omega)] at h1
      simpa using h1
    · unfold unB at hf
      obtain ⟨i, hi, hf⟩ := List.any_eq_true.mp hf
      have hin := List.mem_range.mp hi
      have h1 := h i hi
      rw [Bool.and_eq_true, decide_eq_true_eq] at hf
      rw [hf.2, nI_clamp (by omega)] at h1
      have h2 : decide (row (26 + 2 * i + 1) = nI 1) = false := by simpa using hf.1
      rw [h2] at h1
      simpa using h1
  · intro h i hi
    have hin := List.mem_range.mp hi
    obtain ⟨s, f, hs, hf2, e1, e2⟩ := hg i hin
    rw [e1, nI_clamp (by omega)]
    by_cases hc : row (26 + 2 * i + 1) = nI 1
    · have h1 := h.1 s hs (by
        unfold feB
        refine List.any_eq_true.mpr ⟨i, hi, ?_⟩
        rw [Bool.and_eq_true, decide_eq_true_eq, decide_eq_true_eq]
        exact ⟨hc, e1⟩)
      simp [hc, h1]
    · have h1 := h.2 s hs (by
        unfold unB
        refine List.any_eq_true.mpr ⟨i, hi, ?_⟩
        rw [Bool.and_eq_true, decide_eq_true_eq]
        exact ⟨by simp [hc], e1⟩)
      simp [hc, h1]
theorem x_refit {br : Nat → Int64} {fit counted gf row : Nat → Int32} {n : Nat} (hV : BrV br) (hn : n ≤ 24) (h3 : row 3 = nI n) (hg : ∀ i, i < n → ∃ s f : Nat, s < 64 ∧ f < 2 ∧ gf i = nI (2 * s + f) ∧ row (26 + 2 * i) = nI s ∧ row (26 + 2 * i + 1) = nI f) : ∃ fit' counted' : Nat → Int32, F_X5_refit 24 br fit counted (nI n) gf = some (nI (cntF row), fit', counted') ∧ (∀ v, v < 729 → fit' v = if fitP row v then nI 1 else nI 0) ∧ ∀ s, s < 64 → counted' s = -(nI 1) := by
  unfold F_X5_refit
  refine lp_go (fun i st => st.2.2 = nI i ∧ (∀ b, b < 64 → st.1.toBitVec.getLsbD b = feB row i b) ∧ ∀ b, b < 64 → st.2.1.toBitVec.getLsbD b = unB row i b) (fun o => ∃ fit' counted' : Nat → Int32, o = some (nI (cntF row), fit', counted') ∧ (∀ v, v < 729 → fit' v = if fitP row v then nI 1 else nI 0) ∧ ∀ s, s < 64 → counted' s = -(nI 1)) n (by omega) ?_ ?_ ?_
  · refine ⟨rfl, fun b _ => ?_, fun b _ => ?_⟩
    · show (0#64).getLsbD b = _
      rw [BitVec.getLsbD_zero]; rfl
    · show (0#64).getLsbD b = _
      rw [BitVec.getLsbD_zero]; rfl
  · rintro i ⟨x, y, z⟩ hi ⟨hz, hx, hy⟩
    simp only at hz hx hy
    subst hz
    obtain ⟨s, f, hs, hf, e1, e2, e3⟩ := hg i hi
    have hff : f = 0 ∨ f = 1 := by omega
    rcases hff with rfl | rfl
    · refine Or.inr ⟨(x, y ||| ((1 : Int64) <<< ((nI s).toInt64 &&& 63)), nI (i + 1)), ⟨rfl, fun b hb => ?_, fun b hb => ?_⟩, fun k => ?_⟩
      · show x.toBitVec.getLsbD b = _
        rw [hx b hb]
        unfold feB
        rw [any_succ, e3]
        simp [show ¬ nI 0 = nI 1 from by decide]
      · show (y ||| _).toBitVec.getLsbD b = _
        rw [bit_or1 hs, hy b hb]
        unfold unB
        rw [any_succ, e2, e3, show decide (nI s = nI b) = decide (b = s) from by rw [decide_eq_decide]; rw [nI_eq (by omega) (by omega)]; exact eq_comm]
        simp [show ¬ nI 0 = nI 1 from by decide]
      · unfold B_X5_refit_8
        simp (disch := omega) only [F_X1_many, l0, l1, l2, l3, l4, l5, l6, l7, l8, l9, l10, l11, l12, l13, l14, l15, l16, l17, l18, l19, l20, l21, l22, l23, l24, l25, l26, l27, l28, l29, l30, l32, l33, l37, l38, l40, l41, l42, l43, l45, l47, l48, l57, l58, l60, l61, l62, l63, l64, l69, l70, l74, l88, l91, l96, l97, l98, l99, l100, l102, l115, l116, l121, l124, l134, l158, l279, l255, l400, l728, l729, l9999, l99999, l12345, l1103515245, l1000000000, l1000000001, l1000000002, l1000000003, l1000000004, l1000000005, l1000000006, pk_us, nI_add, pk_mul, pk_sub, pk_div, nI_clamp, nI_ltI, nI_leI, nI_eq, bd_some, Nat.not_lt_zero, false_or, or_false, true_or, or_true, if_pos, if_neg, ite_true, ite_false, if_true, if_false, Nat.add_zero, x_get gf hi hn, e1]
        rw [show 2 * s / 2 = s from by omega]
    · refine Or.inr ⟨(x ||| ((1 : Int64) <<< ((nI s).toInt64 &&& 63)), y, nI (i + 1)), ⟨rfl, fun b hb => ?_, fun b hb => ?_⟩, fun k => ?_⟩
      · show (x ||| _).toBitVec.getLsbD b = _
        rw [bit_or1 hs, hx b hb]
        unfold feB
        rw [any_succ, e2, e3, show decide (nI s = nI b) = decide (b = s) from by rw [decide_eq_decide]; rw [nI_eq (by omega) (by omega)]; exact eq_comm]
        simp
      · show y.toBitVec.getLsbD b = _
        rw [hy b hb]
        unfold unB
        rw [any_succ, e3]
        simp
      · unfold B_X5_refit_8
        simp (disch := omega) only [F_X1_many, l0, l1, l2, l3, l4, l5, l6, l7, l8, l9, l10, l11, l12, l13, l14, l15, l16, l17, l18, l19, l20, l21, l22, l23, l24, l25, l26, l27, l28, l29, l30, l32, l33, l37, l38, l40, l41, l42, l43, l45, l47, l48, l57, l58, l60, l61, l62, l63, l64, l69, l70, l74, l88, l91, l96, l97, l98, l99, l100, l102, l115, l116, l121, l124, l134, l158, l279, l255, l400, l728, l729, l9999, l99999, l12345, l1103515245, l1000000000, l1000000001, l1000000002, l1000000003, l1000000004, l1000000005, l1000000006, pk_us, nI_add, pk_mul, pk_sub, pk_div, nI_clamp, nI_ltI, nI_leI, nI_eq, bd_some, Nat.not_lt_zero, false_or, or_false, true_or, or_true, if_pos, if_neg, ite_true, ite_false, if_true, if_false, Nat.add_zero, x_get gf hi hn, e1]
        rw [show (2 * s + 1) / 2 = s from by omega]
  · rintro ⟨x, y, z⟩ ⟨hz, hx, hy⟩ k
    simp only at hz hx hy
    subst hz
    unfold B_X5_refit_8
    simp (disch := omega) only [F_X1_many, l0, l1, l2, l3, l4, l5, l6, l7, l8, l9, l10, l11, l12, l13, l14, l15, l16, l17, l18, l19, l20, l21, l22, l23, l24, l25, l26, l27, l28, l29, l30, l32, l33, l37, l38, l40, l41, l42, l43, l45, l47, l48, l57, l58, l60, l61, l62, l63, l64, l69, l70, l74, l88, l91, l96, l97, l98, l99, l100, l102, l115, l116, l121, l124, l134, l158, l279, l255, l400, l728, l729, l9999, l99999, l12345, l1103515245, l1000000000, l1000000001, l1000000002, l1000000003, l1000000004, l1000000005, l1000000006, pk_us, nI_add, pk_mul, pk_sub, pk_div, nI_clamp, nI_ltI, nI_leI, nI_eq, bd_some, Nat.not_lt_zero, false_or, or_false, true_or, or_true, if_pos, if_neg, ite_true, ite_false, if_true, if_false, Nat.add_zero]
    refine lp_go (fun j (st : Int32 × (Nat → Int32)) => st.1 = nI j ∧ ∀ s, s < j → st.2 s = -(nI 1)) (fun o => ∃ fit' counted' : Nat → Int32, o = some (nI (cntF row), fit', counted') ∧ (∀ v, v < 729 → fit' v = if fitP row v then nI 1 else nI 0) ∧ ∀ s, s < 64 → counted' s = -(nI 1)) 64 (by omega) ?_ ?_ ?_
    · exact ⟨rfl, fun s hs => absurd hs (Nat.not_lt_zero s)⟩
    · rintro j ⟨w, cf⟩ hj ⟨hw, hc⟩
      simp only at hw hc
      subst hw
      refine Or.inr ⟨(nI (j + 1), upd cf j (-(nI 1))), ⟨rfl, fun s hs => ?_⟩, fun k => ?_⟩
      · show upd cf j (-(nI 1)) s = _
        rcases Nat.lt_or_ge s j with h | h
        · rw [pk_un (by omega), hc s h]
        · rw [show s = j from by omega, pk_us]
      · unfold B_X5_refit_65
        simp (disch := omega) only [l0, l1, l2, l3, l4, l5, l6, l7, l8, l9, l10, l11, l12, l13, l14, l15, l16, l17, l18, l19, l20, l21, l22, l23, l24, l25, l26, l27, l28, l29, l30, l32, l33, l37, l38, l40, l41, l42, l43, l45, l47, l48, l57, l58, l60, l61, l62, l63, l64, l69, l70, l74, l88, l91, l96, l97, l98, l99, l100, l102, l115, l116, l121, l124, l134, l158, l279, l255, l400, l728, l729, l9999, l99999, l12345, l1103515245, l1000000000, l1000000001, l1000000002, l1000000003, l1000000004, l1000000005, l1000000006, pk_us, nI_add, pk_mul, pk_sub, pk_div, nI_clamp, nI_ltI, nI_leI, nI_eq, bd_some, Nat.not_lt_zero, false_or, or_false, true_or, or_true, if_pos, if_neg, ite_true, ite_false, if_true, if_false, Nat.add_zero]
    · rintro ⟨w, cf⟩ ⟨hw, hc⟩ k
      simp only at hw hc
      subst hw
      unfold B_X5_refit_65
      simp (disch := omega) only [l0, l1, l2, l3, l4, l5, l6, l7, l8, l9, l10, l11, l12, l13, l14, l15, l16, l17, l18, l19, l20, l21, l22, l23, l24, l25, l26, l27, l28, l29, l30, l32, l33, l37, l38, l40, l41, l42, l43, l45, l47, l48, l57, l58, l60, l61, l62, l63, l64, l69, l70, l74, l88, l91, l96, l97, l98, l99, l100, l102, l115, l116, l121, l124, l134, l158, l279, l255, l400, l728, l729, l9999, l99999, l12345, l1103515245, l1000000000, l1000000001, l1000000002, l1000000003, l1000000004, l1000000005, l1000000006, pk_us, nI_add, pk_mul, pk_sub, pk_div, nI_clamp, nI_ltI, nI_leI, nI_eq, bd_some, Nat.not_lt_zero, false_or, or_false, true_or, or_true, if_pos, if_neg, ite_true, ite_false, if_true, if_false, Nat.add_zero]
      have hfi := fit_iff hn h3 (fun i hi => by obtain ⟨s, f, a1, a2, a3, a4, a5⟩ := hg i hi; exact ⟨s, f, a1, a2, a4, a5⟩)
      refine lp_go (fun j (st : Int32 × Int32 × (Nat → Int32)) => st.1 = nI j ∧ st.2.1 = nI ((List.range j).countP (fitP row)) ∧ ∀ v, v < j → st.2.2 v = if fitP row v then nI 1 else nI 0) (fun o => ∃ fit' counted' : Nat → Int32, o = some (nI (cntF row), fit', counted') ∧ (∀ v, v < 729 → fit' v = if fitP row v then nI 1 else nI 0) ∧ ∀ s, s < 64 → counted' s = -(nI 1)) 729 (by omega) ?_ ?_ ?_
      · exact ⟨rfl, rfl, fun s hs => absurd hs (Nat.not_lt_zero s)⟩
      · rintro j ⟨w, c, ft⟩ hj ⟨hw, hcc, hft⟩
        simp only at hw hcc hft
        subst hw
        subst hcc
        refine Or.inr ⟨(nI (j + 1), nI ((List.range (j + 1)).countP (fitP row)), upd ft j (if fitP row j then nI 1 else nI 0)), ⟨rfl, rfl, fun v hv => ?_⟩, fun k => ?_⟩
        · show upd ft j _ v = _
          rcases Nat.lt_or_ge v j with h | h
          · rw [pk_un (by omega), hft v h]
          · rw [show v = j from by omega, pk_us]
        · have q1 : (lg_cmp ((br j) &&& x) x = nI 0) ↔ ∀ b, b < 64 → feB row n b = true → brk j b = true := by
            refine (lg_cmp_eq _ _).trans ((i64_sub _ _).trans ?_)
            constructor
            · intro h b hb hf
              rw [← hV j hj b hb]
              exact h b hb (by rw [hx b hb]; exact hf)
            · intro h b hb hf
              rw [hV j hj b hb]
              exact h b hb (by rw [← hx b hb]; exact hf)
          have q2 : (lg_cmp ((br j) &&& y) (0 : Int64) = nI 0) ↔ ∀ b, b < 64 → unB row n b = true → brk j b = false := by
            refine (lg_cmp_eq _ _).trans ((i64_dis _ _).trans ?_)
            constructor
            · intro h b hb hf
              rw [← hV j hj b hb]
              exact h b hb (by rw [hy b hb]; exact hf)
            · intro h b hb hf
              rw [hV j hj b hb]
              exact h b hb (by rw [← hy b hb]; exact hf)
          have hle := cP_le (fitP row) j
          unfold B_X5_refit_94
          simp (disch := omega) only [l0, l1, l2, l3, l4, l5, l6, l7, l8, l9, l10, l11, l12, l13, l14, l15, l16, l17, l18, l19, l20, l21, l22, l23, l24, l25, l26, l27, l28, l29, l30, l32, l33, l37, l38, l40, l41, l42, l43, l45, l47, l48, l57, l58, l60, l61, l62, l63, l64, l69, l70, l74, l88, l91, l96, l97, l98, l99, l100, l102, l115, l116, l121, l124, l134, l158, l279, l255, l400, l728, l729, l9999, l99999, l12345, l1103515245, l1000000000, l1000000001, l1000000002, l1000000003, l1000000004, l1000000005, l1000000006, nI_clamp, nI_ltI, nI_leI, Nat.not_lt_zero, false_or, if_neg, nar1, nar0, pk_us, cP_succ]
          by_cases h1 : lg_cmp ((br j) &&& x) x = nI 0
          · rw [if_pos h1]
            by_cases h2 : lg_cmp ((br j) &&& y) (0 : Int64) = nI 0
            · have hb : fitP row j = true := (hfi j).mpr ⟨q1.mp h1, q2.mp h2⟩
              rw [if_pos h2, if_neg (by decide), hb, nI_add, nI_add]
              rfl
            · have hb : fitP row j = false := by
                cases hb : fitP row j with
                | false => rfl
                | true => exact absurd (q2.mpr ((hfi j).mp hb).2) h2
              rw [if_neg h2, if_pos trivial, hb, nI_add, nI_add]
              rfl
          · have hb : fitP row j = false := by
              cases hb : fitP row j with
              | false => rfl
              | true => exact absurd (q1.mpr ((hfi j).mp hb).1) h1
            rw [if_neg h1, if_pos trivial, hb, nI_add, nI_add]
            rfl
      · rintro ⟨w, c, ft⟩ ⟨hw, hcc, hft⟩ k
        simp only at hw hcc hft
        subst hw
        subst hcc
        unfold B_X5_refit_94
        simp (disch := omega) only [l0, l1, l2, l3, l4, l5, l6, l7, l8, l9, l10, l11, l12, l13, l14, l15, l16, l17, l18, l19, l20, l21, l22, l23, l24, l25, l26, l27, l28, l29, l30, l32, l33, l37, l38, l40, l41, l42, l43, l45, l47, l48, l57, l58, l60, l61, l62, l63, l64, l69, l70, l74, l88, l91, l96, l97, l98, l99, l100, l102, l115, l116, l121, l124, l134, l158, l279, l255, l400, l728, l729, l9999, l99999, l12345, l1103515245, l1000000000, l1000000001, l1000000002, l1000000003, l1000000004, l1000000005, l1000000006, pk_us, nI_add, pk_mul, pk_sub, pk_div, nI_clamp, nI_ltI, nI_leI, nI_eq, bd_some, Nat.not_lt_zero, false_or, or_false, true_or, or_true, if_pos, if_neg, ite_true, ite_false, if_true, if_false, Nat.add_zero]
        exact ⟨ft, cf, rfl, hft, hc⟩
/-! the model: doesBreak, doesFit, findVows -/
theorem m_doesBreak {bk : Nat → Int64} (hB : BrV bk) {v s : Nat} (hv : v < 729) (hs : s < 64) : F_X8_doesBreak bk (nI v) (nI s) = some (if brk v s then nI 1 else nI 0) := by
  unfold F_X8_doesBreak
  simp (disch := omega) only [l0, l1, l2, l3, l4, l5, l6, l7, l8, l9, l10, l11, l12, l13, l14, l15, l16, l17, l18, l19, l20, l21, l22, l23, l24, l25, l26, l27, l28, l29, l30, l32, l33, l37, l38, l40, l41, l42, l43, l45, l47, l48, l57, l58, l60, l61, l62, l63, l64, l69, l70, l74, l88, l91, l96, l97, l98, l99, l100, l102, l115, l116, l121, l124, l134, l158, l279, l255, l400, l728, l729, l9999, l99999, l12345, l1103515245, l1000000000, l1000000001, l1000000002, l1000000003, l1000000004, l1000000005, l1000000006, nI_clamp, nI_ltI, nI_leI, Nat.not_lt_zero, false_or, if_neg]
  have h := hB v hv s hs
  by_cases h1 : lg_cmp (((bk v).toUInt64 >>> ((nI s).toInt64.toUInt64 &&& Int64.toUInt64 63)).toInt64 &&& (1 : Int64)) (1 : Int64) = nI 0
  · rw [if_pos h1, ← h, (bit_t1 hs).mp h1]
    rfl
  · rw [if_neg h1]
    have h2 : (bk v).toBitVec.getLsbD s = false := by
      cases hb : (bk v).toBitVec.getLsbD s with
      | false => rfl
      | true => exact absurd ((bit_t1 hs).mpr hb) h1
    rw [← h, h2]
    rfl
theorem x_breaks {br : Nat → Int64} (hB : BrV br) {v s : Nat} (hv : v < 729) (hs : s < 64) : F_X5_breaks br (nI s) (nI v) = some (if brk v s then nI 1 else nI 0) := by
  unfold F_X5_breaks
  simp (disch := omega) only [l0, l1, l2, l3, l4, l5, l6, l7, l8, l9, l10, l11, l12, l13, l14, l15, l16, l17, l18, l19, l20, l21, l22, l23, l24, l25, l26, l27, l28, l29, l30, l32, l33, l37, l38, l40, l41, l42, l43, l45, l47, l48, l57, l58, l60, l61, l62, l63, l64, l69, l70, l74, l88, l91, l96, l97, l98, l99, l100, l102, l115, l116, l121, l124, l134, l158, l279, l255, l400, l728, l729, l9999, l99999, l12345, l1103515245, l1000000000, l1000000001, l1000000002, l1000000003, l1000000004, l1000000005, l1000000006, isS_Y hs, w_Y, bd_some, nI_eq, nI_clamp, nI_ltI, nI_leI, Nat.not_lt_zero, false_or, if_neg]
  have h := hB v hv s hs
  by_cases h1 : lg_cmp (((br v).toUInt64 >>> ((nI s).toInt64.toUInt64 &&& Int64.toUInt64 63)).toInt64 &&& (1 : Int64)) (0 : Int64) = nI 0
  · rw [if_pos h1, ← h, (bit_t0 hs).mp h1]
    rfl
  · rw [if_neg h1]
    have h2 : (br v).toBitVec.getLsbD s = true := by
      cases hb : (br v).toBitVec.getLsbD s with
      | true => rfl
      | false => exact absurd ((bit_t0 hs).mpr hb) h1
    rw [← h, h2]
    rfl
theorem m_doesFit {bk : Nat → Int64} {row : Nat → Int32} (hB : BrV bk) (hG : SgV row) {v : Nat} (hv : v < 729) : F_X8_doesFit row bk (nI v) = some (if fitP row v then nI 1 else nI 0) := by
  obtain ⟨n, hn, h3, hg⟩ := hG
  unfold F_X8_doesFit
  have hall : fitP row v = (List.range n).all (fun i => brk v (row (26 + 2 * i)).toNatClampNeg == decide (row (26 + 2 * i + 1) = nI 1)) := by
    unfold fitP
    rw [h3, nI_clamp (by omega)]
  refine lp_go (fun i st => st = nI i ∧ (List.range i).all (fun i => brk v (row (26 + 2 * i)).toNatClampNeg == decide (row (26 + 2 * i + 1) = nI 1)) = true) (fun o => o = some (if fitP row v then nI 1 else nI 0)) n (by omega) ⟨rfl, rfl⟩ ?_ ?_
  · rintro i st hi ⟨rfl, ha⟩
    obtain ⟨s, f, hs, hf, e1, e2⟩ := hg i hi
    have hbody : ∀ k, B_X8_doesFit_2 row bk (nI v) k (nI i) = if brk v s == decide (f = 1) then k (nI (i + 1)) else some (nI 0) := by
      intro k
      unfold B_X8_doesFit_2
      simp (disch := omega) only [l0, l1, l2, l3, l4, l5, l6, l7, l8, l9, l10, l11, l12, l13, l14, l15, l16, l17, l18, l19, l20, l21, l22, l23, l24, l25, l26, l27, l28, l29, l30, l32, l33, l37, l38, l40, l41, l42, l43, l45, l47, l48, l57, l58, l60, l61, l62, l63, l64, l69, l70, l74, l88, l91, l96, l97, l98, l99, l100, l102, l115, l116, l121, l124, l134, l158, l279, l255, l400, l728, l729, l9999, l99999, l12345, l1103515245, l1000000000, l1000000001, l1000000002, l1000000003, l1000000004, l1000000005, l1000000006, pk_us, nI_add, pk_mul, pk_sub, pk_div, nI_clamp, nI_ltI, nI_leI, nI_eq, bd_some, Nat.not_lt_zero, false_or, or_false, true_or, or_true, if_pos, if_neg, ite_true, ite_false, if_true, if_false, Nat.add_zero, h3, e1, e2, m_doesBreak hB hv hs]
      have hff : f = 0 ∨ f = 1 := by omega
      rcases hff with rfl | rfl <;> cases brk v s <;> simp (disch := omega) [nI_eq]
    by_cases hc : (brk v s == decide (f = 1)) = true
    · refine Or.inr ⟨nI (i + 1), ⟨rfl, ?_⟩, fun k => by rw [hbody, if_pos hc]⟩
      rw [all_succ, ha, e1, e2, nI_clamp (by omega), Bool.true_and, show decide (nI f = nI 1) = decide (f = 1) from by rw [decide_eq_decide, nI_eq (by omega) (by omega)]]
      exact hc
    · refine Or.inl (fun k => ?_)
      rw [hbody, if_neg hc]
      have hno : fitP row v = false := by
        rw [hall, List.all_eq_false]
        refine ⟨i, List.mem_range.mpr hi, ?_⟩
        rw [e1, e2, nI_clamp (by omega), show decide (nI f = nI 1) = decide (f = 1) from by rw [decide_eq_decide, nI_eq (by omega) (by omega)]]
        exact hc
      rw [hno]
      rfl
  · rintro st ⟨rfl, ha⟩ k
    unfold B_X8_doesFit_2
    simp (disch := omega) only [l0, l1, l2, l3, l4, l5, l6, l7, l8, l9, l10, l11, l12, l13, l14, l15, l16, l17, l18, l19, l20, l21, l22, l23, l24, l25, l26, l27, l28, l29, l30, l32, l33, l37, l38, l40, l41, l42, l43, l45, l47, l48, l57, l58, l60, l61, l62, l63, l64, l69, l70, l74, l88, l91, l96, l97, l98, l99, l100, l102, l115, l116, l121, l124, l134, l158, l279, l255, l400, l728, l729, l9999, l99999, l12345, l1103515245, l1000000000, l1000000001, l1000000002, l1000000003, l1000000004, l1000000005, l1000000006, pk_us, nI_add, pk_mul, pk_sub, pk_div, nI_clamp, nI_ltI, nI_leI, nI_eq, bd_some, Nat.not_lt_zero, false_or, or_false, true_or, or_true, if_pos, if_neg, ite_true, ite_false, if_true, if_false, Nat.add_zero, h3]
    rw [hall, ha]
    rfl
def KnV (row : Nat → Int32) (mfit known : Int32) (isFit breaks : Nat → Int32) : Prop := known = nI 0 ∨ known = nI 1 ∧ (∀ v, v < 729 → isFit v = if fitP row v then nI 1 else nI 0) ∧ mfit = nI (cntF row) ∧ ∀ s, s < 64 → breaks s = nI (cntB row s)
theorem m_findVows {bk : Nat → Int64} {row isFit breaks : Nat → Int32} {mfit known : Int32} (hB : BrV bk) (hG : SgV row) (hK : KnV row mfit known isFit breaks) : ∃ isFit' breaks' : Nat → Int32, F_X8_findVows mfit known row bk isFit breaks = some (nI (cntF row), nI 1, isFit', breaks') ∧ (∀ v, v < 729 → isFit' v = if fitP row v then nI 1 else nI 0) ∧ ∀ s, s < 64 → breaks' s = nI (cntB row s) := by
  unfold F_X8_findVows
  rcases hK with rfl | ⟨rfl, h1, rfl, h2⟩
  · rw [if_pos (show nI 0 = 0 from rfl)]
    refine lp_go (fun j st => st.1 = nI j ∧ ∀ s, s < j → st.2 s = nI 0) (fun o => ∃ isFit' breaks' : Nat → Int32, o = some (nI (cntF row), nI 1, isFit', breaks') ∧ (∀ v, v < 729 → isFit' v = if fitP row v then nI 1 else nI 0) ∧ ∀ s, s < 64 → breaks' s = nI (cntB row s)) 64 (by omega) ⟨rfl, fun s hs => absurd hs (Nat.not_lt_zero s)⟩ ?_ ?_
    · rintro j ⟨w, cf⟩ hj ⟨hw, hc⟩
      simp only at hw hc
      subst hw
      refine Or.inr ⟨(nI (j + 1), upd cf j (nI 0)), ⟨rfl, fun s hs => ?_⟩, fun k => ?_⟩
      · show upd cf j (nI 0) s = _
        rcases Nat.lt_or_ge s j with h | h
        · rw [pk_un (by omega), hc s h]
        · rw [show s = j from by omega, pk_us]
      · unfold B_X8_findVows_20
        simp (disch := omega) only [l0, l1, l2, l3, l4, l5, l6, l7, l8, l9, l10, l11, l12, l13, l14, l15, l16, l17, l18, l19, l20, l21, l22, l23, l24, l25, l26, l27, l28, l29, l30, l32, l33, l37, l38, l40, l41, l42, l43, l45, l47, l48, l57, l58, l60, l61, l62, l63, l64, l69, l70, l74, l88, l91, l96, l97, l98, l99, l100, l102, l115, l116, l121, l124, l134, l158, l279, l255, l400, l728, l729, l9999, l99999, l12345, l1103515245, l1000000000, l1000000001, l1000000002, l1000000003, l1000000004, l1000000005, l1000000006, pk_us, nI_add, pk_mul, pk_sub, pk_div, nI_clamp, nI_ltI, nI_leI, nI_eq, bd_some, Nat.not_lt_zero, false_or, or_false, true_or, or_true, if_pos, if_neg, ite_true, ite_false, if_true, if_false, Nat.add_zero]
    · rintro ⟨w, cf⟩ ⟨hw, hc⟩ k
      simp only at hw hc
      subst hw
      unfold B_X8_findVows_20
      simp (disch := omega) only [l0, l1, l2, l3, l4, l5, l6, l7, l8, l9, l10, l11, l12, l13, l14, l15, l16, l17, l18, l19, l20, l21, l22, l23, l24, l25, l26, l27, l28, l29, l30, l32, l33, l37, l38, l40, l41, l42, l43, l45, l47, l48, l57, l58, l60, l61, l62, l63, l64, l69, l70, l74, l88, l91, l96, l97, l98, l99, l100, l102, l115, l116, l121, l124, l134, l158, l279, l255, l400, l728, l729, l9999, l99999, l12345, l1103515245, l1000000000, l1000000001, l1000000002, l1000000003, l1000000004, l1000000005, l1000000006, pk_us, nI_add, pk_mul, pk_sub, pk_div, nI_clamp, nI_ltI, nI_leI, nI_eq, bd_some, Nat.not_lt_zero, false_or, or_false, true_or, or_true, if_pos, if_neg, ite_true, ite_false, if_true, if_false, Nat.add_zero]
      refine lp_go (fun j (st : Int32 × Int32 × (Nat → Int32) × (Nat → Int32)) => st.1 = nI j ∧ st.2.1 = nI ((List.range j).countP (fitP row)) ∧ (∀ v, v < j → st.2.2.1 v = if fitP row v then nI 1 else nI 0) ∧ ∀ s, s < 64 → st.2.2.2 s = nI ((List.range j).countP fun v => fitP row v && brk v s)) (fun o => ∃ isFit' breaks' : Nat → Int32, o = some (nI (cntF row), nI 1, isFit', breaks') ∧ (∀ v, v < 729 → isFit' v = if fitP row v then nI 1 else nI 0) ∧ ∀ s, s < 64 → breaks' s = nI (cntB row s)) 729 (by omega) ?_ ?_ ?_
      · exact ⟨rfl, rfl, fun s hs => absurd hs (Nat.not_lt_zero s), hc⟩
      · rintro j ⟨w, c, ft, bf⟩ hj ⟨hw, hcc, hft, hbf⟩
        simp only at hw hcc hft hbf
        subst hw
        subst hcc
        have hle := cP_le (fitP row) j
        have hupd : ∀ x : Int32, ∀ v, v < j + 1 → (x = if fitP row j then nI 1 else nI 0) → upd ft j x v = if fitP row v then nI 1 else nI 0 := by
          intro x v hv hx
          rcases Nat.lt_or_ge v j with h | h
          · rw [pk_un (by omega), hft v h]
          · rw [show v = j from by omega, pk_us, hx]
        cases hb : fitP row j with
        | false =>
          refine Or.inr ⟨(nI (j + 1), nI ((List.range (j + 1)).countP (fitP row)), upd ft j (nI 0), bf), ⟨rfl, rfl, fun v hv => hupd _ v hv (by rw [hb]; rfl), fun s hs => ?_⟩, fun k => ?_⟩
          · show bf s = _
            rw [hbf s hs, cP_succ, hb]
            rfl
          · unfold B_X8_findVows_41
            simp (disch := omega) only [l0, l1, l2, l3, l4, l5, l6, l7, l8, l9, l10, l11, l12, l13, l14, l15, l16, l17, l18, l19, l20, l21, l22, l23, l24, l25, l26, l27, l28, l29, l30, l32, l33, l37, l38, l40, l41, l42, l43, l45, l47, l48, l57, l58, l60, l61, l62, l63, l64, l69, l70, l74, l88, l91, l96, l97, l98, l99, l100, l102, l115, l116, l121, l124, l134, l158, l279, l255, l400, l728, l729, l9999, l99999, l12345, l1103515245, l1000000000, l1000000001, l1000000002, l1000000003, l1000000004, l1000000005, l1000000006, pk_us, nI_add, pk_mul, pk_sub, pk_div, nI_clamp, nI_ltI, nI_leI, nI_eq, bd_some, Nat.not_lt_zero, false_or, or_false, true_or, or_true, if_pos, if_neg, ite_true, ite_false, if_true, if_false, Nat.add_zero, m_doesFit hB ⟨_, hG.choose_spec⟩ hj, hb, Bool.false_eq_true, nar0]
            rw [lp_one]
            unfold B_X8_findVows_84
            simp (disch := omega) only [l0, l1, l2, l3, l4, l5, l6, l7, l8, l9, l10, l11, l12, l13, l14, l15, l16, l17, l18, l19, l20, l21, l22, l23, l24, l25, l26, l27, l28, l29, l30, l32, l33, l37, l38, l40, l41, l42, l43, l45, l47, l48, l57, l58, l60, l61, l62, l63, l64, l69, l70, l74, l88, l91, l96, l97, l98, l99, l100, l102, l115, l116, l121, l124, l134, l158, l279, l255, l400, l728, l729, l9999, l99999, l12345, l1103515245, l1000000000, l1000000001, l1000000002, l1000000003, l1000000004, l1000000005, l1000000006, pk_us, nI_add, pk_mul, pk_sub, pk_div, nI_clamp, nI_ltI, nI_leI, nI_eq, bd_some, Nat.not_lt_zero, false_or, or_false, true_or, or_true, if_pos, if_neg, ite_true, ite_false, if_true, if_false, Nat.add_zero, nar0, cP_succ, hb, Bool.false_eq_true]
        | true =>
          refine Or.inr ⟨(nI (j + 1), nI ((List.range (j + 1)).countP (fitP row)), upd ft j (nI 1), fun s => if s < 64 then bf s + (if brk j s then nI 1 else nI 0) else bf s), ⟨rfl, rfl, fun v hv => hupd _ v hv (by rw [hb]; rfl), fun s hs => ?_⟩, fun k => ?_⟩
          · show (if s < 64 then bf s + (if brk j s then nI 1 else nI 0) else bf s) = _
            rw [if_pos hs, hbf s hs, cP_succ, hb, Bool.true_and]
            cases brk j s <;> simp [nI_add]
          · unfold B_X8_findVows_41
            simp (disch := omega) only [l0, l1, l2, l3, l4, l5, l6, l7, l8, l9, l10, l11, l12, l13, l14, l15, l16, l17, l18, l19, l20, l21, l22, l23, l24, l25, l26, l27, l28, l29, l30, l32, l33, l37, l38, l40, l41, l42, l43, l45, l47, l48, l57, l58, l60, l61, l62, l63, l64, l69, l70, l74, l88, l91, l96, l97, l98, l99, l100, l102, l115, l116, l121, l124, l134, l158, l279, l255, l400, l728, l729, l9999, l99999, l12345, l1103515245, l1000000000, l1000000001, l1000000002, l1000000003, l1000000004, l1000000005, l1000000006, pk_us, nI_add, pk_mul, pk_sub, pk_div, nI_clamp, nI_ltI, nI_leI, nI_eq, bd_some, Nat.not_lt_zero, false_or, or_false, true_or, or_true, if_pos, if_neg, ite_true, ite_false, if_true, if_false, Nat.add_zero, m_doesFit hB ⟨_, hG.choose_spec⟩ hj, hb, nar1]
            have hbf0 : bf = fun s => if s < 0 then bf s + (if brk j s then nI 1 else nI 0) else bf s := funext fun s => (if_neg (Nat.not_lt_zero s)).symm
            refine (congrArg (fun z => lp (B_X8_findVows_84b bk k (nI j) (nI ((List.range j).countP (fitP row))) ft (nI 1)) fuelC (nI 0, z)) hbf0).trans ?_
            refine lp_det (body := B_X8_findVows_84b bk k (nI j) (nI ((List.range j).countP (fitP row))) ft (nI 1)) (fun i => (nI i, fun s => if s < i then bf s + (if brk j s then nI 1 else nI 0) else bf s)) _ 64 (by omega) ?_ ?_
            · intro i hi k2
              have hstep : upd (fun s => if s < i then bf s + (if brk j s then nI 1 else nI 0) else bf s) i (bf i + (if brk j i then nI 1 else nI 0)) = fun s => if s < i + 1 then bf s + (if brk j s then nI 1 else nI 0) else bf s := by
                funext s
                rcases Nat.lt_trichotomy s i with h | h | h
                · rw [pk_un (by omega), if_pos h, if_pos (show s < i + 1 by omega)]
                · subst h
                  rw [pk_us, if_pos (show s < s + 1 by omega)]
                · rw [pk_un (by omega), if_neg (show ¬ s < i by omega), if_neg (show ¬ s < i + 1 by omega)]
              rw [← hstep]
              unfold B_X8_findVows_84b
              simp (disch := omega) only [l0, l1, l2, l3, l4, l5, l6, l7, l8, l9, l10, l11, l12, l13, l14, l15, l16, l17, l18, l19, l20, l21, l22, l23, l24, l25, l26, l27, l28, l29, l30, l32, l33, l37, l38, l40, l41, l42, l43, l45, l47, l48, l57, l58, l60, l61, l62, l63, l64, l69, l70, l74, l88, l91, l96, l97, l98, l99, l100, l102, l115, l116, l121, l124, l134, l158, l279, l255, l400, l728, l729, l9999, l99999, l12345, l1103515245, l1000000000, l1000000001, l1000000002, l1000000003, l1000000004, l1000000005, l1000000006, pk_us, nI_add, pk_mul, pk_sub, pk_div, nI_clamp, nI_ltI, nI_leI, nI_eq, bd_some, Nat.not_lt_zero, false_or, or_false, true_or, or_true, if_pos, if_neg, ite_true, ite_false, if_true, if_false, Nat.add_zero, m_doesBreak hB hj hi, nar1, Nat.lt_irrefl]
              cases hbb : brk j i <;> simp (disch := omega) [nI_eq]
            · intro k2
              unfold B_X8_findVows_84b
              simp (disch := omega) only [l0, l1, l2, l3, l4, l5, l6, l7, l8, l9, l10, l11, l12, l13, l14, l15, l16, l17, l18, l19, l20, l21, l22, l23, l24, l25, l26, l27, l28, l29, l30, l32, l33, l37, l38, l40, l41, l42, l43, l45, l47, l48, l57, l58, l60, l61, l62, l63, l64, l69, l70, l74, l88, l91, l96, l97, l98, l99, l100, l102, l115, l116, l121, l124, l134, l158, l279, l255, l400, l728, l729, l9999, l99999, l12345, l1103515245, l1000000000, l1000000001, l1000000002, l1000000003, l1000000004, l1000000005, l1000000006, pk_us, nI_add, pk_mul, pk_sub, pk_div, nI_clamp, nI_ltI, nI_leI, nI_eq, bd_some, Nat.not_lt_zero, false_or, or_false, true_or, or_true, if_pos, if_neg, ite_true, ite_false, if_true, if_false, Nat.add_zero, nar1, cP_succ, hb]
      · rintro ⟨w, c, ft, bf⟩ ⟨hw, hcc, hft, hbf⟩ k
        simp only at hw hcc hft hbf
        subst hw
        subst hcc
        unfold B_X8_findVows_41
        simp (disch := omega) only [l0, l1, l2, l3, l4, l5, l6, l7, l8, l9, l10, l11, l12, l13, l14, l15, l16, l17, l18, l19, l20, l21, l22, l23, l24, l25, l26, l27, l28, l29, l30, l32, l33, l37, l38, l40, l41, l42, l43, l45, l47, l48, l57, l58, l60, l61, l62, l63, l64, l69, l70, l74, l88, l91, l96, l97, l98, l99, l100, l102, l115, l116, l121, l124, l134, l158, l279, l255, l400, l728, l729, l9999, l99999, l12345, l1103515245, l1000000000, l1000000001, l1000000002, l1000000003, l1000000004, l1000000005, l1000000006, pk_us, nI_add, pk_mul, pk_sub, pk_div, nI_clamp, nI_ltI, nI_leI, nI_eq, bd_some, Nat.not_lt_zero, false_or, or_false, true_or, or_true, if_pos, if_neg, ite_true, ite_false, if_true, if_false, Nat.add_zero]
        exact ⟨ft, bf, rfl, hft, hbf⟩
  · rw [if_neg (show ¬ nI 1 = 0 from by decide)]
    exact ⟨isFit, breaks, rfl, h1, h2⟩
/-! broken, breaksBy -/
def CtV (row counted : Nat → Int32) : Prop := ∀ s, s < 64 → counted s = -(nI 1) ∨ counted s = nI (cntB row s)
def FtV (row fit : Nat → Int32) : Prop := ∀ v, v < 729 → fit v = if fitP row v then nI 1 else nI 0
theorem x_broken {spread fit counted row : Nat → Int32} (hsp : SpV spread) (hf : FtV row fit) (hc : CtV row counted) {s : Nat} (hs : s < 64) : ∃ counted' : Nat → Int32, F_X5_broken spread fit counted (nI s) = some (nI (cntB row s), counted') ∧ CtV row counted' := by
  have hle := cntB_le row s
  unfold F_X5_broken
  simp (disch := omega) only [l0, l1, l2, l3, l4, l5, l6, l7, l8, l9, l10, l11, l12, l13, l14, l15, l16, l17, l18, l19, l20, l21, l22, l23, l24, l25, l26, l27, l28, l29, l30, l32, l33, l37, l38, l40, l41, l42, l43, l45, l47, l48, l57, l58, l60, l61, l62, l63, l64, l69, l70, l74, l88, l91, l96, l97, l98, l99, l100, l102, l115, l116, l121, l124, l134, l158, l279, l255, l400, l728, l729, l9999, l99999, l12345, l1103515245, l1000000000, l1000000001, l1000000002, l1000000003, l1000000004, l1000000005, l1000000006, isS_Y hs, bd_some, nI_eq, nI_clamp, nI_ltI, nI_leI, Nat.not_lt_zero, false_or, if_neg, x_countBroken hsp hf hs, cntB_64 row hs, pk_us]
  rcases hc s hs with h | h
  · rw [h, if_neg (by decide)]
    refine ⟨_, rfl, fun t ht => ?_⟩
    by_cases e : t = s
    · subst e
      rw [pk_us]
      exact Or.inr rfl
    · rw [pk_un e]
      exact hc t ht
  · rw [h, if_pos ((nI_leI (by omega) (by omega)).mpr (Nat.zero_le _))]
    exact ⟨counted, rfl, hc⟩
theorem m_breaksBy {bk : Nat → Int64} {row isFit breaks : Nat → Int32} {mfit known : Int32} (hB : BrV bk) (hG : SgV row) (hK : KnV row mfit known isFit breaks) {s : Nat} (hs : s < 64) : ∃ isFit' breaks' : Nat → Int32, F_X8_breaksBy mfit known row bk isFit breaks (nI s) = some (nI (cntB row s), nI (cntF row), nI 1, isFit', breaks') ∧ (∀ v, v < 729 → isFit' v = if fitP row v then nI 1 else nI 0) ∧ ∀ s, s < 64 → breaks' s = nI (cntB row s) := by
  obtain ⟨i1, b1, e1, e2, e3⟩ := m_findVows hB hG hK
  refine ⟨i1, b1, ?_, e2, e3⟩
  unfold F_X8_breaksBy
  simp (disch := omega) only [l0, l1, l2, l3, l4, l5, l6, l7, l8, l9, l10, l11, l12, l13, l14, l15, l16, l17, l18, l19, l20, l21, l22, l23, l24, l25, l26, l27, l28, l29, l30, l32, l33, l37, l38, l40, l41, l42, l43, l45, l47, l48, l57, l58, l60, l61, l62, l63, l64, l69, l70, l74, l88, l91, l96, l97, l98, l99, l100, l102, l115, l116, l121, l124, l134, l158, l279, l255, l400, l728, l729, l9999, l99999, l12345, l1103515245, l1000000000, l1000000001, l1000000002, l1000000003, l1000000004, l1000000005, l1000000006, pk_us, nI_add, pk_mul, pk_sub, pk_div, nI_clamp, nI_ltI, nI_leI, nI_eq, bd_some, Nat.not_lt_zero, false_or, or_false, true_or, or_true, if_pos, if_neg, ite_true, ite_false, if_true, if_false, Nat.add_zero, e1, e3 s hs]
