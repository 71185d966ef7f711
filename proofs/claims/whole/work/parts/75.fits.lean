/-! PURE: tables of sayings; who is freest -/
theorem sh0 : ∀ j, j < 64 → ((nI 0).toInt64 <<< ((nI j).toInt64 &&& 63)) = 0 := by decide +kernel
theorem one64 : (nI 1).toInt64 = (1 : Int64) := by decide +kernel
theorem asked_bit : ∀ n, n < 25 → ∀ b, b < 64 → (((1 : Int64) <<< ((nI n).toInt64 &&& 63)) - (1 : Int64)).toBitVec.getLsbD b = decide (b < n) := by decide +kernel
theorem or0 (x : Int64) : x ||| 0 = x := by
  apply Int64.toBitVec_inj.mp
  rw [Int64.toBitVec_or]
  show x.toBitVec ||| 0#64 = x.toBitVec
  simp
theorem cP_mono (p : Nat → Bool) (a d : Nat) : (List.range a).countP p ≤ (List.range (a + d)).countP p := by
  induction d with
  | zero => exact Nat.le_refl _
  | succ d ih =>
    rw [← Nat.add_assoc, cP_succ]
    omega
theorem x_toldBy {nf : Nat → Int32} {n : Nat} (hn : n ≤ 24) : ∃ T : Int64, F_X5_toldBy 24 (nI n) nf = some T ∧ ((T = -1 ∧ ∃ i, i < n ∧ ¬ (nf i = nI 0 ∨ nf i = nI 1)) ∨ ((∀ i, i < n → nf i = nI 0 ∨ nf i = nI 1) ∧ ∀ b, b < 64 → T.toBitVec.getLsbD b = (decide (b < n) && decide (nf b = nI 1)))) := by
  unfold F_X5_toldBy
  refine lp_go (fun j (s : Int64 × Int32) => s.2 = nI j ∧ (∀ i, i < j → nf i = nI 0 ∨ nf i = nI 1) ∧ ∀ b, b < 64 → s.1.toBitVec.getLsbD b = (decide (b < j) && decide (nf b = nI 1))) (fun o => ∃ T : Int64, o = some T ∧ ((T = -1 ∧ ∃ i, i < n ∧ ¬ (nf i = nI 0 ∨ nf i = nI 1)) ∨ ((∀ i, i < n → nf i = nI 0 ∨ nf i = nI 1) ∧ ∀ b, b < 64 → T.toBitVec.getLsbD b = (decide (b < n) && decide (nf b = nI 1))))) n (by omega) ⟨rfl, fun i hi => absurd hi (Nat.not_lt_zero i), fun b _ => by show (0#64).getLsbD b = _; simp⟩ ?_ ?_
  · rintro j ⟨s1, s2⟩ hj ⟨h1, h2, h3⟩
    dsimp only at h1 h3
    subst h1
    have hget := x_get nf hj hn (show 24 < 2 ^ 31 by omega)
    rcases ix (nf j) 2 (by omega) with hN | ⟨y, hy, hyj⟩
    · refine Or.inl (fun k => ⟨-1, ?_, Or.inl ⟨rfl, j, hj, ?_⟩⟩)
      · unfold B_X5_toldBy_5 F_X1_many
        rw [bd_some, if_neg (show ¬ nI n ≤ nI j from nI_ge hj (by omega)), hget, bd_some, show F_X7_within (nf j) (0 : Int32) (1 : Int32) = _ from w_N (M := 1) hN (by omega), bd_some, if_pos (show nI 0 = 0 from rfl)]
      · rintro (e | e)
        · rw [e] at hN; revert hN; decide
        · rw [e] at hN; revert hN; decide
    · have hb : B_X5_toldBy_5 24 (nI n) nf = B_X5_toldBy_5 24 (nI n) nf := rfl
      have hstep : ∀ k, B_X5_toldBy_5 24 (nI n) nf k (s1, nI j) = k (s1 ||| ((nI y).toInt64 <<< ((nI j).toInt64 &&& 63)), nI (j + 1)) := by
        intro k
        unfold B_X5_toldBy_5 F_X1_many
        rw [bd_some, if_neg (show ¬ nI n ≤ nI j from nI_ge hj (by omega)), hget, bd_some, show F_X7_within (nf j) (0 : Int32) (1 : Int32) = some (nI 1) from by rw [hyj]; exact w_Y (M := 1) (show y ≤ 1 by omega) (by omega), bd_some, if_neg (show ¬ nI 1 = 0 from by decide), bd_some, hyj]
        show k (_, nI j + (1 : Int32)) = _
        rw [l1, nI_add]
      rcases (show y = 0 ∨ y = 1 by omega) with rfl | rfl
      · rw [sh0 j (by omega), or0] at hstep
        refine Or.inr ⟨(s1, nI (j + 1)), ⟨rfl, fun i hi => ?_, fun b hb => ?_⟩, hstep⟩
        · rcases Nat.lt_or_ge i j with g | g
          · exact h2 i g
          · rw [show i = j by omega]; exact Or.inl hyj
        · dsimp only
          rw [h3 b hb]
          by_cases e : b = j
          · subst e
            rw [hyj]
            simp [show ¬ nI 0 = nI 1 from by decide]
          · rw [show decide (b < j + 1) = decide (b < j) from by rw [decide_eq_decide]; omega]
      · rw [one64] at hstep
        refine Or.inr ⟨(s1 ||| ((1 : Int64) <<< ((nI j).toInt64 &&& 63)), nI (j + 1)), ⟨rfl, fun i hi => ?_, fun b hb => ?_⟩, hstep⟩
        · rcases Nat.lt_or_ge i j with g | g
          · exact h2 i g
          · rw [show i = j by omega]; exact Or.inr hyj
        · dsimp only
          rw [bit_or1 (by omega), h3 b hb]
          by_cases e : b = j
          · subst e
            rw [hyj]
            simp
          · rw [show decide (b < j + 1) = decide (b < j) from by rw [decide_eq_decide]; omega]
            simp [e]
  · rintro ⟨s1, s2⟩ ⟨h1, h2, h3⟩ k
    dsimp only at h1 h3
    subst h1
    refine ⟨s1, ?_, Or.inr ⟨h2, h3⟩⟩
    unfold B_X5_toldBy_5 F_X1_many
    rw [bd_some, if_pos (show nI n ≤ nI n from nI_le (Nat.le_refl _) (by omega))]
def tabB (nf : Nat → Int32) (n v : Nat) : Bool := (List.range n).all fun i => decide (nf i = if brk v i then nI 1 else nI 0)
theorem asked_iff {br : Nat → Int64} (hV : BrV br) {nf : Nat → Int32} {n v : Nat} (hn : n ≤ 24) (hv : v < 729) {T : Int64} (hT : (T = -1 ∧ ∃ i, i < n ∧ ¬ (nf i = nI 0 ∨ nf i = nI 1)) ∨ ((∀ i, i < n → nf i = nI 0 ∨ nf i = nI 1) ∧ ∀ b, b < 64 → T.toBitVec.getLsbD b = (decide (b < n) && decide (nf b = nI 1)))) : (lg_cmp ((br v) &&& (((1 : Int64) <<< ((nI n).toInt64 &&& 63)) - (1 : Int64))) T = 0) ↔ tabB nf n v = true := by
  refine (lg_cmp_eq _ _).trans ?_
  unfold tabB
  rw [List.all_eq_true]
  have hbits : ∀ b, b < 64 → ((br v) &&& (((1 : Int64) <<< ((nI n).toInt64 &&& 63)) - (1 : Int64))).toBitVec.getLsbD b = (brk v b && decide (b < n)) := fun b hb => by
    rw [Int64.toBitVec_and, BitVec.getLsbD_and, asked_bit n (by omega) b hb, hV v hv b hb]
  rcases hT with ⟨rfl, i, hi, hni⟩ | ⟨h01, hTb⟩
  · constructor
    · intro h
      have h1 := hbits 63 (by omega)
      rw [h, show ((-1 : Int64)).toBitVec.getLsbD 63 = true from by decide +kernel, decide_eq_false (show ¬ 63 < n by omega), Bool.and_false] at h1
      cases h1
    · intro h
      have h1 := of_decide_eq_true (h i (List.mem_range.mpr hi))
      refine absurd ?_ hni
      rw [h1]
      cases brk v i
      · exact Or.inl rfl
      · exact Or.inr rfl
  · constructor
    · intro h i hi
      have hin := List.mem_range.mp hi
      have h1 := hbits i (by omega)
      rw [h, hTb i (by omega), decide_eq_true hin, Bool.true_and, Bool.and_true] at h1
      refine decide_eq_true ?_
      rw [← h1]
      rcases h01 i hin with e | e
      · rw [e]; decide
      · rw [e]; decide
    · intro h
      apply Int64.toBitVec_inj.mp
      apply BitVec.eq_of_getLsbD_eq
      intro b hb
      rw [hbits b hb, hTb b hb]
      by_cases hbn : b < n
      · have h1 := of_decide_eq_true (h b (List.mem_range.mpr hbn))
        rw [decide_eq_true hbn, Bool.true_and, Bool.and_true, h1]
        cases brk v b <;> decide
      · rw [decide_eq_false hbn, Bool.false_and, Bool.and_false]
section
variable {c : Nat} {x_hasI : Int32} {x_imgs : Int32} {x_vow : Int32} {x_day : Int32} {x_worth : Int32} {x_z : Int32} {x_kinds_m : Int32} {x_kinds_f : Nat → Int32} {x_ms_m : Int32} {x_ms_f : Nat → Int32} {x_said_m : Int32} {x_said_f : Nat → Int32} {x_signs_m : Int32} {x_signs_f : Nat → Int32} {x_tape_m : Int32} {x_tape_f : Nat → Int32} {x_avo_m : Int32} {x_avo_f : Nat → Int32} {x_tal_m : Int32} {x_tal_f : Nat → Int32} {x_wai_m : Int32} {x_wai_f : Nat → Int32} {x_kp_vow : Int32} {x_kp_day : Int32} {x_kp_worth : Int32} {x_kp_z : Int32} {x_kp_kinds_m : Int32} {x_kp_kinds_f : Nat → Int32} {x_kp_ms_m : Int32} {x_kp_ms_f : Nat → Int32} {x_kp_said_m : Int32} {x_kp_said_f : Nat → Int32} {x_kp_signs_m : Int32} {x_kp_signs_f : Nat → Int32} {x_kp_tape_m : Int32} {x_kp_tape_f : Nat → Int32} {x_kp_avo_m : Int32} {x_kp_avo_f : Nat → Int32} {x_kp_tal_m : Int32} {x_kp_tal_f : Nat → Int32} {x_kp_wai_m : Int32} {x_kp_wai_f : Nat → Int32} {x_fitting : Int32} {x_spread_f : Nat → Int32} {x_breakers_f : Nat → Int64} {x_fit_f : Nat → Int32} {x_counted_f : Nat → Int32} {x_kk : Nat} {x_rat : Int32} {x_flt : Int32} {x_codes_m : Int32} {x_codes_f : Nat → Int32} {x_stack_m : Int32} {x_stack_f : Nat → Int32} {x_parted : Int32} {x_vkk : Int32} {x_vkd : Int32} {x_vmm : Int32} {x_trace_m : Int32} {x_trace_f : Nat → Int32} {x_er_f : Nat → Int32} {x_bits0 : Int32} {x_num0_m : Int32} {x_num0_f : Nat → Int32} {x_bits1 : Int32} {x_num1_m : Int32} {x_num1_f : Nat → Int32} {x_bits2 : Int32} {x_num2_m : Int32} {x_num2_f : Nat → Int32} {x_bits3 : Int32} {x_num3_m : Int32} {x_num3_f : Nat → Int32} {m_images : Int32} {m_mfit : Int32} {m_known : Int32} {m_laid : Int32} {m_hre : Int32} {m_opnd : Int32} {m_bad : Int32} {m_usg : Int32} {m_trcd : Int32} {m_isP : Int32} {m_row_f : Nat → Int32} {m_kpt_f : Nat → Int32} {m_errs_f : Nat → Int32} {m_bitsOf_f : Nat → Int32} {m_sizeOf_f : Nat → Int32} {m_cels_f : Nat → Int32} {m_broken_f : Nat → Int64} {m_isFit_f : Nat → Int32} {m_breaks_f : Nat → Int32} {m_act_f : Nat → Int32} {m_wth_f : Nat → Int32} {m_facts_f : Nat → Int32} {m_pile_f : Nat → Int32} {m_trc_f : Nat → Int32}
variable {nf : Nat → Int32} {n : Nat}
theorem x_fitAs (iV : IvV x_spread_f x_breakers_f m_broken_f) (hF : FtV m_row_f x_fit_f) (hn : n ≤ 24) : F_X5_fittingAs 24 x_breakers_f x_fit_f (nI n) nf = some (nI ((List.range 729).countP fun v => fitP m_row_f v && tabB nf n v)) ∧ ((∃ v, v < 729 ∧ (fitP m_row_f v && tabB nf n v) = true) → ∃ L, F_X5_leastAs 24 x_breakers_f x_fit_f (nI n) nf = some (nI L) ∧ L < 729 ∧ (fitP m_row_f L && tabB nf n L) = true ∧ ∀ v, v < L → (fitP m_row_f v && tabB nf n v) = false) := by
  obtain ⟨T, e1, hT⟩ := x_toldBy (nf := nf) hn
  constructor
  · unfold F_X5_fittingAs F_X1_many
    rw [bd_some, e1, bd_some]
    refine lp_det (body := B_X5_fittingAs_22 x_breakers_f x_fit_f (nI n) T) (fun j => (nI ((List.range j).countP fun v => fitP m_row_f v && tabB nf n v), nI j)) _ 729 (by omega) ?_ ?_
    · intro j hj k
      have hf := hF j hj
      have ha := asked_iff iV.2.1 hn hj hT
      have hc := cP_le (fun v => fitP m_row_f v && tabB nf n v) j
      have g : ¬ (nI j < 0 ∨ 729 ≤ (nI j).toNatClampNeg) := nI_in hj (by omega)
      unfold B_X5_fittingAs_22
      rw [if_neg (show ¬ (729 : Int32) ≤ nI j from by rw [l729]; exact nI_ge hj (by omega)), if_neg (show ¬ (nI j < 0 ∨ 729 ≤ (nI j).toNatClampNeg) from g), cP_succ]
      cases hb : fitP m_row_f j with
      | false =>
        rw [hb] at hf
        rw [if_pos (show x_fit_f (nI j).toNatClampNeg = 0 from by rw [nI_clamp (by omega)]; exact hf)]
        show k (_ + (0 : Int32), nI j + (1 : Int32)) = _
        rw [l0, l1, nI_add, nI_add, Bool.false_and]
        rfl
      | true =>
        rw [hb] at hf
        rw [if_neg (show ¬ x_fit_f (nI j).toNatClampNeg = 0 from by rw [nI_clamp (by omega), hf]; decide), if_neg (show ¬ (nI j < 0 ∨ 729 ≤ (nI j).toNatClampNeg) from g)]
        dsimp only
        rw [nI_clamp (by omega), Bool.true_and]
        by_cases hc2 : tabB nf n j = true
        · rw [if_pos (ha.mpr hc2), hc2, l1, nI_add, nI_add]
          rfl
        · rw [if_neg (fun e => hc2 (ha.mp e)), l0, l1, nI_add, nI_add, if_neg hc2]
    · intro k
      unfold B_X5_fittingAs_22
      rw [if_pos (show (729 : Int32) ≤ nI 729 from by decide)]
  · rintro ⟨v0, hv0, hv1⟩
    unfold F_X5_leastAs F_X1_many
    rw [bd_some, e1, bd_some]
    refine lp_go (fun j (s : Int32) => s = nI j ∧ ∀ v, v < j → (fitP m_row_f v && tabB nf n v) = false) (fun o => ∃ L, o = some (nI L) ∧ L < 729 ∧ (fitP m_row_f L && tabB nf n L) = true ∧ ∀ v, v < L → (fitP m_row_f v && tabB nf n v) = false) 729 (by omega) ⟨rfl, fun v hv => absurd hv (Nat.not_lt_zero v)⟩ ?_ ?_
    · rintro j s hj ⟨rfl, h⟩
      have hf := hF j hj
      have ha := asked_iff iV.2.1 hn hj hT
      have g : ¬ (nI j < 0 ∨ 729 ≤ (nI j).toNatClampNeg) := nI_in hj (by omega)
      have hlt : ¬ (729 : Int32) ≤ nI j := by rw [l729]; exact nI_ge hj (by omega)
      have hno : (fitP m_row_f j && tabB nf n j) = false → ∀ v, v < j + 1 → (fitP m_row_f v && tabB nf n v) = false := by
        intro hj0 v hv
        rcases Nat.lt_or_ge v j with q | q
        · exact h v q
        · rw [show v = j by omega]; exact hj0
      cases hb : fitP m_row_f j with
      | false =>
        rw [hb] at hf
        refine Or.inr ⟨nI (j + 1), ⟨rfl, hno (by rw [hb]; rfl)⟩, fun k => ?_⟩
        unfold B_X5_leastAs_19
        rw [if_neg hlt, if_neg g, if_pos (show x_fit_f (nI j).toNatClampNeg = 0 from by rw [nI_clamp (by omega)]; exact hf), l1, nI_add]
      | true =>
        rw [hb] at hf
        have hne : ¬ x_fit_f (nI j).toNatClampNeg = 0 := by rw [nI_clamp (by omega), hf]; decide
        by_cases hc2 : tabB nf n j = true
        · refine Or.inl (fun k => ⟨j, ?_, hj, by rw [hb, hc2]; rfl, h⟩)
          unfold B_X5_leastAs_19
          rw [if_neg hlt, if_neg g, if_neg hne, if_neg g, nI_clamp (by omega), if_pos (ha.mpr hc2)]
        · refine Or.inr ⟨nI (j + 1), ⟨rfl, hno (by rw [hb, Bool.true_and]; simpa using hc2)⟩, fun k => ?_⟩
          unfold B_X5_leastAs_19
          rw [if_neg hlt, if_neg g, if_neg hne, if_neg g, nI_clamp (by omega), if_neg (fun e => hc2 (ha.mp e)), l1, nI_add]
    · rintro s ⟨rfl, h⟩ k
      rw [h v0 hv0] at hv1
      cases hv1
theorem m_isSo {q : Nat} (hq : q < 4) (iV : IvV x_spread_f x_breakers_f m_broken_f) {isFit : Nat → Int32} (hF : FtV m_row_f isFit) (hn : n ≤ 24) (hs : m_sizeOf_f q = nI n) (hcl : ∀ i, i < n → nf i = m_cels_f (24 * q + i)) {v : Nat} (hv : v < 729) : F_X8_isSo m_sizeOf_f m_cels_f m_broken_f isFit (nI q) (nI v) = some (if fitP m_row_f v && tabB nf n v then nI 1 else nI 0) := by
  have gq : ¬ (nI q < 0 ∨ 4 ≤ (nI q).toNatClampNeg) := nI_in hq (by omega)
  unfold F_X8_isSo
  rw [if_neg (nI_in hv (by omega)), nI_clamp (by omega), hF v hv]
  refine lp_go (fun j (s : Int32 × Int32) => s.2 = nI j ∧ s.1 = (if fitP m_row_f v && tabB nf j v then nI 1 else nI 0)) (fun o => o = some (if fitP m_row_f v && tabB nf n v then nI 1 else nI 0)) n (by omega) ⟨rfl, by show _ = (if fitP m_row_f v && true then nI 1 else nI 0); rw [Bool.and_true]⟩ ?_ ?_
  · rintro j ⟨s1, s2⟩ hj ⟨h1, h2⟩
    dsimp only at h1 h2
    subst h1
    have hle : ¬ m_sizeOf_f (nI q).toNatClampNeg ≤ nI j := by rw [nI_clamp (by omega), hs]; exact nI_ge hj (by omega)
    cases hb : (fitP m_row_f v && tabB nf j v) with
    | false =>
      rw [hb] at h2
      have hs1 : s1 = 0 := h2
      have hfin : (fitP m_row_f v && tabB nf n v) = false := by
        cases hfv : fitP m_row_f v with
        | false => rfl
        | true =>
          rw [hfv, Bool.true_and] at hb
          rw [Bool.true_and]
          unfold tabB at hb ⊢
          rw [List.all_eq_false] at hb ⊢
          obtain ⟨x, hx1, hx2⟩ := hb
          exact ⟨x, List.mem_range.mpr (by have := List.mem_range.mp hx1; omega), hx2⟩
      refine Or.inl (fun k => ?_)
      unfold B_X8_isSo_10
      rw [if_neg gq, if_neg hle, if_pos hs1, if_pos (show s1 &&& 1 = s1 from by rw [hs1]; decide), hfin, hs1]
      rfl
    | true =>
      rw [hb] at h2
      have hs1 : s1 = nI 1 := h2
      have hfv : fitP m_row_f v = true := by
        rw [Bool.and_eq_true] at hb; exact hb.1
      have htj : tabB nf j v = true := by
        rw [Bool.and_eq_true] at hb; exact hb.2
      have hsucc : tabB nf (j + 1) v = decide (nf j = if brk v j then nI 1 else nI 0) := by
        unfold tabB at htj ⊢
        rw [all_succ, htj, Bool.true_and]
      have gx : ¬ ((24 : Int32) * nI q + nI j < 0 ∨ 96 ≤ ((24 : Int32) * nI q + nI j).toNatClampNeg) := by
        rw [l24, pk_mul, nI_add]
        exact nI_in (by omega) (by omega)
      have gv : m_cels_f ((24 : Int32) * nI q + nI j).toNatClampNeg = nf j := by
        rw [l24, pk_mul, nI_add, nI_clamp (by omega)]
        exact (hcl j hj).symm
      refine Or.inr ⟨((if fitP m_row_f v && tabB nf (j + 1) v then nI 1 else nI 0), nI (j + 1)), ⟨rfl, rfl⟩, fun k => ?_⟩
      unfold B_X8_isSo_10
      rw [if_neg gq, if_neg hle, if_neg (show ¬ s1 = 0 from by rw [hs1]; decide), if_neg gx, m_doesBreak iV.2.2 hv (show j < 64 by omega), bd_some]
      dsimp only
      rw [gv, hfv, Bool.true_and, hsucc, l1, nI_add]
      cases brk v j with
      | true =>
        rw [if_neg (show ¬ (if true = true then nI 1 else nI 0) = 0 from by decide)]
        by_cases hc : nf j = nI 1
        · rw [if_pos hc, decide_eq_true (show nf j = (if true = true then nI 1 else nI 0) from hc)]
          rfl
        · rw [if_neg hc, decide_eq_false (show ¬ nf j = (if true = true then nI 1 else nI 0) from hc)]
          rfl
      | false =>
        rw [if_pos (show (if false = true then nI 1 else nI 0) = 0 from rfl)]
        by_cases hc : nf j = nI 0
        · rw [if_pos (show nf j = (0 : Int32) from hc), decide_eq_true (show nf j = (if false = true then nI 1 else nI 0) from hc)]
          rfl
        · rw [if_neg (show ¬ nf j = (0 : Int32) from hc), decide_eq_false (show ¬ nf j = (if false = true then nI 1 else nI 0) from hc)]
          rfl
  · rintro ⟨s1, s2⟩ ⟨h1, h2⟩ k
    dsimp only at h1 h2
    subst h1
    unfold B_X8_isSo_10
    rw [if_neg gq, if_pos (show m_sizeOf_f (nI q).toNatClampNeg ≤ nI n from by rw [nI_clamp (by omega), hs]; exact nI_le (Nat.le_refl _) (by omega)), if_pos (show s1 &&& 1 = s1 from by rw [h2]; cases (fitP m_row_f v && tabB nf n v) <;> decide), h2]
theorem m_fitsL {q : Nat} (hq : q < 4) (iV : IvV x_spread_f x_breakers_f m_broken_f) {isFit breaks errs : Nat → Int32} {k1 wh : Int32} (hF : FtV m_row_f isFit) (hn : n ≤ 24) (hs : m_sizeOf_f q = nI n) (hcl : ∀ i, i < n → nf i = m_cels_f (24 * q + i)) : ∃ le : Int32, ((le = -(nI 1) ∧ ∀ v, v < 729 → (fitP m_row_f v && tabB nf n v) = false) ∨ ∃ L, le = nI L ∧ L < 729 ∧ (fitP m_row_f L && tabB nf n L) = true ∧ ∀ v, v < L → (fitP m_row_f v && tabB nf n v) = false) ∧ ∃ kk, lp (B_X8_fits_53 errs m_sizeOf_f m_cels_f m_broken_f (nI q) wh (nI (cntF m_row_f), k1, isFit, breaks)) fuelC (nI 0, -(nI 1), nI 728) = B_X8_fits_53 errs m_sizeOf_f m_cels_f m_broken_f (nI q) wh (nI (cntF m_row_f), k1, isFit, breaks) kk (nI ((List.range 729).countP fun v => fitP m_row_f v && tabB nf n v), le, nI 0 - nI 1) := by
  refine lp_go (fun j (s : Int32 × Int32 × Int32) => s.1 = nI ((List.range 729).countP (fun v => fitP m_row_f v && tabB nf n v) - (List.range (729 - j)).countP (fun v => fitP m_row_f v && tabB nf n v)) ∧ s.2.2 = nI (729 - j) - nI 1 ∧ ((s.2.1 = -(nI 1) ∧ ∀ v, 729 - j ≤ v → v < 729 → (fitP m_row_f v && tabB nf n v) = false) ∨ ∃ L, s.2.1 = nI L ∧ 729 - j ≤ L ∧ L < 729 ∧ (fitP m_row_f L && tabB nf n L) = true ∧ ∀ v, 729 - j ≤ v → v < L → (fitP m_row_f v && tabB nf n v) = false)) (fun o => ∃ le : Int32, ((le = -(nI 1) ∧ ∀ v, v < 729 → (fitP m_row_f v && tabB nf n v) = false) ∨ ∃ L, le = nI L ∧ L < 729 ∧ (fitP m_row_f L && tabB nf n L) = true ∧ ∀ v, v < L → (fitP m_row_f v && tabB nf n v) = false) ∧ ∃ kk, o = B_X8_fits_53 errs m_sizeOf_f m_cels_f m_broken_f (nI q) wh (nI (cntF m_row_f), k1, isFit, breaks) kk (nI ((List.range 729).countP fun v => fitP m_row_f v && tabB nf n v), le, nI 0 - nI 1)) 729 (by omega) ⟨by show nI 0 = _; rw [Nat.sub_zero, Nat.sub_self], by decide, Or.inl ⟨rfl, fun v h1 h2 => by omega⟩⟩ ?_ ?_
  · rintro j ⟨s1, s2, s3⟩ hj ⟨h0, h1, h⟩
    dsimp only at h0 h1 h
    obtain ⟨x, hx⟩ : ∃ x, x = 729 - (j + 1) := ⟨_, rfl⟩
    have hx1 : 729 - j = x + 1 := by omega
    have hxl : x < 729 := by omega
    have e1 : nI (729 - j) - nI 1 = nI x := by rw [hx1, pk_sub (by omega), Nat.add_sub_cancel]
    rw [e1] at h1
    subst h1
    rw [hx1] at h h0
    rw [cP_succ _ x] at h0
    have hmono := cP_mono (fun v => fitP m_row_f v && tabB nf n v) (x + 1) (728 - x)
    rw [show x + 1 + (728 - x) = 729 by omega, cP_succ _ x] at hmono
    have hso := m_isSo (nf := nf) hq iV hF hn hs hcl hxl
    have hneg : ¬ nI x < 0 := nI_pos (by omega)
    rw [← hx]
    cases hb : (fitP m_row_f x && tabB nf n x) with
    | false =>
      rw [hb] at hso h0
      refine Or.inr ⟨(s1, s2, nI x - nI 1), ⟨by dsimp only; rw [h0]; rfl, rfl, ?_⟩, fun k => ?_⟩
      · rcases h with ⟨a, c⟩ | ⟨L, a, c1, c2, c3, c4⟩
        · refine Or.inl ⟨a, fun v g1 g2 => ?_⟩
          rcases Nat.lt_or_ge x v with g | g
          · exact c v g g2
          · rw [show v = x by omega]; exact hb
        · refine Or.inr ⟨L, a, by omega, c2, c3, fun v g1 g2 => ?_⟩
          rcases Nat.lt_or_ge x v with g | g
          · exact c4 v g g2
          · rw [show v = x by omega]; exact hb
      · unfold B_X8_fits_53
        rw [if_neg (show ¬ (s1, s2, nI x).2.2 < 0 from hneg)]
        dsimp only
        rw [hso, bd_some, if_pos (show (if false = true then nI 1 else nI 0) = 0 from rfl), if_pos (show (if false = true then nI 1 else nI 0) = 0 from rfl), show nI x + (-1 : Int32) = nI x - nI 1 from addm, show s1 + (0 : Int32) = s1 from Int32.add_zero s1]
    | true =>
      rw [hb] at hso h0 hmono
      refine Or.inr ⟨(s1 + nI 1, nI x, nI x - nI 1), ⟨?_, rfl, Or.inr ⟨x, rfl, Nat.le_refl _, hxl, hb, fun v g1 g2 => by omega⟩⟩, fun k => ?_⟩
      · dsimp only
        rw [h0, nI_add]
        congr 1
        have e9 : (if true = true then 1 else 0) = 1 := rfl
        rw [e9] at hmono ⊢
        omega
      · unfold B_X8_fits_53
        rw [if_neg (show ¬ (s1, s2, nI x).2.2 < 0 from hneg)]
        dsimp only
        rw [hso, bd_some, if_neg (show ¬ (if true = true then nI 1 else nI 0) = 0 from by decide), if_neg (show ¬ (if true = true then nI 1 else nI 0) = 0 from by decide), show nI x + (-1 : Int32) = nI x - nI 1 from addm, l1]
  · rintro ⟨s1, s2, s3⟩ ⟨h0, h1, h⟩ k
    dsimp only at h0 h1 h
    subst h1
    have h00 : s1 = nI ((List.range 729).countP fun v => fitP m_row_f v && tabB nf n v) := by
      rw [h0, Nat.sub_self, List.range_zero, List.countP_nil, Nat.sub_zero]
    subst h00
    rcases h with ⟨a, c⟩ | ⟨L, a, c1, c2, c3, c4⟩
    · exact ⟨s2, Or.inl ⟨a, fun v hv => c v (by omega) hv⟩, k, rfl⟩
    · exact ⟨s2, Or.inr ⟨L, a, c2, c3, fun v hv => c4 v (by omega) hv⟩, k, rfl⟩
variable {bits nm : Int32}
theorem g_fits {q : Nat} (hq : q < 4) (iS : IvS x_vow x_day x_worth x_z x_kinds_m x_kinds_f x_ms_m x_ms_f x_said_m x_said_f x_signs_m x_signs_f x_tape_m x_tape_f x_avo_m x_avo_f x_tal_m x_tal_f x_wai_m x_wai_f m_row_f) (iV : IvV x_spread_f x_breakers_f m_broken_f) (iF : IvF m_row_f x_fitting x_fit_f x_counted_f m_mfit m_known m_isFit_f m_breaks_f) (iE : IvE x_er_f m_errs_f) (iH : IvH q bits nm nf m_bitsOf_f m_sizeOf_f m_cels_f) (wh : Int32) : ∃ (u : Int32 × (Nat → Int32)) (w : Int32 × Int32 × Int32 × (Nat → Int32) × (Nat → Int32) × (Nat → Int32)), F_X7_fits_in x_breakers_f x_fit_f x_er_f bits nm nf (nI q) wh = some u ∧ F_X8_fits m_mfit m_known m_row_f m_errs_f m_bitsOf_f m_sizeOf_f m_cels_f m_broken_f m_isFit_f m_breaks_f (nI q) wh = some w ∧ u.1 = w.1 ∧ IvF m_row_f x_fitting x_fit_f x_counted_f w.2.1 w.2.2.1 w.2.2.2.2.1 w.2.2.2.2.2 ∧ IvE u.2 w.2.2.2.1 := by
  have iF0 := iF
  obtain ⟨hF, hf, hC, hK⟩ := iF0
  obtain ⟨hb, hbo, n, hn, h0n, rfl, hs, hcl⟩ := iH
  have gq : ¬ (nI q < 0 ∨ 4 ≤ (nI q).toNatClampNeg) := nI_in hq (by omega)
  rcases ix wh 2 (by omega) with h | ⟨b, hb2, rfl⟩
  · refine ⟨(-(nI 1000000001), upd x_er_f 1 (x_er_f 1 + nI 1)), (-(nI 1000000001), m_mfit, m_known, upd m_errs_f 1 (m_errs_f 1 + nI 1), m_isFit_f, m_breaks_f), ?_, ?_, rfl, iF, iE.err 1⟩
    · unfold F_X7_fits_in
      rw [shIn hq, bd_some, show F_X7_within wh (0 : Int32) (1 : Int32) = _ from w_N (M := 1) h (by omega), bd_some, if_pos (show nI 0 = 0 from rfl), show F_X7_error x_er_f (1 : Int32) = _ from x_err1 x_er_f, bd_some]
    · unfold F_X8_fits
      rw [isSh_Y hq, bd_some, if_neg (show ¬ nI 1 = 0 from by decide), show F_X8_in wh (0 : Int32) (1 : Int32) = _ from w_N (M := 1) h (by omega), bd_some, if_pos (show nI 0 = 0 from rfl), show F_X8_error m_errs_f (-1000000001 : Int32) = _ from m_err1 m_errs_f, bd_some]
  have hw7 : F_X7_within (nI b) (0 : Int32) (1 : Int32) = some (nI 1) := w_Y (M := 1) (show b ≤ 1 by omega) (by omega)
  have hw8 : F_X8_in (nI b) (0 : Int32) (1 : Int32) = some (nI 1) := hw7
  by_cases h0 : bits = nI 0
  · refine ⟨(-(nI 1000000002), upd x_er_f 2 (x_er_f 2 + nI 1)), (-(nI 1000000002), m_mfit, m_known, upd m_errs_f 2 (m_errs_f 2 + nI 1), m_isFit_f, m_breaks_f), ?_, ?_, rfl, iF, iE.err 2⟩
    · unfold F_X7_fits_in F_X2_isMissing
      rw [shIn hq, bd_some, hw7, bd_some, if_neg (show ¬ nI 1 = 0 from by decide), if_pos (show bits = 0 from h0), bd_some, if_neg (show ¬ (1 : Int32) = 0 from by decide), show F_X7_error x_er_f (2 : Int32) = _ from x_err2 x_er_f, bd_some]
    · unfold F_X8_fits
      rw [isSh_Y hq, bd_some, if_neg (show ¬ nI 1 = 0 from by decide), hw8, bd_some, if_neg (show ¬ nI 1 = 0 from by decide), if_neg gq, nI_clamp (by omega), if_pos (show m_bitsOf_f q = 0 from hbo.trans h0), show F_X8_error m_errs_f (-1000000002 : Int32) = _ from m_err2 m_errs_f, bd_some]
  obtain ⟨i1, b1, r1, r2, r3⟩ := m_findVows iV.2.2 iS.2.2.1.sg hK
  have iF1 : IvF m_row_f x_fitting x_fit_f x_counted_f (nI (cntF m_row_f)) (nI 1) i1 b1 := ⟨hF, hf, hC, Or.inr ⟨rfl, r2, rfl, r3⟩⟩
  obtain ⟨p1, p2⟩ := x_fitAs (nf := nf) iV hF hn
  obtain ⟨le, hle, kk, hlp⟩ := m_fitsL (nf := nf) hq iV (isFit := i1) (breaks := b1) (errs := m_errs_f) (k1 := nI 1) (wh := nI b) r2 hn hs hcl
  have hX : F_X7_fits_in x_breakers_f x_fit_f x_er_f bits (nI n) nf (nI q) (nI b) = (if nI b = 0 then some (nI ((List.range 729).countP fun v => fitP m_row_f v && tabB nf n v), x_er_f) else if nI ((List.range 729).countP fun v => fitP m_row_f v && tabB nf n v) = 0 then some (-(nI 1000000002), upd x_er_f 2 (x_er_f 2 + nI 1)) else bd (F_X5_leastAs 24 x_breakers_f x_fit_f (nI n) nf) (fun u5 => some (u5, x_er_f))) := by
    unfold F_X7_fits_in F_X2_isMissing
    rw [shIn hq, bd_some, hw7, bd_some, if_neg (show ¬ nI 1 = 0 from by decide), if_neg (show ¬ bits = 0 from h0), bd_some, if_pos (show (0 : Int32) = 0 from rfl), p1, bd_some, show F_X7_error x_er_f (2 : Int32) = _ from x_err2 x_er_f, bd_some]
  have hM : F_X8_fits m_mfit m_known m_row_f m_errs_f m_bitsOf_f m_sizeOf_f m_cels_f m_broken_f m_isFit_f m_breaks_f (nI q) (nI b) = B_X8_fits_53 m_errs_f m_sizeOf_f m_cels_f m_broken_f (nI q) (nI b) (nI (cntF m_row_f), nI 1, i1, b1) kk (nI ((List.range 729).countP fun v => fitP m_row_f v && tabB nf n v), le, nI 0 - nI 1) := by
    unfold F_X8_fits
    rw [isSh_Y hq, bd_some, if_neg (show ¬ nI 1 = 0 from by decide), hw8, bd_some, if_neg (show ¬ nI 1 = 0 from by decide), if_neg gq, nI_clamp (by omega), if_neg (show ¬ m_bitsOf_f q = 0 from fun e => h0 (hbo ▸ e)), r1, bd_some]
    exact hlp
  unfold B_X8_fits_53 at hM
  rw [if_pos (show (nI ((List.range 729).countP fun v => fitP m_row_f v && tabB nf n v), le, nI 0 - nI 1).2.2 < 0 from neg1lt)] at hM
  have hcle := cP_le (fun v => fitP m_row_f v && tabB nf n v) 729
  by_cases hb0 : nI b = 0
  · rw [if_pos hb0] at hX hM
    exact ⟨_, _, hX, hM, rfl, iF1, iE⟩
  · rw [if_neg hb0] at hX hM
    rcases hle with ⟨a1, a2⟩ | ⟨L, a1, a2, a3, a4⟩
    · have hc0 : (List.range 729).countP (fun v => fitP m_row_f v && tabB nf n v) = 0 := by
        rw [List.countP_eq_zero]
        intro v hv
        rw [a2 v (List.mem_range.mp hv)]
        simp
      rw [hc0, if_pos (show nI 0 = 0 from rfl)] at hX
      rw [if_neg (show ¬ 0 ≤ (nI ((List.range 729).countP fun v => fitP m_row_f v && tabB nf n v), le, nI 0 - nI 1).2.1 from by show ¬ 0 ≤ le; rw [a1]; exact (by decide : ¬ 0 ≤ -(nI 1))), show F_X8_error m_errs_f (-1000000002 : Int32) = _ from m_err2 m_errs_f, bd_some] at hM
      exact ⟨_, _, hX, hM, rfl, iF1, iE.err 2⟩
    · have hc0 : ¬ (List.range 729).countP (fun v => fitP m_row_f v && tabB nf n v) = 0 := by
        rw [List.countP_eq_zero]
        intro h
        exact h L (List.mem_range.mpr a2) a3
      obtain ⟨L', g1, g2, g3, g4⟩ := p2 ⟨L, a2, a3⟩
      have eL : L' = L := by
        rcases Nat.lt_trichotomy L' L with h | h | h
        · rw [a4 L' h] at g3; cases g3
        · exact h
        · rw [g4 L h] at a3; cases a3
      subst eL
      rw [if_neg (show ¬ nI ((List.range 729).countP fun v => fitP m_row_f v && tabB nf n v) = 0 from nI_ne0 (by omega) (by omega)), g1, bd_some] at hX
      rw [if_pos (show 0 ≤ (nI ((List.range 729).countP fun v => fitP m_row_f v && tabB nf n v), le, nI 0 - nI 1).2.1 from by show 0 ≤ le; rw [a1]; exact nI_pos' (by omega))] at hM
      exact ⟨_, _, hX, hM, a1.symm, iF1, iE⟩
theorem k_fits_out (iF : IvF m_row_f x_fitting x_fit_f x_counted_f m_mfit m_known m_isFit_f m_breaks_f) (iE : IvE x_er_f m_errs_f) (si : Int32) (wh : Int32) (h : si < 0 ∨ nI 4 ≤ si) : ∃ (u : (Int32 × (Nat → Int32))) (w : (Int32 × Int32 × Int32 × (Nat → Int32) × (Nat → Int32) × (Nat → Int32))), F_X7_fits_out x_er_f si = some u ∧ F_X8_fits m_mfit m_known m_row_f m_errs_f m_bitsOf_f m_sizeOf_f m_cels_f m_broken_f m_isFit_f m_breaks_f si wh = some w ∧ u.1 = w.1 ∧ IvF m_row_f x_fitting x_fit_f x_counted_f w.2.1 w.2.2.1 w.2.2.2.2.1 w.2.2.2.2.2 ∧ IvE u.2 w.2.2.2.1 := by
  refine ⟨(-(nI 1000000001), upd x_er_f 1 (x_er_f 1 + nI 1)), (-(nI 1000000001), m_mfit, m_known, upd m_errs_f 1 (m_errs_f 1 + nI 1), m_isFit_f, m_breaks_f), ?_, ?_, rfl, iF, iE.err 1⟩
  · unfold F_X7_fits_out
    simp (disch := omega) only [l0, l1, l2, l3, l4, l5, l6, l7, l8, l9, l10, l11, l12, l13, l14, l15, l16, l17, l18, l19, l20, l21, l22, l23, l24, l25, l26, l27, l28, l29, l30, l32, l33, l37, l38, l40, l41, l42, l43, l45, l47, l48, l57, l58, l60, l61, l62, l63, l64, l69, l70, l74, l88, l91, l96, l97, l98, l99, l100, l102, l115, l116, l121, l124, l134, l158, l279, l255, l400, l728, l729, l9999, l99999, l12345, l1103515245, l1000000000, l1000000001, l1000000002, l1000000003, l1000000004, l1000000005, l1000000006, pk_us, nI_add, pk_mul, pk_sub, pk_div, nI_clamp, nI_ltI, nI_leI, nI_eq, bd_some, Nat.not_lt_zero, false_or, or_false, true_or, or_true, if_pos, if_neg, ite_true, ite_false, if_true, if_false, Nat.add_zero, shOut h, x_err1]
  · unfold F_X8_fits
    rw [isSh_N h, bd_some, if_pos (show nI 0 = 0 from rfl), show F_X8_error m_errs_f (-1000000001 : Int32) = _ from m_err1 m_errs_f, bd_some]
end
theorem st_fits (G : xG) (tx : Nat) (wx : Nat → Nat) (tm : Nat) (wm : Nat → Nat) (a0 : Int32) (a1 : Int32) : StpI G tx wx tm wm yX7_fits (Cond.code yX7_fits cX7_fits 5 (some .int)) yX8_fits (Cond.code yX8_fits cX8_fits 7 (some .int)) [.int a0, .int a1] := by
  intro c ws hc h
  refine h.on (fun x_hasI x_imgs x_vow x_day x_worth x_z x_kinds_m x_kinds_f x_ms_m x_ms_f x_said_m x_said_f x_signs_m x_signs_f x_tape_m x_tape_f x_avo_m x_avo_f x_tal_m x_tal_f x_wai_m x_wai_f x_kp_vow x_kp_day x_kp_worth x_kp_z x_kp_kinds_m x_kp_kinds_f x_kp_ms_m x_kp_ms_f x_kp_said_m x_kp_said_f x_kp_signs_m x_kp_signs_f x_kp_tape_m x_kp_tape_f x_kp_avo_m x_kp_avo_f x_kp_tal_m x_kp_tal_f x_kp_wai_m x_kp_wai_f x_fitting x_spread_f x_breakers_f x_fit_f x_counted_f x_kk x_rat x_flt x_codes_m x_codes_f x_stack_m x_stack_f x_parted x_vkk x_vkd x_vmm x_trace_m x_trace_f x_er_f x_bits0 x_num0_m x_num0_f x_bits1 x_num1_m x_num1_f x_bits2 x_num2_m x_num2_f x_bits3 x_num3_m x_num3_f m_images m_mfit m_known m_laid m_hre m_opnd m_bad m_usg m_trcd m_isP m_row_f m_kpt_f m_errs_f m_bitsOf_f m_sizeOf_f m_cels_f m_broken_f m_isFit_f m_breaks_f m_act_f m_wth_f m_facts_f m_pile_f m_trc_f hW hI => ?_)
  subst hW
  obtain ⟨iS, iV, iF, iR, iE, iH0, iH1, iH2, iH3, iK⟩ := hI
  have jK : ∃ k : Nat, k ≤ c + 1 ∧ x_imgs = nI k ∧ m_images = nI k ∧ (x_hasI = if k = 0 then nI 0 else nI 1) ∧ (k ≠ 0 → IvS x_kp_vow x_kp_day x_kp_worth x_kp_z x_kp_kinds_m x_kp_kinds_f x_kp_ms_m x_kp_ms_f x_kp_said_m x_kp_said_f x_kp_signs_m x_kp_signs_f x_kp_tape_m x_kp_tape_f x_kp_avo_m x_kp_avo_f x_kp_tal_m x_kp_tal_f x_kp_wai_m x_kp_wai_f m_kpt_f) := by
    obtain ⟨k, hk, q⟩ := iK
    exact ⟨k, by omega, q⟩
  rcases ix a0 4 (by omega) with hs | ⟨q, hq, rfl⟩
  · obtain ⟨u, w, e1, e2, e3, jF, jE⟩ := k_fits_out iF iE a0 a1 hs
    exact s_fits_out G tx wx tm wm x_hasI x_imgs x_vow x_day x_worth x_z x_kinds_m x_kinds_f x_ms_m x_ms_f x_said_m x_said_f x_signs_m x_signs_f x_tape_m x_tape_f x_avo_m x_avo_f x_tal_m x_tal_f x_wai_m x_wai_f x_kp_vow x_kp_day x_kp_worth x_kp_z x_kp_kinds_m x_kp_kinds_f x_kp_ms_m x_kp_ms_f x_kp_said_m x_kp_said_f x_kp_signs_m x_kp_signs_f x_kp_tape_m x_kp_tape_f x_kp_avo_m x_kp_avo_f x_kp_tal_m x_kp_tal_f x_kp_wai_m x_kp_wai_f x_fitting x_spread_f x_breakers_f x_fit_f x_counted_f x_kk x_rat x_flt x_codes_m x_codes_f x_stack_m x_stack_f x_parted x_vkk x_vkd x_vmm x_trace_m x_trace_f x_er_f x_bits0 x_num0_m x_num0_f x_bits1 x_num1_m x_num1_f x_bits2 x_num2_m x_num2_f x_bits3 x_num3_m x_num3_f m_images m_mfit m_known m_laid m_hre m_opnd m_bad m_usg m_trcd m_isP m_row_f m_kpt_f m_errs_f m_bitsOf_f m_sizeOf_f m_cels_f m_broken_f m_isFit_f m_breaks_f m_act_f m_wth_f m_facts_f m_pile_f m_trc_f a0 a1 u w e1 e2 e3 ⟨iS, iV, jF, iR, jE, iH0, iH1, iH2, iH3, jK⟩
  · rcases (show q = 0 ∨ q = 1 ∨ q = 2 ∨ q = 3 by omega) with rfl | rfl | rfl | rfl
    · obtain ⟨u, w, e1, e2, e3, jF, jE⟩ := g_fits (q := 0) (by omega) iS iV iF iE iH0 a1
      exact s_fits_in_s0 G tx wx tm wm x_hasI x_imgs x_vow x_day x_worth x_z x_kinds_m x_kinds_f x_ms_m x_ms_f x_said_m x_said_f x_signs_m x_signs_f x_tape_m x_tape_f x_avo_m x_avo_f x_tal_m x_tal_f x_wai_m x_wai_f x_kp_vow x_kp_day x_kp_worth x_kp_z x_kp_kinds_m x_kp_kinds_f x_kp_ms_m x_kp_ms_f x_kp_said_m x_kp_said_f x_kp_signs_m x_kp_signs_f x_kp_tape_m x_kp_tape_f x_kp_avo_m x_kp_avo_f x_kp_tal_m x_kp_tal_f x_kp_wai_m x_kp_wai_f x_fitting x_spread_f x_breakers_f x_fit_f x_counted_f x_kk x_rat x_flt x_codes_m x_codes_f x_stack_m x_stack_f x_parted x_vkk x_vkd x_vmm x_trace_m x_trace_f x_er_f x_bits0 x_num0_m x_num0_f x_bits1 x_num1_m x_num1_f x_bits2 x_num2_m x_num2_f x_bits3 x_num3_m x_num3_f m_images m_mfit m_known m_laid m_hre m_opnd m_bad m_usg m_trcd m_isP m_row_f m_kpt_f m_errs_f m_bitsOf_f m_sizeOf_f m_cels_f m_broken_f m_isFit_f m_breaks_f m_act_f m_wth_f m_facts_f m_pile_f m_trc_f (nI 0) a1 rfl u w e1 e2 e3 ⟨iS, iV, jF, iR, jE, iH0, iH1, iH2, iH3, jK⟩
    · obtain ⟨u, w, e1, e2, e3, jF, jE⟩ := g_fits (q := 1) (by omega) iS iV iF iE iH1 a1
      exact s_fits_in_s1 G tx wx tm wm x_hasI x_imgs x_vow x_day x_worth x_z x_kinds_m x_kinds_f x_ms_m x_ms_f x_said_m x_said_f x_signs_m x_signs_f x_tape_m x_tape_f x_avo_m x_avo_f x_tal_m x_tal_f x_wai_m x_wai_f x_kp_vow x_kp_day x_kp_worth x_kp_z x_kp_kinds_m x_kp_kinds_f x_kp_ms_m x_kp_ms_f x_kp_said_m x_kp_said_f x_kp_signs_m x_kp_signs_f x_kp_tape_m x_kp_tape_f x_kp_avo_m x_kp_avo_f x_kp_tal_m x_kp_tal_f x_kp_wai_m x_kp_wai_f x_fitting x_spread_f x_breakers_f x_fit_f x_counted_f x_kk x_rat x_flt x_codes_m x_codes_f x_stack_m x_stack_f x_parted x_vkk x_vkd x_vmm x_trace_m x_trace_f x_er_f x_bits0 x_num0_m x_num0_f x_bits1 x_num1_m x_num1_f x_bits2 x_num2_m x_num2_f x_bits3 x_num3_m x_num3_f m_images m_mfit m_known m_laid m_hre m_opnd m_bad m_usg m_trcd m_isP m_row_f m_kpt_f m_errs_f m_bitsOf_f m_sizeOf_f m_cels_f m_broken_f m_isFit_f m_breaks_f m_act_f m_wth_f m_facts_f m_pile_f m_trc_f (nI 1) a1 rfl u w e1 e2 e3 ⟨iS, iV, jF, iR, jE, iH0, iH1, iH2, iH3, jK⟩
    · obtain ⟨u, w, e1, e2, e3, jF, jE⟩ := g_fits (q := 2) (by omega) iS iV iF iE iH2 a1
      exact s_fits_in_s2 G tx wx tm wm x_hasI x_imgs x_vow x_day x_worth x_z x_kinds_m x_kinds_f x_ms_m x_ms_f x_said_m x_said_f x_signs_m x_signs_f x_tape_m x_tape_f x_avo_m x_avo_f x_tal_m x_tal_f x_wai_m x_wai_f x_kp_vow x_kp_day x_kp_worth x_kp_z x_kp_kinds_m x_kp_kinds_f x_kp_ms_m x_kp_ms_f x_kp_said_m x_kp_said_f x_kp_signs_m x_kp_signs_f x_kp_tape_m x_kp_tape_f x_kp_avo_m x_kp_avo_f x_kp_tal_m x_kp_tal_f x_kp_wai_m x_kp_wai_f x_fitting x_spread_f x_breakers_f x_fit_f x_counted_f x_kk x_rat x_flt x_codes_m x_codes_f x_stack_m x_stack_f x_parted x_vkk x_vkd x_vmm x_trace_m x_trace_f x_er_f x_bits0 x_num0_m x_num0_f x_bits1 x_num1_m x_num1_f x_bits2 x_num2_m x_num2_f x_bits3 x_num3_m x_num3_f m_images m_mfit m_known m_laid m_hre m_opnd m_bad m_usg m_trcd m_isP m_row_f m_kpt_f m_errs_f m_bitsOf_f m_sizeOf_f m_cels_f m_broken_f m_isFit_f m_breaks_f m_act_f m_wth_f m_facts_f m_pile_f m_trc_f (nI 2) a1 rfl u w e1 e2 e3 ⟨iS, iV, jF, iR, jE, iH0, iH1, iH2, iH3, jK⟩
    · obtain ⟨u, w, e1, e2, e3, jF, jE⟩ := g_fits (q := 3) (by omega) iS iV iF iE iH3 a1
      exact s_fits_in_s3 G tx wx tm wm x_hasI x_imgs x_vow x_day x_worth x_z x_kinds_m x_kinds_f x_ms_m x_ms_f x_said_m x_said_f x_signs_m x_signs_f x_tape_m x_tape_f x_avo_m x_avo_f x_tal_m x_tal_f x_wai_m x_wai_f x_kp_vow x_kp_day x_kp_worth x_kp_z x_kp_kinds_m x_kp_kinds_f x_kp_ms_m x_kp_ms_f x_kp_said_m x_kp_said_f x_kp_signs_m x_kp_signs_f x_kp_tape_m x_kp_tape_f x_kp_avo_m x_kp_avo_f x_kp_tal_m x_kp_tal_f x_kp_wai_m x_kp_wai_f x_fitting x_spread_f x_breakers_f x_fit_f x_counted_f x_kk x_rat x_flt x_codes_m x_codes_f x_stack_m x_stack_f x_parted x_vkk x_vkd x_vmm x_trace_m x_trace_f x_er_f x_bits0 x_num0_m x_num0_f x_bits1 x_num1_m x_num1_f x_bits2 x_num2_m x_num2_f x_bits3 x_num3_m x_num3_f m_images m_mfit m_known m_laid m_hre m_opnd m_bad m_usg m_trcd m_isP m_row_f m_kpt_f m_errs_f m_bitsOf_f m_sizeOf_f m_cels_f m_broken_f m_isFit_f m_breaks_f m_act_f m_wth_f m_facts_f m_pile_f m_trc_f (nI 3) a1 rfl u w e1 e2 e3 ⟨iS, iV, jF, iR, jE, iH0, iH1, iH2, iH3, jK⟩
