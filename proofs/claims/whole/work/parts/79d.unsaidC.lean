/-! PURE: unsaid -/
section
variable {c : Nat} {x_hasI : Int32} {x_imgs : Int32} {x_vow : Int32} {x_day : Int32} {x_worth : Int32} {x_z : Int32} {x_kinds_m : Int32} {x_kinds_f : Nat → Int32} {x_ms_m : Int32} {x_ms_f : Nat → Int32} {x_said_m : Int32} {x_said_f : Nat → Int32} {x_signs_m : Int32} {x_signs_f : Nat → Int32} {x_tape_m : Int32} {x_tape_f : Nat → Int32} {x_avo_m : Int32} {x_avo_f : Nat → Int32} {x_tal_m : Int32} {x_tal_f : Nat → Int32} {x_wai_m : Int32} {x_wai_f : Nat → Int32} {x_kp_vow : Int32} {x_kp_day : Int32} {x_kp_worth : Int32} {x_kp_z : Int32} {x_kp_kinds_m : Int32} {x_kp_kinds_f : Nat → Int32} {x_kp_ms_m : Int32} {x_kp_ms_f : Nat → Int32} {x_kp_said_m : Int32} {x_kp_said_f : Nat → Int32} {x_kp_signs_m : Int32} {x_kp_signs_f : Nat → Int32} {x_kp_tape_m : Int32} {x_kp_tape_f : Nat → Int32} {x_kp_avo_m : Int32} {x_kp_avo_f : Nat → Int32} {x_kp_tal_m : Int32} {x_kp_tal_f : Nat → Int32} {x_kp_wai_m : Int32} {x_kp_wai_f : Nat → Int32} {x_fitting : Int32} {x_spread_f : Nat → Int32} {x_breakers_f : Nat → Int64} {x_fit_f : Nat → Int32} {x_counted_f : Nat → Int32} {x_kk : Nat} {x_rat : Int32} {x_flt : Int32} {x_codes_m : Int32} {x_codes_f : Nat → Int32} {x_stack_m : Int32} {x_stack_f : Nat → Int32} {x_parted : Int32} {x_vkk : Int32} {x_vkd : Int32} {x_vmm : Int32} {x_trace_m : Int32} {x_trace_f : Nat → Int32} {x_er_f : Nat → Int32} {x_bits0 : Int32} {x_num0_m : Int32} {x_num0_f : Nat → Int32} {x_bits1 : Int32} {x_num1_m : Int32} {x_num1_f : Nat → Int32} {x_bits2 : Int32} {x_num2_m : Int32} {x_num2_f : Nat → Int32} {x_bits3 : Int32} {x_num3_m : Int32} {x_num3_f : Nat → Int32} {m_images : Int32} {m_mfit : Int32} {m_known : Int32} {m_laid : Int32} {m_hre : Int32} {m_opnd : Int32} {m_bad : Int32} {m_usg : Int32} {m_trcd : Int32} {m_isP : Int32} {m_row_f : Nat → Int32} {m_kpt_f : Nat → Int32} {m_errs_f : Nat → Int32} {m_bitsOf_f : Nat → Int32} {m_sizeOf_f : Nat → Int32} {m_cels_f : Nat → Int32} {m_broken_f : Nat → Int64} {m_isFit_f : Nat → Int32} {m_breaks_f : Nat → Int32} {m_act_f : Nat → Int32} {m_wth_f : Nat → Int32} {m_facts_f : Nat → Int32} {m_pile_f : Nat → Int32} {m_trc_f : Nat → Int32}
theorem bx {n b : Nat} (hb : b < n) {Q : Nat → Bool} (hQ : ∀ s, s < 64 → ∀ (counted : Nat → Int32) (sm : Int32) (sf : Nat → Int32), CtV m_row_f counted → ∃ (counted' : Nat → Int32) (sm' : Int32) (sf' : Nat → Int32), F_X7_isAvoided x_day x_kinds_m x_kinds_f x_ms_m x_ms_f x_avo_m x_avo_f (nI (cntF m_row_f)) x_spread_f x_fit_f counted sm sf (nI b) (nI s) = some (bI (Q s), counted', sm', sf') ∧ CtV m_row_f counted') {counted : Nat → Int32} {sm : Int32} {sf : Nat → Int32} (hC : CtV m_row_f counted) : ∃ (set : Int64) (c' : Nat → Int32) (sm' : Int32) (sf' : Nat → Int32), F_X7_avoided x_day x_kinds_m x_kinds_f x_ms_m x_ms_f x_avo_m x_avo_f (nI (cntF m_row_f)) x_spread_f x_fit_f counted sm sf (nI b) = some (set, c', sm', sf') ∧ CtV m_row_f c' ∧ ∀ i, i < 64 → set.toBitVec.getLsbD i = Q i := by
  unfold F_X7_avoided
  refine lp_go (fun j (s : Int64 × Int32 × (Nat → Int32) × Int32 × (Nat → Int32)) => s.2.1 = nI j ∧ (∀ i, i < 64 → s.1.toBitVec.getLsbD i = (decide (i < j) && Q i)) ∧ CtV m_row_f s.2.2.1) (fun o => ∃ (set : Int64) (c' : Nat → Int32) (sm' : Int32) (sf' : Nat → Int32), o = some (set, c', sm', sf') ∧ CtV m_row_f c' ∧ ∀ i, i < 64 → set.toBitVec.getLsbD i = Q i) 64 (by omega) ⟨rfl, fun i _ => by show (0#64).getLsbD i = _; simp, hC⟩ ?_ ?_
  · rintro j ⟨s1, s2, s3, s4, s5⟩ hj ⟨h1, h3, h5⟩
    dsimp only at h1 h3 h5
    subst h1
    have hlt : ¬ (64 : Int32) ≤ nI j := by rw [l64]; exact nI_ge hj (by omega)
    obtain ⟨c3, sm3, sf3, q1, q2⟩ := hQ j hj s3 s4 s5 h5
    cases hq : Q j with
    | true =>
      rw [hq] at q1
      refine Or.inr ⟨(s1 ||| ((1 : Int64) <<< ((nI j).toInt64 &&& 63)), nI (j + 1), c3, sm3, sf3), ⟨rfl, fun i hi => ?_, q2⟩, fun k => ?_⟩
      · dsimp only
        rw [bit_or1 hj, h3 i hi]
        by_cases e : i = j
        · subst e; simp [hq]
        · rw [show decide (i < j + 1) = decide (i < j) from by rw [decide_eq_decide]; omega]
          simp [e]
      · unfold B_X7_avoided_5
        rw [if_neg hlt]
        dsimp only
        rw [q1, bd_some, if_neg (show ¬ (bI true, c3, sm3, sf3).1 = 0 from (by decide : ¬ nI 1 = 0)), l1, nI_add]
    | false =>
      rw [hq] at q1
      refine Or.inr ⟨(s1, nI (j + 1), c3, sm3, sf3), ⟨rfl, fun i hi => ?_, q2⟩, fun k => ?_⟩
      · dsimp only
        rw [h3 i hi]
        by_cases e : i = j
        · subst e; simp [hq]
        · rw [show decide (i < j + 1) = decide (i < j) from by rw [decide_eq_decide]; omega]
      · unfold B_X7_avoided_5
        rw [if_neg hlt]
        dsimp only
        rw [q1, bd_some, if_pos (show (bI false, c3, sm3, sf3).1 = 0 from rfl), l1, nI_add]
  · rintro ⟨s1, s2, s3, s4, s5⟩ ⟨h1, h3, h5⟩ k
    dsimp only at h1 h3 h5
    subst h1
    refine ⟨s1, s3, s4, s5, ?_, h5, fun i hi => by rw [h3 i hi, decide_eq_true hi, Bool.true_and]⟩
    unfold B_X7_avoided_5
    rw [if_pos (show (64 : Int32) ≤ nI 64 from by decide)]
def allQ (Q : Nat → Nat → Bool) (n s : Nat) : Bool := (List.range n).all fun b => Q b s
theorem mx {n s : Nat} (h2 : m_row_f 2 = nI n) (hn : n ≤ 6) {Q : Nat → Nat → Bool} (hs : s < 64) (hQ : ∀ b, b < n → ∀ (mfit known : Int32) (isFit breaks facts pile : Nat → Int32), KnV m_row_f mfit known isFit breaks → ∃ isFit' breaks' facts' pile' : Nat → Int32, F_X8_doesAvoid mfit known m_row_f m_broken_f isFit breaks facts pile (nI b) (nI s) = some (bI (Q b s), nI (cntF m_row_f), nI 1, isFit', breaks', facts', pile') ∧ KnV m_row_f (nI (cntF m_row_f)) (nI 1) isFit' breaks') (st : Int64) (st0 : Int32) (hst0 : st0 = bI (decide (0 < n))) {mfit known : Int32} {isFit breaks facts pile : Nat → Int32} (hK : KnV m_row_f mfit known isFit breaks) : ∃ x : Int64 × Int32 × Int32 × Int32 × (Nat → Int32) × (Nat → Int32) × (Nat → Int32) × (Nat → Int32), (x.1 = st ||| (if decide (0 < n) && allQ Q n s then (1 : Int64) <<< ((nI s).toInt64 &&& 63) else 0) ∧ x.2.1 = nI (s + 1) ∧ KnV m_row_f x.2.2.1 x.2.2.2.1 x.2.2.2.2.1 x.2.2.2.2.2.1) ∧ ∀ c, lp (B_X8_unsaid_48 m_row_f m_broken_f c st (nI s)) fuelC (st0, nI 0, mfit, known, isFit, breaks, facts, pile) = c x := by
  have z2' : (2 : Int32).toNatClampNeg = 2 := by decide +kernel
  refine lp_kk (body := fun c => B_X8_unsaid_48 m_row_f m_broken_f c st (nI s)) (fun j (t : Int32 × Int32 × Int32 × Int32 × (Nat → Int32) × (Nat → Int32) × (Nat → Int32) × (Nat → Int32)) => t.1 = bI (decide (0 < n) && allQ Q j s) ∧ t.2.1 = nI j ∧ KnV m_row_f t.2.2.1 t.2.2.2.1 t.2.2.2.2.1 t.2.2.2.2.2.1) (fun x => x.1 = st ||| (if decide (0 < n) && allQ Q n s then (1 : Int64) <<< ((nI s).toInt64 &&& 63) else 0) ∧ x.2.1 = nI (s + 1) ∧ KnV m_row_f x.2.2.1 x.2.2.2.1 x.2.2.2.2.1 x.2.2.2.2.2.1) n ?_ ?_ fuelC 0 _ (Nat.zero_le _) (by unfold fuelC; omega) ⟨by dsimp only; rw [hst0]; congr 1; show _ = (decide (0 < n) && true); rw [Bool.and_true], rfl, hK⟩
  · rintro j ⟨t1, t2, t3, t4, t5, t6, t7, t8⟩ hj ⟨h1, h3, h4⟩
    dsimp only at h1 h3 h4
    subst h3
    have hlt : ¬ m_row_f (2 : Int32).toNatClampNeg ≤ nI j := by rw [z2', h2]; exact nI_ge hj (by omega)
    have h0n : decide (0 < n) = true := decide_eq_true (by omega)
    rw [h0n, Bool.true_and] at h1
    cases ha : allQ Q j s with
    | false =>
      rw [ha] at h1
      have hfin : allQ Q n s = false := by
        unfold allQ at ha ⊢
        rw [List.all_eq_false] at ha ⊢
        obtain ⟨x, hx1, hx2⟩ := ha
        exact ⟨x, List.mem_range.mpr (by have := List.mem_range.mp hx1; omega), hx2⟩
      refine Or.inl ⟨(st ||| (0 : Int64), nI (s + 1), t3, t4, t5, t6, t7, t8), ⟨by rw [h0n, hfin]; rfl, rfl, h4⟩, fun c k => ?_⟩
      unfold B_X8_unsaid_48
      rw [if_neg hlt, if_pos (show t1 = 0 from h1), if_pos (show t1 = 0 from h1), l1, nI_add]
    | true =>
      rw [ha] at h1
      obtain ⟨i3, b3, fa3, pl3, q3, q4⟩ := hQ j hj t3 t4 t5 t6 t7 t8 h4
      refine Or.inr ⟨(bI (Q j s), nI (j + 1), nI (cntF m_row_f), nI 1, i3, b3, fa3, pl3), ⟨?_, rfl, q4⟩, fun c k => ?_⟩
      · dsimp only
        rw [h0n, Bool.true_and]
        unfold allQ at ha ⊢
        rw [all_succ, ha, Bool.true_and]
      · unfold B_X8_unsaid_48
        rw [if_neg hlt, if_neg (show ¬ t1 = 0 from by rw [h1]; exact (by decide : ¬ nI 1 = 0))]
        dsimp only
        rw [q3, bd_some, l1, nI_add]
  · rintro ⟨t1, t2, t3, t4, t5, t6, t7, t8⟩ ⟨h1, h3, h4⟩
    dsimp only at h1 h3 h4
    subst h3
    have hle : m_row_f (2 : Int32).toNatClampNeg ≤ nI n := by rw [z2', h2]; exact nI_le (Nat.le_refl _) (by omega)
    cases hq : (decide (0 < n) && allQ Q n s) with
    | false =>
      rw [hq] at h1
      refine ⟨(st ||| (0 : Int64), nI (s + 1), t3, t4, t5, t6, t7, t8), ⟨rfl, rfl, h4⟩, fun c k => ?_⟩
      unfold B_X8_unsaid_48
      rw [if_pos hle, if_pos (show t1 = 0 from h1), l1, nI_add]
    | true =>
      rw [hq] at h1
      refine ⟨(st ||| ((1 : Int64) <<< ((nI s).toInt64 &&& 63)), nI (s + 1), t3, t4, t5, t6, t7, t8), ⟨rfl, rfl, h4⟩, fun c k => ?_⟩
      unfold B_X8_unsaid_48
      rw [if_pos hle, if_neg (show ¬ t1 = 0 from by rw [h1]; exact (by decide : ¬ nI 1 = 0)), l1, nI_add]
theorem k_unsaid (iS : IvS x_vow x_day x_worth x_z x_kinds_m x_kinds_f x_ms_m x_ms_f x_said_m x_said_f x_signs_m x_signs_f x_tape_m x_tape_f x_avo_m x_avo_f x_tal_m x_tal_f x_wai_m x_wai_f m_row_f) (iV : IvV x_spread_f x_breakers_f m_broken_f) (iF : IvF m_row_f x_fitting x_fit_f x_counted_f m_mfit m_known m_isFit_f m_breaks_f) (iE : IvE x_er_f m_errs_f) (wh : Int32) : ∃ (u : (Int64 × (Nat → Int32) × Int32 × (Nat → Int32) × (Nat → Int32))) (w : (Int64 × Int32 × Int32 × (Nat → Int32) × (Nat → Int32) × (Nat → Int32) × (Nat → Int32) × (Nat → Int32))), F_X7_unsaid x_day x_kinds_m x_kinds_f x_ms_m x_ms_f x_avo_m x_avo_f x_fitting x_spread_f x_fit_f x_counted_f x_stack_m x_stack_f x_er_f wh = some u ∧ F_X8_unsaid m_mfit m_known m_row_f m_errs_f m_broken_f m_isFit_f m_breaks_f m_facts_f m_pile_f wh = some w ∧ u.1 = w.1 ∧ IvF m_row_f x_fitting x_fit_f u.2.1 w.2.1 w.2.2.1 w.2.2.2.2.1 w.2.2.2.2.2.1 ∧ IvE u.2.2.2.2 w.2.2.2.1 := by
  have iF0 := iF
  obtain ⟨hF, hf, hC, hK⟩ := iF0
  have iB := iS.2.1
  obtain ⟨n, hB, b1, b2, b3, b4, b5⟩ := iB
  have z2' : (2 : Int32).toNatClampNeg = 2 := by decide +kernel
  rcases ix wh 2 (by omega) with h | ⟨y, hy, rfl⟩
  · refine ⟨((-(nI 1000000001)).toInt64, x_counted_f, x_stack_m, x_stack_f, upd x_er_f 1 (x_er_f 1 + nI 1)), ((-(nI 1000000001)).toInt64, m_mfit, m_known, upd m_errs_f 1 (m_errs_f 1 + nI 1), m_isFit_f, m_breaks_f, m_facts_f, m_pile_f), ?_, ?_, rfl, iF, iE.err 1⟩
    · unfold F_X7_unsaid
      rw [show F_X7_within wh (0 : Int32) (1 : Int32) = _ from w_N (M := 1) h (by omega), bd_some, if_pos (show nI 0 = 0 from rfl), show F_X7_error x_er_f (1 : Int32) = _ from x_err1 x_er_f, bd_some]
    · unfold F_X8_unsaid
      rw [show F_X8_in wh (0 : Int32) (1 : Int32) = _ from w_N (M := 1) h (by omega), bd_some, if_pos (show nI 0 = 0 from rfl), show F_X8_error m_errs_f (-1000000001 : Int32) = _ from m_err1 m_errs_f, bd_some]
  have hw7 : F_X7_within (nI y) (0 : Int32) (1 : Int32) = some (nI 1) := w_Y (M := 1) (show y ≤ 1 by omega) (by omega)
  have hw8 : F_X8_in (nI y) (0 : Int32) (1 : Int32) = some (nI 1) := hw7
  have hex : ∀ b s, ∃ q : Bool, b < n → s < 64 → (∀ (counted : Nat → Int32) (sm : Int32) (sf : Nat → Int32), CtV m_row_f counted → ∃ (counted' : Nat → Int32) (sm' : Int32) (sf' : Nat → Int32), F_X7_isAvoided x_day x_kinds_m x_kinds_f x_ms_m x_ms_f x_avo_m x_avo_f (nI (cntF m_row_f)) x_spread_f x_fit_f counted sm sf (nI b) (nI s) = some (bI q, counted', sm', sf') ∧ CtV m_row_f counted') ∧ ∀ (mfit known : Int32) (isFit breaks facts pile : Nat → Int32), KnV m_row_f mfit known isFit breaks → ∃ isFit' breaks' facts' pile' : Nat → Int32, F_X8_doesAvoid mfit known m_row_f m_broken_f isFit breaks facts pile (nI b) (nI s) = some (bI q, nI (cntF m_row_f), nI 1, isFit', breaks', facts', pile') ∧ KnV m_row_f (nI (cntF m_row_f)) (nI 1) isFit' breaks' := by
    intro b s
    by_cases hb : b < n
    · by_cases hs : s < 64
      · obtain ⟨q, v1, v2⟩ := av iS iV hF b4 hB hb hs
        exact ⟨q, fun _ _ => ⟨v1, v2⟩⟩
      · exact ⟨true, fun _ h => absurd h hs⟩
    · exact ⟨true, fun h _ => absurd h hb⟩
  obtain ⟨Q, hQ⟩ : ∃ Q : Nat → Nat → Bool, ∀ b s, b < n → s < 64 → (∀ (counted : Nat → Int32) (sm : Int32) (sf : Nat → Int32), CtV m_row_f counted → ∃ (counted' : Nat → Int32) (sm' : Int32) (sf' : Nat → Int32), F_X7_isAvoided x_day x_kinds_m x_kinds_f x_ms_m x_ms_f x_avo_m x_avo_f (nI (cntF m_row_f)) x_spread_f x_fit_f counted sm sf (nI b) (nI s) = some (bI (Q b s), counted', sm', sf') ∧ CtV m_row_f counted') ∧ ∀ (mfit known : Int32) (isFit breaks facts pile : Nat → Int32), KnV m_row_f mfit known isFit breaks → ∃ isFit' breaks' facts' pile' : Nat → Int32, F_X8_doesAvoid mfit known m_row_f m_broken_f isFit breaks facts pile (nI b) (nI s) = some (bI (Q b s), nI (cntF m_row_f), nI 1, isFit', breaks', facts', pile') ∧ KnV m_row_f (nI (cntF m_row_f)) (nI 1) isFit' breaks' :=
    ⟨fun b s => Classical.choose (hex b s), fun b s hb hs => Classical.choose_spec (hex b s) hb hs⟩
  subst hf
  have hX : ∃ (set : Int64) (c' : Nat → Int32) (sm' : Int32) (sf' : Nat → Int32), (∀ i, i < 64 → set.toBitVec.getLsbD i = (decide (0 < n) && allQ Q n i)) ∧ CtV m_row_f c' ∧ F_X7_unsaid x_day x_kinds_m x_kinds_f x_ms_m x_ms_f x_avo_m x_avo_f (nI (cntF m_row_f)) x_spread_f x_fit_f x_counted_f x_stack_m x_stack_f x_er_f (nI y) = (if nI y = 0 then some (set, c', sm', sf', x_er_f) else some ((nI ((List.range 64).countP fun i => set.toBitVec.getLsbD i)).toInt64, c', sm', sf', x_er_f)) := by
    have loop : ∀ set0 : Int64, (∀ i, i < 64 → set0.toBitVec.getLsbD i = decide (0 < n)) → ∃ (set : Int64) (c' : Nat → Int32) (sm' : Int32) (sf' : Nat → Int32), (∀ i, i < 64 → set.toBitVec.getLsbD i = (decide (0 < n) && allQ Q n i)) ∧ CtV m_row_f c' ∧ lp (B_X7_unsaid_37 x_day x_kinds_m x_kinds_f x_ms_m x_ms_f x_avo_m x_avo_f (nI (cntF m_row_f)) x_spread_f x_fit_f x_er_f (nI y)) fuelC (set0, (0 : Int32), x_counted_f, x_stack_m, x_stack_f) = (if nI y = 0 then some (set, c', sm', sf', x_er_f) else some ((nI ((List.range 64).countP fun i => set.toBitVec.getLsbD i)).toInt64, c', sm', sf', x_er_f)) := by
      intro set0 hs0
      refine lp_go (fun j (s : Int64 × Int32 × (Nat → Int32) × Int32 × (Nat → Int32)) => s.2.1 = nI j ∧ (∀ i, i < 64 → s.1.toBitVec.getLsbD i = (decide (0 < n) && allQ Q j i)) ∧ CtV m_row_f s.2.2.1) (fun o => ∃ (set : Int64) (c' : Nat → Int32) (sm' : Int32) (sf' : Nat → Int32), (∀ i, i < 64 → set.toBitVec.getLsbD i = (decide (0 < n) && allQ Q n i)) ∧ CtV m_row_f c' ∧ o = (if nI y = 0 then some (set, c', sm', sf', x_er_f) else some ((nI ((List.range 64).countP fun i => set.toBitVec.getLsbD i)).toInt64, c', sm', sf', x_er_f))) n (by omega) ⟨rfl, fun i hi => by rw [hs0 i hi]; show _ = (decide (0 < n) && true); rw [Bool.and_true], hC⟩ ?_ ?_
      · rintro j ⟨s1, s2, s3, s4, s5⟩ hj ⟨h1, h3, h5⟩
        dsimp only at h1 h3 h5
        subst h1
        obtain ⟨set, c', sm', sf', e1, e2, e3⟩ := bx (sm := s4) (sf := s5) hj (fun s hs => (hQ j s hj hs).1) h5
        refine Or.inr ⟨(s1 &&& set, nI (j + 1), c', sm', sf'), ⟨rfl, fun i hi => ?_, e2⟩, fun k => ?_⟩
        · dsimp only
          rw [Int64.toBitVec_and, BitVec.getLsbD_and, h3 i hi, e3 i hi, Bool.and_assoc]
          congr 1
          unfold allQ
          rw [all_succ]
        · unfold B_X7_unsaid_37 F_X3_brothers F_X1_many
          rw [bd_some, bd_some, if_neg (show ¬ x_kinds_m ≤ nI j from by rw [b1]; exact nI_ge hj (by omega))]
          dsimp only
          rw [e1, bd_some, l1, nI_add]
      · rintro ⟨s1, s2, s3, s4, s5⟩ ⟨h1, h3, h5⟩ k
        dsimp only at h1 h3 h5
        subst h1
        refine ⟨s1, s3, s4, s5, h3, h5, ?_⟩
        unfold B_X7_unsaid_37 F_X3_brothers F_X1_many
        rw [bd_some, bd_some, if_pos (show x_kinds_m ≤ nI n from by rw [b1]; exact nI_le (Nat.le_refl _) (by omega)), bcJ, bd_some]
    unfold F_X7_unsaid F_X3_brothers F_X1_many
    rw [hw7, bd_some, if_neg (show ¬ nI 1 = 0 from by decide), bd_some, bd_some]
    by_cases h0 : n = 0
    · rw [if_pos (show x_kinds_m ≤ 0 from by rw [b1, h0]; decide)]
      exact loop 0 (fun i _ => by rw [decide_eq_false (by omega)]; show (0#64).getLsbD i = false; simp)
    · rw [if_neg (show ¬ x_kinds_m ≤ 0 from by rw [b1]; exact nI_nle (by omega) (by omega))]
      exact loop (-1) (fun i hi => by rw [decide_eq_true (by omega)]; exact (by decide +kernel : ∀ i, i < 64 → (-1 : Int64).toBitVec.getLsbD i = true) i hi)
  have hM : ∃ (set : Int64) (mf' kn' : Int32) (i' b' fa' pl' : Nat → Int32), (∀ i, i < 64 → set.toBitVec.getLsbD i = (decide (0 < n) && allQ Q n i)) ∧ KnV m_row_f mf' kn' i' b' ∧ F_X8_unsaid m_mfit m_known m_row_f m_errs_f m_broken_f m_isFit_f m_breaks_f m_facts_f m_pile_f (nI y) = (if nI y = 0 then some (set, mf', kn', m_errs_f, i', b', fa', pl') else some ((nI ((List.range 64).countP fun i => set.toBitVec.getLsbD i)).toInt64, mf', kn', m_errs_f, i', b', fa', pl')) := by
    unfold F_X8_unsaid
    rw [hw8, bd_some, if_neg (show ¬ nI 1 = 0 from by decide)]
    refine lp_go (fun j (t : Int64 × Int32 × Int32 × Int32 × (Nat → Int32) × (Nat → Int32) × (Nat → Int32) × (Nat → Int32)) => t.2.1 = nI j ∧ (∀ i, i < 64 → t.1.toBitVec.getLsbD i = (decide (i < j) && (decide (0 < n) && allQ Q n i))) ∧ KnV m_row_f t.2.2.1 t.2.2.2.1 t.2.2.2.2.1 t.2.2.2.2.2.1) (fun o => ∃ (set : Int64) (mf' kn' : Int32) (i' b' fa' pl' : Nat → Int32), (∀ i, i < 64 → set.toBitVec.getLsbD i = (decide (0 < n) && allQ Q n i)) ∧ KnV m_row_f mf' kn' i' b' ∧ o = (if nI y = 0 then some (set, mf', kn', m_errs_f, i', b', fa', pl') else some ((nI ((List.range 64).countP fun i => set.toBitVec.getLsbD i)).toInt64, mf', kn', m_errs_f, i', b', fa', pl'))) 64 (by omega) ⟨rfl, fun i _ => by show (0#64).getLsbD i = _; simp, hK⟩ ?_ ?_
    · rintro j ⟨t1, t2, t3, t4, t5, t6, t7, t8⟩ hj ⟨h1, h3, h4⟩
      dsimp only at h1 h3 h4
      subst h1
      obtain ⟨⟨x1, x2, x3, x4, x5, x6, x7, x8⟩, ⟨g1, g2, g3⟩, g4⟩ := mx b4 hB (Q := Q) hj (fun b hb => (hQ b j hb hj).2) t1 (bI (decide (0 < n))) rfl (facts := t7) (pile := t8) h4
      dsimp only at g1 g2 g3
      refine Or.inr ⟨(x1, x2, x3, x4, x5, x6, x7, x8), ⟨g2, fun i hi => ?_, g3⟩, fun k => ?_⟩
      · dsimp only
        rw [g1]
        cases hq : (decide (0 < n) && allQ Q n j) with
        | true =>
          rw [if_pos rfl, bit_or1 hj, h3 i hi]
          by_cases e : i = j
          · subst e; simp [hq]
          · rw [show decide (i < j + 1) = decide (i < j) from by rw [decide_eq_decide]; omega]
            simp [e]
        | false =>
          rw [if_neg (by decide), or0, h3 i hi]
          by_cases e : i = j
          · subst e; rw [hq]; simp
          · rw [show decide (i < j + 1) = decide (i < j) from by rw [decide_eq_decide]; omega]
      · unfold B_X8_unsaid_22
        rw [if_neg (show ¬ (64 : Int32) ≤ nI j from by rw [l64]; exact nI_ge hj (by omega))]
        by_cases h0 : n = 0
        · have e0 : bI (decide (0 < n)) = (0 : Int32) := by rw [decide_eq_false (by omega)]; rfl
          rw [e0] at g4
          rw [if_pos (show m_row_f (2 : Int32).toNatClampNeg ≤ 0 from by rw [z2', b4, h0]; decide)]
          exact g4 k
        · have e0 : bI (decide (0 < n)) = (1 : Int32) := by rw [decide_eq_true (by omega)]; rfl
          rw [e0] at g4
          rw [if_neg (show ¬ m_row_f (2 : Int32).toNatClampNeg ≤ 0 from by rw [z2', b4]; exact nI_nle (by omega) (by omega))]
          exact g4 k
    · rintro ⟨t1, t2, t3, t4, t5, t6, t7, t8⟩ ⟨h1, h3, h4⟩ k
      dsimp only at h1 h3 h4
      subst h1
      refine ⟨t1, t3, t4, t5, t6, t7, t8, fun i hi => by rw [h3 i hi, decide_eq_true hi, Bool.true_and], h4, ?_⟩
      unfold B_X8_unsaid_22
      rw [if_pos (show (64 : Int32) ≤ nI 64 from by decide), bitsM, bd_some]
  obtain ⟨set, c', sm', sf', u1, u2, u3⟩ := hX
  obtain ⟨set2, mf', kn', i', b', fa', pl', w1, w2, w3⟩ := hM
  have es : set = set2 := by
    apply Int64.toBitVec_inj.mp
    apply BitVec.eq_of_getLsbD_eq
    intro i hi
    rw [u1 i hi, w1 i hi]
  subst es
  by_cases hc : nI y = 0
  · rw [if_pos hc] at u3 w3
    exact ⟨_, _, u3, w3, rfl, ⟨hF, rfl, u2, w2⟩, iE⟩
  · rw [if_neg hc] at u3 w3
    exact ⟨_, _, u3, w3, rfl, ⟨hF, rfl, u2, w2⟩, iE⟩
end
theorem st_unsaid (G : xG) (tx : Nat) (wx : Nat → Nat) (tm : Nat) (wm : Nat → Nat) (a0 : Int32) : StpL G tx wx tm wm yX7_unsaid (Cond.code yX7_unsaid cX7_unsaid 5 (some .long)) yX8_unsaid (Cond.code yX8_unsaid cX8_unsaid 7 (some .long)) [.int a0] := by
  intro c ws hc h
  refine h.on (fun x_hasI x_imgs x_vow x_day x_worth x_z x_kinds_m x_kinds_f x_ms_m x_ms_f x_said_m x_said_f x_signs_m x_signs_f x_tape_m x_tape_f x_avo_m x_avo_f x_tal_m x_tal_f x_wai_m x_wai_f x_kp_vow x_kp_day x_kp_worth x_kp_z x_kp_kinds_m x_kp_kinds_f x_kp_ms_m x_kp_ms_f x_kp_said_m x_kp_said_f x_kp_signs_m x_kp_signs_f x_kp_tape_m x_kp_tape_f x_kp_avo_m x_kp_avo_f x_kp_tal_m x_kp_tal_f x_kp_wai_m x_kp_wai_f x_fitting x_spread_f x_breakers_f x_fit_f x_counted_f x_kk x_rat x_flt x_codes_m x_codes_f x_stack_m x_stack_f x_parted x_vkk x_vkd x_vmm x_trace_m x_trace_f x_er_f x_bits0 x_num0_m x_num0_f x_bits1 x_num1_m x_num1_f x_bits2 x_num2_m x_num2_f x_bits3 x_num3_m x_num3_f m_images m_mfit m_known m_laid m_hre m_opnd m_bad m_usg m_trcd m_isP m_row_f m_kpt_f m_errs_f m_bitsOf_f m_sizeOf_f m_cels_f m_broken_f m_isFit_f m_breaks_f m_act_f m_wth_f m_facts_f m_pile_f m_trc_f hW hI => ?_)
  subst hW
  obtain ⟨iS, iV, iF, iR, iE, iH0, iH1, iH2, iH3, iK⟩ := hI
  have jK : ∃ k : Nat, k ≤ c + 1 ∧ x_imgs = nI k ∧ m_images = nI k ∧ (x_hasI = if k = 0 then nI 0 else nI 1) ∧ (k ≠ 0 → IvS x_kp_vow x_kp_day x_kp_worth x_kp_z x_kp_kinds_m x_kp_kinds_f x_kp_ms_m x_kp_ms_f x_kp_said_m x_kp_said_f x_kp_signs_m x_kp_signs_f x_kp_tape_m x_kp_tape_f x_kp_avo_m x_kp_avo_f x_kp_tal_m x_kp_tal_f x_kp_wai_m x_kp_wai_f m_kpt_f) := by
    obtain ⟨k, hk, q⟩ := iK
    exact ⟨k, by omega, q⟩
  obtain ⟨u, w, e1, e2, e3, jF, jE⟩ := k_unsaid iS iV iF iE a0
  exact s_unsaid G tx wx tm wm x_hasI x_imgs x_vow x_day x_worth x_z x_kinds_m x_kinds_f x_ms_m x_ms_f x_said_m x_said_f x_signs_m x_signs_f x_tape_m x_tape_f x_avo_m x_avo_f x_tal_m x_tal_f x_wai_m x_wai_f x_kp_vow x_kp_day x_kp_worth x_kp_z x_kp_kinds_m x_kp_kinds_f x_kp_ms_m x_kp_ms_f x_kp_said_m x_kp_said_f x_kp_signs_m x_kp_signs_f x_kp_tape_m x_kp_tape_f x_kp_avo_m x_kp_avo_f x_kp_tal_m x_kp_tal_f x_kp_wai_m x_kp_wai_f x_fitting x_spread_f x_breakers_f x_fit_f x_counted_f x_kk x_rat x_flt x_codes_m x_codes_f x_stack_m x_stack_f x_parted x_vkk x_vkd x_vmm x_trace_m x_trace_f x_er_f x_bits0 x_num0_m x_num0_f x_bits1 x_num1_m x_num1_f x_bits2 x_num2_m x_num2_f x_bits3 x_num3_m x_num3_f m_images m_mfit m_known m_laid m_hre m_opnd m_bad m_usg m_trcd m_isP m_row_f m_kpt_f m_errs_f m_bitsOf_f m_sizeOf_f m_cels_f m_broken_f m_isFit_f m_breaks_f m_act_f m_wth_f m_facts_f m_pile_f m_trc_f a0 u w e1 e2 e3 ⟨iS, iV, jF, iR, jE, iH0, iH1, iH2, iH3, jK⟩
