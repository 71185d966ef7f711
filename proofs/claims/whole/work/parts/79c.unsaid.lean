/-! PURE: what brothers avoid, counted; what all leave unsaid -/
theorem lp_kk {σ τ ρ : Type} {body : (τ → Option ρ) → (σ → Option ρ) → σ → Option ρ} (P : Nat → σ → Prop) (R : τ → Prop) (n : Nat) (step : ∀ (j : Nat) (s : σ), j < n → P j s → (∃ x, R x ∧ ∀ c k, body c k s = c x) ∨ ∃ s', P (j + 1) s' ∧ ∀ c k, body c k s = k s') (fin : ∀ s, P n s → ∃ x, R x ∧ ∀ c k, body c k s = c x) : ∀ (f j : Nat) (s : σ), j ≤ n → n < f + j → P j s → ∃ x, R x ∧ ∀ c, lp (body c) f s = c x := by
  intro f
  induction f with
  | zero => intro j s h1 h2 _; omega
  | succ f ih =>
    intro j s h1 h2 hP
    rcases Nat.lt_or_ge j n with h | h
    · rcases step j s h hP with ⟨x, h3, h4⟩ | ⟨s', h3, h4⟩
      · exact ⟨x, h3, fun c => h4 c _⟩
      · obtain ⟨x, h5, h6⟩ := ih (j + 1) s' h (by omega) h3
        refine ⟨x, h5, fun c => ?_⟩
        show body c (lp (body c) f) s = c x
        rw [h4]
        exact h6 c
    · have e : j = n := by omega
      subst e
      obtain ⟨x, h3, h4⟩ := fin s hP
      exact ⟨x, h3, fun c => h4 c _⟩
section
variable {c : Nat} {x_hasI : Int32} {x_imgs : Int32} {x_vow : Int32} {x_day : Int32} {x_worth : Int32} {x_z : Int32} {x_kinds_m : Int32} {x_kinds_f : Nat → Int32} {x_ms_m : Int32} {x_ms_f : Nat → Int32} {x_said_m : Int32} {x_said_f : Nat → Int32} {x_signs_m : Int32} {x_signs_f : Nat → Int32} {x_tape_m : Int32} {x_tape_f : Nat → Int32} {x_avo_m : Int32} {x_avo_f : Nat → Int32} {x_tal_m : Int32} {x_tal_f : Nat → Int32} {x_wai_m : Int32} {x_wai_f : Nat → Int32} {x_kp_vow : Int32} {x_kp_day : Int32} {x_kp_worth : Int32} {x_kp_z : Int32} {x_kp_kinds_m : Int32} {x_kp_kinds_f : Nat → Int32} {x_kp_ms_m : Int32} {x_kp_ms_f : Nat → Int32} {x_kp_said_m : Int32} {x_kp_said_f : Nat → Int32} {x_kp_signs_m : Int32} {x_kp_signs_f : Nat → Int32} {x_kp_tape_m : Int32} {x_kp_tape_f : Nat → Int32} {x_kp_avo_m : Int32} {x_kp_avo_f : Nat → Int32} {x_kp_tal_m : Int32} {x_kp_tal_f : Nat → Int32} {x_kp_wai_m : Int32} {x_kp_wai_f : Nat → Int32} {x_fitting : Int32} {x_spread_f : Nat → Int32} {x_breakers_f : Nat → Int64} {x_fit_f : Nat → Int32} {x_counted_f : Nat → Int32} {x_kk : Nat} {x_rat : Int32} {x_flt : Int32} {x_codes_m : Int32} {x_codes_f : Nat → Int32} {x_stack_m : Int32} {x_stack_f : Nat → Int32} {x_parted : Int32} {x_vkk : Int32} {x_vkd : Int32} {x_vmm : Int32} {x_trace_m : Int32} {x_trace_f : Nat → Int32} {x_er_f : Nat → Int32} {x_bits0 : Int32} {x_num0_m : Int32} {x_num0_f : Nat → Int32} {x_bits1 : Int32} {x_num1_m : Int32} {x_num1_f : Nat → Int32} {x_bits2 : Int32} {x_num2_m : Int32} {x_num2_f : Nat → Int32} {x_bits3 : Int32} {x_num3_m : Int32} {x_num3_f : Nat → Int32} {m_images : Int32} {m_mfit : Int32} {m_known : Int32} {m_laid : Int32} {m_hre : Int32} {m_opnd : Int32} {m_bad : Int32} {m_usg : Int32} {m_trcd : Int32} {m_isP : Int32} {m_row_f : Nat → Int32} {m_kpt_f : Nat → Int32} {m_errs_f : Nat → Int32} {m_bitsOf_f : Nat → Int32} {m_sizeOf_f : Nat → Int32} {m_cels_f : Nat → Int32} {m_broken_f : Nat → Int64} {m_isFit_f : Nat → Int32} {m_breaks_f : Nat → Int32} {m_act_f : Nat → Int32} {m_wth_f : Nat → Int32} {m_facts_f : Nat → Int32} {m_pile_f : Nat → Int32} {m_trc_f : Nat → Int32}
theorem bv {n b : Nat} (iS : IvS x_vow x_day x_worth x_z x_kinds_m x_kinds_f x_ms_m x_ms_f x_said_m x_said_f x_signs_m x_signs_f x_tape_m x_tape_f x_avo_m x_avo_f x_tal_m x_tal_f x_wai_m x_wai_f m_row_f) (iV : IvV x_spread_f x_breakers_f m_broken_f) (hF : FtV m_row_f x_fit_f) (h2 : m_row_f 2 = nI n) (hn : n ≤ 6) (hb : b < n) {counted : Nat → Int32} {sm : Int32} {sf : Nat → Int32} (hC : CtV m_row_f counted) {mfit known : Int32} {isFit breaks facts pile : Nat → Int32} (hK : KnV m_row_f mfit known isFit breaks) : ∃ (set : Int64) (c' : Nat → Int32) (sm' : Int32) (sf' : Nat → Int32) (mf' kn' : Int32) (i' b' fa' pl' : Nat → Int32), F_X7_avoided x_day x_kinds_m x_kinds_f x_ms_m x_ms_f x_avo_m x_avo_f (nI (cntF m_row_f)) x_spread_f x_fit_f counted sm sf (nI b) = some (set, c', sm', sf') ∧ F_X8_avoided mfit known m_row_f m_broken_f isFit breaks facts pile (nI b) = some (nI ((List.range 64).countP fun i => set.toBitVec.getLsbD i), mf', kn', i', b', fa', pl') ∧ CtV m_row_f c' ∧ KnV m_row_f mf' kn' i' b' := by
  unfold F_X7_avoided F_X8_avoided
  refine lp_two (fun j (s : Int64 × Int32 × (Nat → Int32) × Int32 × (Nat → Int32)) (t : Int32 × Int32 × Int32 × Int32 × (Nat → Int32) × (Nat → Int32) × (Nat → Int32) × (Nat → Int32)) => s.2.1 = nI j ∧ t.2.1 = nI j ∧ (∀ i, j ≤ i → s.1.toBitVec.getLsbD i = false) ∧ t.1 = nI ((List.range j).countP fun i => s.1.toBitVec.getLsbD i) ∧ CtV m_row_f s.2.2.1 ∧ KnV m_row_f t.2.2.1 t.2.2.2.1 t.2.2.2.2.1 t.2.2.2.2.2.1) (fun o o' => ∃ (set : Int64) (c' : Nat → Int32) (sm' : Int32) (sf' : Nat → Int32) (mf' kn' : Int32) (i' b' fa' pl' : Nat → Int32), o = some (set, c', sm', sf') ∧ o' = some (nI ((List.range 64).countP fun i => set.toBitVec.getLsbD i), mf', kn', i', b', fa', pl') ∧ CtV m_row_f c' ∧ KnV m_row_f mf' kn' i' b') 64 (by omega) ⟨rfl, rfl, fun i _ => by show (0#64).getLsbD i = false; simp, rfl, hC, hK⟩ ?_ ?_
  · rintro j ⟨s1, s2, s3, s4, s5⟩ ⟨t1, t2, t3, t4, t5, t6, t7, t8⟩ hj ⟨h1, h2', h3, h4, h5, h6⟩
    dsimp only at h1 h2' h3 h4 h5 h6
    subst h1 h2' h4
    have hlt : ¬ (64 : Int32) ≤ nI j := by rw [l64]; exact nI_ge hj (by omega)
    obtain ⟨q, v1, v2⟩ := av iS iV hF h2 hn hb hj
    obtain ⟨c3, sm3, sf3, q1, q2⟩ := v1 s3 s4 s5 h5
    obtain ⟨i3, b3, fa3, pl3, q3, q4⟩ := v2 t3 t4 t5 t6 t7 t8 h6
    have hcle := cP_le (fun i => s1.toBitVec.getLsbD i) j
    cases q with
    | true =>
      refine Or.inr ⟨(s1 ||| ((1 : Int64) <<< ((nI j).toInt64 &&& 63)), nI (j + 1), c3, sm3, sf3), (nI ((List.range j).countP (fun i => s1.toBitVec.getLsbD i) + 1), nI (j + 1), nI (cntF m_row_f), nI 1, i3, b3, fa3, pl3), ⟨rfl, rfl, fun i hi => ?_, ?_, q2, q4⟩, fun k => ?_, fun k => ?_⟩
      · dsimp only
        rw [bit_or1 hj, h3 i (by omega), decide_eq_false (by omega)]
        rfl
      · dsimp only
        rw [cP_succ]
        congr 1
        rw [bit_or1 hj, decide_eq_true rfl, Bool.or_true, if_pos rfl]
        congr 1
        refine cP_cong (fun i hi => ?_)
        rw [bit_or1 hj, decide_eq_false (by omega), Bool.or_false]
      · unfold B_X7_avoided_5
        rw [if_neg hlt]
        dsimp only
        rw [q1, bd_some, if_neg (show ¬ (bI true, c3, sm3, sf3).1 = 0 from (by decide : ¬ nI 1 = 0)), l1, nI_add]
      · unfold B_X8_avoided_4
        rw [if_neg hlt]
        dsimp only
        rw [q3, bd_some, if_neg (show ¬ (bI true, nI (cntF m_row_f), nI 1, i3, b3, fa3, pl3).1 = 0 from (by decide : ¬ nI 1 = 0)), l1, nI_add, nI_add]
    | false =>
      refine Or.inr ⟨(s1, nI (j + 1), c3, sm3, sf3), (nI ((List.range j).countP fun i => s1.toBitVec.getLsbD i), nI (j + 1), nI (cntF m_row_f), nI 1, i3, b3, fa3, pl3), ⟨rfl, rfl, fun i hi => h3 i (by omega), ?_, q2, q4⟩, fun k => ?_, fun k => ?_⟩
      · dsimp only
        rw [cP_succ, h3 j (Nat.le_refl _), if_neg (by decide), Nat.add_zero]
      · unfold B_X7_avoided_5
        rw [if_neg hlt]
        dsimp only
        rw [q1, bd_some, if_pos (show (bI false, c3, sm3, sf3).1 = 0 from rfl), l1, nI_add]
      · unfold B_X8_avoided_4
        rw [if_neg hlt]
        dsimp only
        rw [q3, bd_some, if_pos (show (bI false, nI (cntF m_row_f), nI 1, i3, b3, fa3, pl3).1 = 0 from rfl), l0, l1, nI_add, nI_add, Nat.add_zero]
  · rintro ⟨s1, s2, s3, s4, s5⟩ ⟨t1, t2, t3, t4, t5, t6, t7, t8⟩ ⟨h1, h2', h3, h4, h5, h6⟩ k k'
    dsimp only at h1 h2' h3 h4 h5 h6
    subst h1 h2' h4
    refine ⟨s1, s3, s4, s5, t3, t4, t5, t6, t7, t8, ?_, ?_, h5, h6⟩
    · unfold B_X7_avoided_5
      rw [if_pos (show (64 : Int32) ≤ nI 64 from by decide)]
    · unfold B_X8_avoided_4
      rw [if_pos (show (64 : Int32) ≤ nI 64 from by decide)]
theorem k_brotherIs (iS : IvS x_vow x_day x_worth x_z x_kinds_m x_kinds_f x_ms_m x_ms_f x_said_m x_said_f x_signs_m x_signs_f x_tape_m x_tape_f x_avo_m x_avo_f x_tal_m x_tal_f x_wai_m x_wai_f m_row_f) (iV : IvV x_spread_f x_breakers_f m_broken_f) (iF : IvF m_row_f x_fitting x_fit_f x_counted_f m_mfit m_known m_isFit_f m_breaks_f) (iE : IvE x_er_f m_errs_f) (br : Int32) (wh : Int32) : ∃ (u : (Int32 × (Nat → Int32) × Int32 × (Nat → Int32) × (Nat → Int32))) (w : (Int32 × Int32 × Int32 × (Nat → Int32) × (Nat → Int32) × (Nat → Int32) × (Nat → Int32) × (Nat → Int32))), F_X7_brotherIs x_day x_kinds_m x_kinds_f x_ms_m x_ms_f x_said_m x_said_f x_avo_m x_avo_f x_fitting x_spread_f x_fit_f x_counted_f x_stack_m x_stack_f x_er_f br wh = some u ∧ F_X8_brotherIs m_mfit m_known m_row_f m_errs_f m_broken_f m_isFit_f m_breaks_f m_facts_f m_pile_f br wh = some w ∧ u.1 = w.1 ∧ IvF m_row_f x_fitting x_fit_f u.2.1 w.2.1 w.2.2.1 w.2.2.2.2.1 w.2.2.2.2.2.1 ∧ IvE u.2.2.2.2 w.2.2.2.1 := by
  have iF0 := iF
  obtain ⟨hF, hf, hC, hK⟩ := iF0
  have iB := iS.2.1
  obtain ⟨n, hB, b1, b2, b3, b4, b5⟩ := iB
  rcases ix br n (by omega) with h | ⟨b, hb, rfl⟩
  · refine ⟨(-(nI 1000000001), x_counted_f, x_stack_m, x_stack_f, upd x_er_f 1 (x_er_f 1 + nI 1)), (-(nI 1000000001), m_mfit, m_known, upd m_errs_f 1 (m_errs_f 1 + nI 1), m_isFit_f, m_breaks_f, m_facts_f, m_pile_f), ?_, ?_, rfl, iF, iE.err 1⟩
    · unfold F_X7_brotherIs
      rw [show F_X7_isBrother x_kinds_m br = some (nI 0) from by rw [b1]; exact isB_N h, bd_some, if_pos (show nI 0 = 0 from rfl), show F_X7_error x_er_f (1 : Int32) = _ from x_err1 x_er_f, bd_some]
    · unfold F_X8_brotherIs
      rw [mB_N b4 h (by omega), bd_some, if_pos (show nI 0 = 0 from rfl), show F_X8_error m_errs_f (-1000000001 : Int32) = _ from m_err1 m_errs_f, bd_some]
  have hB7 : F_X7_isBrother x_kinds_m (nI b) = some (nI 1) := by rw [b1]; exact isB_Y hb (by omega)
  have hB8 := mB_Y b4 hb (by omega)
  rcases ix wh 4 (by omega) with h | ⟨y, hy, rfl⟩
  · refine ⟨(-(nI 1000000001), x_counted_f, x_stack_m, x_stack_f, upd x_er_f 1 (x_er_f 1 + nI 1)), (-(nI 1000000001), m_mfit, m_known, upd m_errs_f 1 (m_errs_f 1 + nI 1), m_isFit_f, m_breaks_f, m_facts_f, m_pile_f), ?_, ?_, rfl, iF, iE.err 1⟩
    · unfold F_X7_brotherIs
      rw [hB7, bd_some, if_neg (show ¬ nI 1 = 0 from by decide), show F_X7_within wh (0 : Int32) (3 : Int32) = _ from w_N (M := 3) h (by omega), bd_some, if_pos (show nI 0 = 0 from rfl), show F_X7_error x_er_f (1 : Int32) = _ from x_err1 x_er_f, bd_some]
    · unfold F_X8_brotherIs
      rw [hB8, bd_some, if_neg (show ¬ nI 1 = 0 from by decide), show F_X8_in wh (0 : Int32) (3 : Int32) = _ from w_N (M := 3) h (by omega), bd_some, if_pos (show nI 0 = 0 from rfl), show F_X8_error m_errs_f (-1000000001 : Int32) = _ from m_err1 m_errs_f, bd_some]
  have hw7 : F_X7_within (nI y) (0 : Int32) (3 : Int32) = some (nI 1) := w_Y (M := 3) (show y ≤ 3 by omega) (by omega)
  have hw8 : F_X8_in (nI y) (0 : Int32) (3 : Int32) = some (nI 1) := hw7
  obtain ⟨p1, p2, p3, -⟩ := b5 b hb
  have hm : ∀ z, z < 3 → F_X8_brotherIs m_mfit m_known m_row_f m_errs_f m_broken_f m_isFit_f m_breaks_f m_facts_f m_pile_f (nI b) (nI z) = some (m_row_f (8 + 3 * b + z), m_mfit, m_known, m_errs_f, m_isFit_f, m_breaks_f, m_facts_f, m_pile_f) := by
    intro z hz
    unfold F_X8_brotherIs
    rw [hB8, bd_some, if_neg (show ¬ nI 1 = 0 from by decide), show F_X8_in (nI z) (0 : Int32) (3 : Int32) = some (nI 1) from w_Y (M := 3) (show z ≤ 3 by omega) (by omega), bd_some, if_neg (show ¬ nI 1 = 0 from by decide), if_neg (show ¬ (3 : Int32) ≤ nI z from by rw [l3]; exact nI_ge hz (by omega)), m_of (by omega) hz, bd_some]
  rcases (show y = 0 ∨ y = 1 ∨ y = 2 ∨ y = 3 by omega) with rfl | rfl | rfl | rfl
  · refine ⟨(x_kinds_f b, x_counted_f, x_stack_m, x_stack_f, x_er_f), _, ?_, hm 0 (by omega), p1, iF, iE⟩
    unfold F_X7_brotherIs
    rw [hB7, bd_some, if_neg (show ¬ nI 1 = 0 from by decide), hw7, bd_some, if_neg (show ¬ nI 1 = 0 from by decide), if_pos (show nI 0 = (0 : Int32) from rfl), b1, x_get _ hb hB (by omega), bd_some]
  · refine ⟨(x_ms_f b, x_counted_f, x_stack_m, x_stack_f, x_er_f), _, ?_, hm 1 (by omega), p2, iF, iE⟩
    unfold F_X7_brotherIs
    rw [hB7, bd_some, if_neg (show ¬ nI 1 = 0 from by decide), hw7, bd_some, if_neg (show ¬ nI 1 = 0 from by decide), if_neg (show ¬ nI 1 = (0 : Int32) from by decide), if_pos (show nI 1 = (1 : Int32) from rfl), b2, x_get _ hb hB (by omega), bd_some]
  · refine ⟨(x_said_f b, x_counted_f, x_stack_m, x_stack_f, x_er_f), _, ?_, hm 2 (by omega), p3, iF, iE⟩
    unfold F_X7_brotherIs
    rw [hB7, bd_some, if_neg (show ¬ nI 1 = 0 from by decide), hw7, bd_some, if_neg (show ¬ nI 1 = 0 from by decide), if_neg (show ¬ nI 2 = (0 : Int32) from by decide), if_neg (show ¬ nI 2 = (1 : Int32) from by decide), if_pos (show nI 2 = (2 : Int32) from rfl), b3, x_get _ hb hB (by omega), bd_some]
  · obtain ⟨set, c', sm', sf', mf', kn', i', b', fa', pl', e1, e2, e3, e4⟩ := bv (sm := x_stack_m) (sf := x_stack_f) (facts := m_facts_f) (pile := m_pile_f) iS iV hF b4 hB hb hC hK
    refine ⟨(nI ((List.range 64).countP fun i => set.toBitVec.getLsbD i), c', sm', sf', x_er_f), (nI ((List.range 64).countP fun i => set.toBitVec.getLsbD i), mf', kn', m_errs_f, i', b', fa', pl'), ?_, ?_, rfl, ⟨hF, hf, e3, e4⟩, iE⟩
    · unfold F_X7_brotherIs
      rw [hB7, bd_some, if_neg (show ¬ nI 1 = 0 from by decide), hw7, bd_some, if_neg (show ¬ nI 1 = 0 from by decide), if_neg (show ¬ nI 3 = (0 : Int32) from by decide), if_neg (show ¬ nI 3 = (1 : Int32) from by decide), if_neg (show ¬ nI 3 = (2 : Int32) from by decide), hf, e1, bd_some]
      dsimp only
      rw [bcJ, bd_some]
    · unfold F_X8_brotherIs
      rw [hB8, bd_some, if_neg (show ¬ nI 1 = 0 from by decide), hw8, bd_some, if_neg (show ¬ nI 1 = 0 from by decide), if_pos (show (3 : Int32) ≤ nI 3 from by decide), e2, bd_some]
end
theorem st_brotherIs (G : xG) (tx : Nat) (wx : Nat → Nat) (tm : Nat) (wm : Nat → Nat) (a0 : Int32) (a1 : Int32) : StpI G tx wx tm wm yX7_brotherIs (Cond.code yX7_brotherIs cX7_brotherIs 3 (some .int)) yX8_brotherIs (Cond.code yX8_brotherIs cX8_brotherIs 3 (some .int)) [.int a0, .int a1] := by
  intro c ws hc h
  refine h.on (fun x_hasI x_imgs x_vow x_day x_worth x_z x_kinds_m x_kinds_f x_ms_m x_ms_f x_said_m x_said_f x_signs_m x_signs_f x_tape_m x_tape_f x_avo_m x_avo_f x_tal_m x_tal_f x_wai_m x_wai_f x_kp_vow x_kp_day x_kp_worth x_kp_z x_kp_kinds_m x_kp_kinds_f x_kp_ms_m x_kp_ms_f x_kp_said_m x_kp_said_f x_kp_signs_m x_kp_signs_f x_kp_tape_m x_kp_tape_f x_kp_avo_m x_kp_avo_f x_kp_tal_m x_kp_tal_f x_kp_wai_m x_kp_wai_f x_fitting x_spread_f x_breakers_f x_fit_f x_counted_f x_kk x_rat x_flt x_codes_m x_codes_f x_stack_m x_stack_f x_parted x_vkk x_vkd x_vmm x_trace_m x_trace_f x_er_f x_bits0 x_num0_m x_num0_f x_bits1 x_num1_m x_num1_f x_bits2 x_num2_m x_num2_f x_bits3 x_num3_m x_num3_f m_images m_mfit m_known m_laid m_hre m_opnd m_bad m_usg m_trcd m_isP m_row_f m_kpt_f m_errs_f m_bitsOf_f m_sizeOf_f m_cels_f m_broken_f m_isFit_f m_breaks_f m_act_f m_wth_f m_facts_f m_pile_f m_trc_f hW hI => ?_)
  subst hW
  obtain ⟨iS, iV, iF, iR, iE, iH0, iH1, iH2, iH3, iK⟩ := hI
  have jK : ∃ k : Nat, k ≤ c + 1 ∧ x_imgs = nI k ∧ m_images = nI k ∧ (x_hasI = if k = 0 then nI 0 else nI 1) ∧ (k ≠ 0 → IvS x_kp_vow x_kp_day x_kp_worth x_kp_z x_kp_kinds_m x_kp_kinds_f x_kp_ms_m x_kp_ms_f x_kp_said_m x_kp_said_f x_kp_signs_m x_kp_signs_f x_kp_tape_m x_kp_tape_f x_kp_avo_m x_kp_avo_f x_kp_tal_m x_kp_tal_f x_kp_wai_m x_kp_wai_f m_kpt_f) := by
    obtain ⟨k, hk, q⟩ := iK
    exact ⟨k, by omega, q⟩
  obtain ⟨u, w, e1, e2, e3, jF, jE⟩ := k_brotherIs iS iV iF iE a0 a1
  exact s_brotherIs G tx wx tm wm x_hasI x_imgs x_vow x_day x_worth x_z x_kinds_m x_kinds_f x_ms_m x_ms_f x_said_m x_said_f x_signs_m x_signs_f x_tape_m x_tape_f x_avo_m x_avo_f x_tal_m x_tal_f x_wai_m x_wai_f x_kp_vow x_kp_day x_kp_worth x_kp_z x_kp_kinds_m x_kp_kinds_f x_kp_ms_m x_kp_ms_f x_kp_said_m x_kp_said_f x_kp_signs_m x_kp_signs_f x_kp_tape_m x_kp_tape_f x_kp_avo_m x_kp_avo_f x_kp_tal_m x_kp_tal_f x_kp_wai_m x_kp_wai_f x_fitting x_spread_f x_breakers_f x_fit_f x_counted_f x_kk x_rat x_flt x_codes_m x_codes_f x_stack_m x_stack_f x_parted x_vkk x_vkd x_vmm x_trace_m x_trace_f x_er_f x_bits0 x_num0_m x_num0_f x_bits1 x_num1_m x_num1_f x_bits2 x_num2_m x_num2_f x_bits3 x_num3_m x_num3_f m_images m_mfit m_known m_laid m_hre m_opnd m_bad m_usg m_trcd m_isP m_row_f m_kpt_f m_errs_f m_bitsOf_f m_sizeOf_f m_cels_f m_broken_f m_isFit_f m_breaks_f m_act_f m_wth_f m_facts_f m_pile_f m_trc_f a0 a1 u w e1 e2 e3 ⟨iS, iV, jF, iR, jE, iH0, iH1, iH2, iH3, jK⟩
