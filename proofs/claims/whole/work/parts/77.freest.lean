/-! PURE: who is freest -/
theorem lp_two_ff {σ ρ σ' ρ' : Type} {body : (σ → Option ρ) → σ → Option ρ} {body' : (σ' → Option ρ') → σ' → Option ρ'} (P : Nat → σ → σ' → Prop) (Q : Option ρ → Option ρ' → Prop) (n : Nat) (step : ∀ (j : Nat) (s : σ) (t : σ'), j < n → P j s t → (∀ k k', Q (body k s) (body' k' t)) ∨ ∃ s' t', P (j + 1) s' t' ∧ (∀ k, body k s = k s') ∧ ∀ k, body' k t = k t') (fin : ∀ s t, P n s t → ∀ k k', Q (body k s) (body' k' t)) : ∀ (d j f f' : Nat) (s : σ) (t : σ'), j + d = n → d < f → d < f' → P j s t → Q (lp body f s) (lp body' f' t) := by
  intro d
  induction d with
  | zero =>
    intro j f f' s t h1 h2 h3 hP
    obtain ⟨f1, rfl⟩ : ∃ x, f = x + 1 := ⟨f - 1, by omega⟩
    obtain ⟨f2, rfl⟩ : ∃ x, f' = x + 1 := ⟨f' - 1, by omega⟩
    have e : j = n := by omega
    subst e
    exact fin s t hP _ _
  | succ d ih =>
    intro j f f' s t h1 h2 h3 hP
    obtain ⟨f1, rfl⟩ : ∃ x, f = x + 1 := ⟨f - 1, by omega⟩
    obtain ⟨f2, rfl⟩ : ∃ x, f' = x + 1 := ⟨f' - 1, by omega⟩
    show Q (body (lp body f1) s) (body' (lp body' f2) t)
    rcases step j s t (by omega) hP with h4 | ⟨s', t', h4, h5, h6⟩
    · exact h4 _ _
    · rw [h5, h6]
      exact ih (j + 1) f1 f2 s' t' (by omega) (by omega) (by omega) h4
section
variable {c : Nat} {x_hasI : Int32} {x_imgs : Int32} {x_vow : Int32} {x_day : Int32} {x_worth : Int32} {x_z : Int32} {x_kinds_m : Int32} {x_kinds_f : Nat → Int32} {x_ms_m : Int32} {x_ms_f : Nat → Int32} {x_said_m : Int32} {x_said_f : Nat → Int32} {x_signs_m : Int32} {x_signs_f : Nat → Int32} {x_tape_m : Int32} {x_tape_f : Nat → Int32} {x_avo_m : Int32} {x_avo_f : Nat → Int32} {x_tal_m : Int32} {x_tal_f : Nat → Int32} {x_wai_m : Int32} {x_wai_f : Nat → Int32} {x_kp_vow : Int32} {x_kp_day : Int32} {x_kp_worth : Int32} {x_kp_z : Int32} {x_kp_kinds_m : Int32} {x_kp_kinds_f : Nat → Int32} {x_kp_ms_m : Int32} {x_kp_ms_f : Nat → Int32} {x_kp_said_m : Int32} {x_kp_said_f : Nat → Int32} {x_kp_signs_m : Int32} {x_kp_signs_f : Nat → Int32} {x_kp_tape_m : Int32} {x_kp_tape_f : Nat → Int32} {x_kp_avo_m : Int32} {x_kp_avo_f : Nat → Int32} {x_kp_tal_m : Int32} {x_kp_tal_f : Nat → Int32} {x_kp_wai_m : Int32} {x_kp_wai_f : Nat → Int32} {x_fitting : Int32} {x_spread_f : Nat → Int32} {x_breakers_f : Nat → Int64} {x_fit_f : Nat → Int32} {x_counted_f : Nat → Int32} {x_kk : Nat} {x_rat : Int32} {x_flt : Int32} {x_codes_m : Int32} {x_codes_f : Nat → Int32} {x_stack_m : Int32} {x_stack_f : Nat → Int32} {x_parted : Int32} {x_vkk : Int32} {x_vkd : Int32} {x_vmm : Int32} {x_trace_m : Int32} {x_trace_f : Nat → Int32} {x_er_f : Nat → Int32} {x_bits0 : Int32} {x_num0_m : Int32} {x_num0_f : Nat → Int32} {x_bits1 : Int32} {x_num1_m : Int32} {x_num1_f : Nat → Int32} {x_bits2 : Int32} {x_num2_m : Int32} {x_num2_f : Nat → Int32} {x_bits3 : Int32} {x_num3_m : Int32} {x_num3_f : Nat → Int32} {m_images : Int32} {m_mfit : Int32} {m_known : Int32} {m_laid : Int32} {m_hre : Int32} {m_opnd : Int32} {m_bad : Int32} {m_usg : Int32} {m_trcd : Int32} {m_isP : Int32} {m_row_f : Nat → Int32} {m_kpt_f : Nat → Int32} {m_errs_f : Nat → Int32} {m_bitsOf_f : Nat → Int32} {m_sizeOf_f : Nat → Int32} {m_cels_f : Nat → Int32} {m_broken_f : Nat → Int64} {m_isFit_f : Nat → Int32} {m_breaks_f : Nat → Int32} {m_act_f : Nat → Int32} {m_wth_f : Nat → Int32} {m_facts_f : Nat → Int32} {m_pile_f : Nat → Int32} {m_trc_f : Nat → Int32}
theorem fr {n b : Nat} (iS : IvS x_vow x_day x_worth x_z x_kinds_m x_kinds_f x_ms_m x_ms_f x_said_m x_said_f x_signs_m x_signs_f x_tape_m x_tape_f x_avo_m x_avo_f x_tal_m x_tal_f x_wai_m x_wai_f m_row_f) (iV : IvV x_spread_f x_breakers_f m_broken_f) (hF : FtV m_row_f x_fit_f) (h2 : m_row_f 2 = nI n) (hn : n ≤ 6) (hb : b < n) {counted : Nat → Int32} {sm : Int32} {sf : Nat → Int32} (hC : CtV m_row_f counted) {mfit known : Int32} {isFit breaks facts pile : Nat → Int32} (hK : KnV m_row_f mfit known isFit breaks) : ∃ (S : Nat) (c' : Nat → Int32) (sm' : Int32) (sf' : Nat → Int32) (mf' kn' : Int32) (i' b' fa' pl' : Nat → Int32), S ≤ 6336 ∧ F_X7_freedom x_day x_kinds_m x_kinds_f x_ms_m x_ms_f x_avo_m x_avo_f x_tal_m x_tal_f (nI (cntF m_row_f)) x_spread_f x_fit_f counted sm sf (nI b) = some (nI S, c', sm', sf') ∧ F_X8_freedomOf mfit known m_row_f m_broken_f isFit breaks facts pile (nI b) = some (nI S, mf', kn', i', b', fa', pl') ∧ CtV m_row_f c' ∧ KnV m_row_f mf' kn' i' b' := by
  unfold F_X7_freedom F_X8_freedomOf
  refine lp_two (fun j (s : Int32 × Int32 × (Nat → Int32) × Int32 × (Nat → Int32)) (t : Int32 × Int32 × Int32 × Int32 × (Nat → Int32) × (Nat → Int32) × (Nat → Int32) × (Nat → Int32)) => ∃ S : Nat, S ≤ 99 * j ∧ s.1 = nI S ∧ t.1 = nI S ∧ s.2.1 = nI j ∧ t.2.1 = nI j ∧ CtV m_row_f s.2.2.1 ∧ KnV m_row_f t.2.2.1 t.2.2.2.1 t.2.2.2.2.1 t.2.2.2.2.2.1) (fun o o' => ∃ (S : Nat) (c' : Nat → Int32) (sm' : Int32) (sf' : Nat → Int32) (mf' kn' : Int32) (i' b' fa' pl' : Nat → Int32), S ≤ 6336 ∧ o = some (nI S, c', sm', sf') ∧ o' = some (nI S, mf', kn', i', b', fa', pl') ∧ CtV m_row_f c' ∧ KnV m_row_f mf' kn' i' b') 64 (by omega) ⟨0, by omega, rfl, rfl, rfl, rfl, hC, hK⟩ ?_ ?_
  · rintro j ⟨s1, s2, s3, s4, s5⟩ ⟨t1, t2, t3, t4, t5, t6, t7, t8⟩ hj ⟨S, hS, h1, h2', h3, h4, h5, h6⟩
    dsimp only at h1 h2' h3 h4 h5 h6
    subst h1 h2' h3 h4
    obtain ⟨c2, p1, p2⟩ := x_broken iV.1 hF h5 hj
    obtain ⟨i1, b1, r1, r2, r3⟩ := m_breaksBy iV.2.2 iS.2.2.1.sg h6 hj
    have hK1 : KnV m_row_f (nI (cntF m_row_f)) (nI 1) i1 b1 := Or.inr ⟨rfl, r2, rfl, r3⟩
    have hlt : ¬ (64 : Int32) ≤ nI j := by rw [l64]; exact nI_ge hj (by omega)
    by_cases h0 : cntB m_row_f j = 0
    · obtain ⟨q, v1, v2⟩ := av iS iV hF h2 hn hb hj
      obtain ⟨c3, sm3, sf3, q1, q2⟩ := v1 c2 s4 s5 p2
      obtain ⟨i3, b3, fa3, pl3, q3, q4⟩ := v2 (nI (cntF m_row_f)) (nI 1) i1 b1 t7 t8 hK1
      cases q with
      | true =>
        refine Or.inr ⟨(nI S, nI (j + 1), c3, sm3, sf3), (nI S, nI (j + 1), nI (cntF m_row_f), nI 1, i3, b3, fa3, pl3), ⟨S, by omega, rfl, rfl, rfl, rfl, q2, q4⟩, fun k => ?_, fun k => ?_⟩
        · unfold B_X7_freedom_4
          rw [if_neg hlt]
          dsimp only
          rw [p1, bd_some, if_pos (show (nI (cntB m_row_f j), c2).1 = 0 from by rw [h0]; rfl)]
          dsimp only
          rw [q1, bd_some, if_neg (show ¬ (bI true, c3, sm3, sf3).1 = 0 from (by decide : ¬ nI 1 = 0)), l1, nI_add]
        · unfold B_X8_freedomOf_4
          rw [if_neg hlt]
          dsimp only
          rw [r1, bd_some, if_pos (show (nI (cntB m_row_f j), nI (cntF m_row_f), nI 1, i1, b1).1 = 0 from by rw [h0]; rfl)]
          dsimp only
          rw [q3, bd_some, if_neg (show ¬ (bI true, nI (cntF m_row_f), nI 1, i3, b3, fa3, pl3).1 = 0 from (by decide : ¬ nI 1 = 0)), l0, l1, nI_add, nI_add]
          rfl
      | false =>
        obtain ⟨w, hw, w1, w2⟩ := tk iS h2 hn hb hj
        obtain ⟨sm4, sf4, z1⟩ := w1 sm3 sf3
        obtain ⟨fa4, pl4, z2⟩ := w2 fa3 pl3
        refine Or.inr ⟨(nI (S + w), nI (j + 1), c3, sm4, sf4), (nI (S + w), nI (j + 1), nI (cntF m_row_f), nI 1, i3, b3, fa4, pl4), ⟨S + w, by omega, rfl, rfl, rfl, rfl, q2, q4⟩, fun k => ?_, fun k => ?_⟩
        · unfold B_X7_freedom_4
          rw [if_neg hlt]
          dsimp only
          rw [p1, bd_some, if_pos (show (nI (cntB m_row_f j), c2).1 = 0 from by rw [h0]; rfl)]
          dsimp only
          rw [q1, bd_some, if_pos (show (bI false, c3, sm3, sf3).1 = 0 from rfl)]
          dsimp only
          rw [z1, bd_some, l1, nI_add, nI_add]
        · unfold B_X8_freedomOf_4
          rw [if_neg hlt]
          dsimp only
          rw [r1, bd_some, if_pos (show (nI (cntB m_row_f j), nI (cntF m_row_f), nI 1, i1, b1).1 = 0 from by rw [h0]; rfl)]
          dsimp only
          rw [q3, bd_some, if_pos (show (bI false, nI (cntF m_row_f), nI 1, i3, b3, fa3, pl3).1 = 0 from rfl)]
          dsimp only
          rw [z2, bd_some, l1, nI_add, nI_add]
    · have hle := cntB_le m_row_f j
      have hne : ¬ nI (cntB m_row_f j) = 0 := nI_ne0 (by omega) (by omega)
      refine Or.inr ⟨(nI S, nI (j + 1), c2, s4, s5), (nI S, nI (j + 1), nI (cntF m_row_f), nI 1, i1, b1, t7, t8), ⟨S, by omega, rfl, rfl, rfl, rfl, p2, hK1⟩, fun k => ?_, fun k => ?_⟩
      · unfold B_X7_freedom_4
        rw [if_neg hlt]
        dsimp only
        rw [p1, bd_some, if_neg (show ¬ (nI (cntB m_row_f j), c2).1 = 0 from hne), l1, nI_add]
      · unfold B_X8_freedomOf_4
        rw [if_neg hlt]
        dsimp only
        rw [r1, bd_some, if_neg (show ¬ (nI (cntB m_row_f j), nI (cntF m_row_f), nI 1, i1, b1).1 = 0 from hne), l0, l1, nI_add, nI_add]
        rfl
  · rintro ⟨s1, s2, s3, s4, s5⟩ ⟨t1, t2, t3, t4, t5, t6, t7, t8⟩ ⟨S, hS, h1, h2', h3, h4, h5, h6⟩ k k'
    dsimp only at h1 h2' h3 h4 h5 h6
    subst h1 h2' h3 h4
    refine ⟨S, s3, s4, s5, t3, t4, t5, t6, t7, t8, by omega, ?_, ?_, h5, h6⟩
    · unfold B_X7_freedom_4
      rw [if_pos (show (64 : Int32) ≤ nI 64 from by decide)]
    · unfold B_X8_freedomOf_4
      rw [if_pos (show (64 : Int32) ≤ nI 64 from by decide)]
theorem k_freest (iS : IvS x_vow x_day x_worth x_z x_kinds_m x_kinds_f x_ms_m x_ms_f x_said_m x_said_f x_signs_m x_signs_f x_tape_m x_tape_f x_avo_m x_avo_f x_tal_m x_tal_f x_wai_m x_wai_f m_row_f) (iV : IvV x_spread_f x_breakers_f m_broken_f) (iF : IvF m_row_f x_fitting x_fit_f x_counted_f m_mfit m_known m_isFit_f m_breaks_f) (iE : IvE x_er_f m_errs_f) (wh : Int32) : ∃ (u : (Int32 × (Nat → Int32) × Int32 × (Nat → Int32) × (Nat → Int32))) (w : (Int32 × Int32 × Int32 × (Nat → Int32) × (Nat → Int32) × (Nat → Int32) × (Nat → Int32) × (Nat → Int32))), F_X7_freest x_day x_kinds_m x_kinds_f x_ms_m x_ms_f x_avo_m x_avo_f x_tal_m x_tal_f x_fitting x_spread_f x_fit_f x_counted_f x_stack_m x_stack_f x_er_f wh = some u ∧ F_X8_freest m_mfit m_known m_row_f m_errs_f m_broken_f m_isFit_f m_breaks_f m_facts_f m_pile_f wh = some w ∧ u.1 = w.1 ∧ IvF m_row_f x_fitting x_fit_f u.2.1 w.2.1 w.2.2.1 w.2.2.2.2.1 w.2.2.2.2.2.1 ∧ IvE u.2.2.2.2 w.2.2.2.1 := by
  have iF0 := iF
  obtain ⟨hF, hf, hC, hK⟩ := iF0
  have iB := iS.2.1
  obtain ⟨n, hB, b1, b2, b3, b4, b5⟩ := iB
  have z2' : (2 : Int32).toNatClampNeg = 2 := by decide +kernel
  rcases ix wh 2 (by omega) with h | ⟨y, hy, rfl⟩
  · refine ⟨(-(nI 1000000001), x_counted_f, x_stack_m, x_stack_f, upd x_er_f 1 (x_er_f 1 + nI 1)), (-(nI 1000000001), m_mfit, m_known, upd m_errs_f 1 (m_errs_f 1 + nI 1), m_isFit_f, m_breaks_f, m_facts_f, m_pile_f), ?_, ?_, rfl, iF, iE.err 1⟩
    · unfold F_X7_freest
      rw [show F_X7_within wh (0 : Int32) (1 : Int32) = _ from w_N (M := 1) h (by omega), bd_some, if_pos (show nI 0 = 0 from rfl), show F_X7_error x_er_f (1 : Int32) = _ from x_err1 x_er_f, bd_some]
    · unfold F_X8_freest
      rw [show F_X8_in wh (0 : Int32) (1 : Int32) = _ from w_N (M := 1) h (by omega), bd_some, if_pos (show nI 0 = 0 from rfl), show F_X8_error m_errs_f (-1000000001 : Int32) = _ from m_err1 m_errs_f, bd_some]
  have hw7 : F_X7_within (nI y) (0 : Int32) (1 : Int32) = some (nI 1) := w_Y (M := 1) (show y ≤ 1 by omega) (by omega)
  have hw8 : F_X8_in (nI y) (0 : Int32) (1 : Int32) = some (nI 1) := hw7
  by_cases hn0 : n = 0
  · refine ⟨(-(nI 1000000003), x_counted_f, x_stack_m, x_stack_f, upd x_er_f 3 (x_er_f 3 + nI 1)), (-(nI 1000000003), m_mfit, m_known, upd m_errs_f 3 (m_errs_f 3 + nI 1), m_isFit_f, m_breaks_f, m_facts_f, m_pile_f), ?_, ?_, rfl, iF, iE.err 3⟩
    · unfold F_X7_freest F_X3_brothers F_X1_many
      rw [hw7, bd_some, if_neg (show ¬ nI 1 = 0 from by decide), bd_some, bd_some, if_pos (show x_kinds_m = 0 from by rw [b1, hn0]; rfl), show F_X7_error x_er_f (3 : Int32) = _ from x_err3 x_er_f, bd_some]
    · unfold F_X8_freest
      rw [hw8, bd_some, if_neg (show ¬ nI 1 = 0 from by decide), if_pos (show m_row_f (2 : Int32).toNatClampNeg = 0 from by rw [z2', b4, hn0]; rfl), show F_X8_error m_errs_f (-1000000003 : Int32) = _ from m_err3 m_errs_f, bd_some]
  have key : ∃ (r : Int32) (c' : Nat → Int32) (sm' : Int32) (sf' : Nat → Int32) (mf' kn' : Int32) (i' b' fa' pl' : Nat → Int32), F_X7_freest x_day x_kinds_m x_kinds_f x_ms_m x_ms_f x_avo_m x_avo_f x_tal_m x_tal_f x_fitting x_spread_f x_fit_f x_counted_f x_stack_m x_stack_f x_er_f (nI y) = some (r, c', sm', sf', x_er_f) ∧ F_X8_freest m_mfit m_known m_row_f m_errs_f m_broken_f m_isFit_f m_breaks_f m_facts_f m_pile_f (nI y) = some (r, mf', kn', m_errs_f, i', b', fa', pl') ∧ CtV m_row_f c' ∧ KnV m_row_f mf' kn' i' b' := by
    subst hf
    obtain ⟨S0, c0, sm0, sf0, mf0, kn0, i0, br0, fa0, pl0, hS0, x0, m0, hC0, hK0⟩ := fr (sm := x_stack_m) (sf := x_stack_f) (facts := m_facts_f) (pile := m_pile_f) iS iV hF b4 hB (show 0 < n by omega) hC hK
    unfold F_X7_freest F_X8_freest F_X3_brothers F_X1_many
    rw [hw7, bd_some, if_neg (show ¬ nI 1 = 0 from by decide), bd_some, bd_some, if_neg (show ¬ x_kinds_m = 0 from by rw [b1]; exact nI_ne0 (by omega) (by omega)), show F_X7_freedom x_day x_kinds_m x_kinds_f x_ms_m x_ms_f x_avo_m x_avo_f x_tal_m x_tal_f (nI (cntF m_row_f)) x_spread_f x_fit_f x_counted_f x_stack_m x_stack_f (0 : Int32) = _ from x0, bd_some]
    rw [hw8, bd_some, if_neg (show ¬ nI 1 = 0 from by decide), if_neg (show ¬ m_row_f (2 : Int32).toNatClampNeg = 0 from by rw [z2', b4]; exact nI_ne0 (by omega) (by omega))]
    have hm0 : ∀ k, B_X8_freest_39 m_row_f m_errs_f m_broken_f (nI y) k ((0 : Int32), (-1 : Int32), (0 : Int32), m_mfit, m_known, m_isFit_f, m_breaks_f, m_facts_f, m_pile_f) = k (nI 0, nI S0, nI 1, mf0, kn0, i0, br0, fa0, pl0) := by
      intro k
      have hneg : ¬ nI S0 ≤ -(nI 1) := by
        intro e
        have e1 := Int32.le_iff_toInt_le.mp e
        rw [nI_toInt (by omega), show (-(nI 1)).toInt = -1 from by decide +kernel] at e1
        omega
      unfold B_X8_freest_39
      rw [if_neg (show ¬ m_row_f (2 : Int32).toNatClampNeg ≤ (0 : Int32) from by rw [z2', b4]; exact nI_nle (by omega) (by omega))]
      dsimp only
      rw [show F_X8_freedomOf m_mfit m_known m_row_f m_broken_f m_isFit_f m_breaks_f m_facts_f m_pile_f (0 : Int32) = _ from m0, bd_some, if_neg (show ¬ (nI S0, mf0, kn0, i0, br0, fa0, pl0).1 ≤ (-1 : Int32) from hneg), if_neg (show ¬ (nI S0, mf0, kn0, i0, br0, fa0, pl0).1 ≤ (-1 : Int32) from hneg)]
      rfl
    rw [lp_one (body := B_X8_freest_39 m_row_f m_errs_f m_broken_f (nI y)), hm0]
    refine lp_two_ff (body := B_X7_freest_42 x_day x_kinds_m x_kinds_f x_ms_m x_ms_f x_avo_m x_avo_f x_tal_m x_tal_f (nI (cntF m_row_f)) x_spread_f x_fit_f x_er_f (nI y)) (body' := B_X8_freest_39 m_row_f m_errs_f m_broken_f (nI y)) (fun j (s : Int32 × Int32 × Int32 × (Nat → Int32) × Int32 × (Nat → Int32)) (t : Int32 × Int32 × Int32 × Int32 × Int32 × (Nat → Int32) × (Nat → Int32) × (Nat → Int32) × (Nat → Int32)) => ∃ M : Nat, M ≤ 6336 ∧ s.1 = t.1 ∧ s.2.1 = nI M ∧ t.2.1 = nI M ∧ s.2.2.1 = nI (1 + j) ∧ t.2.2.1 = nI (1 + j) ∧ CtV m_row_f s.2.2.2.1 ∧ KnV m_row_f t.2.2.2.1 t.2.2.2.2.1 t.2.2.2.2.2.1 t.2.2.2.2.2.2.1) (fun o o' => ∃ (r : Int32) (c' : Nat → Int32) (sm' : Int32) (sf' : Nat → Int32) (mf' kn' : Int32) (i' b' fa' pl' : Nat → Int32), o = some (r, c', sm', sf', x_er_f) ∧ o' = some (r, mf', kn', m_errs_f, i', b', fa', pl') ∧ CtV m_row_f c' ∧ KnV m_row_f mf' kn' i' b') (n - 1) ?_ ?_ (n - 1) 0 fuelC 999 ((0 : Int32), nI S0, (1 : Int32), c0, sm0, sf0) (nI 0, nI S0, nI 1, mf0, kn0, i0, br0, fa0, pl0) (by omega) (by unfold fuelC; omega) (by omega) ⟨S0, hS0, rfl, rfl, rfl, rfl, rfl, hC0, hK0⟩
    · rintro j ⟨s1, s2, s3, s4, s5, s6⟩ ⟨t1, t2, t3, t4, t5, t6, t7, t8, t9⟩ hj ⟨M, hM, h1, h2, h3, h4, h5, h6, h7⟩
      dsimp only at h1 h2 h3 h4 h5 h6 h7
      subst h1 h2 h3 h4 h5
      obtain ⟨S1, c1, sm1, sf1, mf1, kn1, i1, br1, fa1, pl1, hS1, x1, m1, hC1, hK1⟩ := fr (sm := s5) (sf := s6) (facts := t8) (pile := t9) iS iV hF b4 hB (show 1 + j < n by omega) h6 h7
      have hl7 : ¬ x_kinds_m ≤ nI (1 + j) := by rw [b1]; exact nI_ge (by omega) (by omega)
      have hl8 : ¬ m_row_f (2 : Int32).toNatClampNeg ≤ nI (1 + j) := by rw [z2', b4]; exact nI_ge (by omega) (by omega)
      by_cases hc : S1 ≤ M
      · have hc' : nI S1 ≤ nI M := nI_le hc (by omega)
        refine Or.inr ⟨(s1, nI M, nI (1 + (j + 1)), c1, sm1, sf1), (s1, nI M, nI (1 + (j + 1)), mf1, kn1, i1, br1, fa1, pl1), ⟨M, hM, rfl, rfl, rfl, rfl, rfl, hC1, hK1⟩, fun k => ?_, fun k => ?_⟩
        · unfold B_X7_freest_42 F_X3_brothers F_X1_many
          rw [bd_some, bd_some, if_neg hl7]
          dsimp only
          rw [x1, bd_some, if_pos (show (nI S1, c1, sm1, sf1).1 ≤ nI M from hc'), l1, nI_add, Nat.add_assoc]
        · unfold B_X8_freest_39
          rw [if_neg hl8]
          dsimp only
          rw [m1, bd_some, if_pos (show (nI S1, mf1, kn1, i1, br1, fa1, pl1).1 ≤ nI M from hc'), if_pos (show (nI S1, mf1, kn1, i1, br1, fa1, pl1).1 ≤ nI M from hc'), l1, nI_add, Nat.add_assoc]
      · have hc' : ¬ nI S1 ≤ nI M := by rw [nI_leI (by omega) (by omega)]; exact hc
        refine Or.inr ⟨(nI (1 + j), nI S1, nI (1 + (j + 1)), c1, sm1, sf1), (nI (1 + j), nI S1, nI (1 + (j + 1)), mf1, kn1, i1, br1, fa1, pl1), ⟨S1, hS1, rfl, rfl, rfl, rfl, rfl, hC1, hK1⟩, fun k => ?_, fun k => ?_⟩
        · unfold B_X7_freest_42 F_X3_brothers F_X1_many
          rw [bd_some, bd_some, if_neg hl7]
          dsimp only
          rw [x1, bd_some, if_neg (show ¬ (nI S1, c1, sm1, sf1).1 ≤ nI M from hc'), l1, nI_add, Nat.add_assoc]
        · unfold B_X8_freest_39
          rw [if_neg hl8]
          dsimp only
          rw [m1, bd_some, if_neg (show ¬ (nI S1, mf1, kn1, i1, br1, fa1, pl1).1 ≤ nI M from hc'), if_neg (show ¬ (nI S1, mf1, kn1, i1, br1, fa1, pl1).1 ≤ nI M from hc'), l1, nI_add, Nat.add_assoc]
    · rintro ⟨s1, s2, s3, s4, s5, s6⟩ ⟨t1, t2, t3, t4, t5, t6, t7, t8, t9⟩ ⟨M, hM, h1, h2, h3, h4, h5, h6, h7⟩ k k'
      dsimp only at h1 h2 h3 h4 h5 h6 h7
      subst h1 h2 h3 h4 h5
      have hl7 : x_kinds_m ≤ nI (1 + (n - 1)) := by rw [b1]; exact nI_le (by omega) (by omega)
      have hl8 : m_row_f (2 : Int32).toNatClampNeg ≤ nI (1 + (n - 1)) := by rw [z2', b4]; exact nI_le (by omega) (by omega)
      by_cases hw : nI y = 0
      · refine ⟨s1, s4, s5, s6, t4, t5, t6, t7, t8, t9, ?_, ?_, h6, h7⟩
        · unfold B_X7_freest_42 F_X3_brothers F_X1_many
          rw [bd_some, bd_some, if_pos hl7, if_pos hw]
        · unfold B_X8_freest_39
          rw [if_pos hl8, if_pos hw]
      · refine ⟨nI M, s4, s5, s6, t4, t5, t6, t7, t8, t9, ?_, ?_, h6, h7⟩
        · unfold B_X7_freest_42 F_X3_brothers F_X1_many
          rw [bd_some, bd_some, if_pos hl7, if_neg hw]
        · unfold B_X8_freest_39
          rw [if_pos hl8, if_neg hw]
  obtain ⟨r, c', sm', sf', mf', kn', i', b', fa', pl', e1, e2, e3, e4⟩ := key
  exact ⟨_, _, e1, e2, rfl, ⟨hF, hf, e3, e4⟩, iE⟩
end
theorem st_freest (G : xG) (tx : Nat) (wx : Nat → Nat) (tm : Nat) (wm : Nat → Nat) (a0 : Int32) : StpI G tx wx tm wm yX7_freest (Cond.code yX7_freest cX7_freest 6 (some .int)) yX8_freest (Cond.code yX8_freest cX8_freest 6 (some .int)) [.int a0] := by
  intro c ws hc h
  refine h.on (fun x_hasI x_imgs x_vow x_day x_worth x_z x_kinds_m x_kinds_f x_ms_m x_ms_f x_said_m x_said_f x_signs_m x_signs_f x_tape_m x_tape_f x_avo_m x_avo_f x_tal_m x_tal_f x_wai_m x_wai_f x_kp_vow x_kp_day x_kp_worth x_kp_z x_kp_kinds_m x_kp_kinds_f x_kp_ms_m x_kp_ms_f x_kp_said_m x_kp_said_f x_kp_signs_m x_kp_signs_f x_kp_tape_m x_kp_tape_f x_kp_avo_m x_kp_avo_f x_kp_tal_m x_kp_tal_f x_kp_wai_m x_kp_wai_f x_fitting x_spread_f x_breakers_f x_fit_f x_counted_f x_kk x_rat x_flt x_codes_m x_codes_f x_stack_m x_stack_f x_parted x_vkk x_vkd x_vmm x_trace_m x_trace_f x_er_f x_bits0 x_num0_m x_num0_f x_bits1 x_num1_m x_num1_f x_bits2 x_num2_m x_num2_f x_bits3 x_num3_m x_num3_f m_images m_mfit m_known m_laid m_hre m_opnd m_bad m_usg m_trcd m_isP m_row_f m_kpt_f m_errs_f m_bitsOf_f m_sizeOf_f m_cels_f m_broken_f m_isFit_f m_breaks_f m_act_f m_wth_f m_facts_f m_pile_f m_trc_f hW hI => ?_)
  subst hW
  obtain ⟨iS, iV, iF, iR, iE, iH0, iH1, iH2, iH3, iK⟩ := hI
  have jK : ∃ k : Nat, k ≤ c + 1 ∧ x_imgs = nI k ∧ m_images = nI k ∧ (x_hasI = if k = 0 then nI 0 else nI 1) ∧ (k ≠ 0 → IvS x_kp_vow x_kp_day x_kp_worth x_kp_z x_kp_kinds_m x_kp_kinds_f x_kp_ms_m x_kp_ms_f x_kp_said_m x_kp_said_f x_kp_signs_m x_kp_signs_f x_kp_tape_m x_kp_tape_f x_kp_avo_m x_kp_avo_f x_kp_tal_m x_kp_tal_f x_kp_wai_m x_kp_wai_f m_kpt_f) := by
    obtain ⟨k, hk, q⟩ := iK
    exact ⟨k, by omega, q⟩
  obtain ⟨u, w, e1, e2, e3, jF, jE⟩ := k_freest iS iV iF iE a0
  exact s_freest G tx wx tm wm x_hasI x_imgs x_vow x_day x_worth x_z x_kinds_m x_kinds_f x_ms_m x_ms_f x_said_m x_said_f x_signs_m x_signs_f x_tape_m x_tape_f x_avo_m x_avo_f x_tal_m x_tal_f x_wai_m x_wai_f x_kp_vow x_kp_day x_kp_worth x_kp_z x_kp_kinds_m x_kp_kinds_f x_kp_ms_m x_kp_ms_f x_kp_said_m x_kp_said_f x_kp_signs_m x_kp_signs_f x_kp_tape_m x_kp_tape_f x_kp_avo_m x_kp_avo_f x_kp_tal_m x_kp_tal_f x_kp_wai_m x_kp_wai_f x_fitting x_spread_f x_breakers_f x_fit_f x_counted_f x_kk x_rat x_flt x_codes_m x_codes_f x_stack_m x_stack_f x_parted x_vkk x_vkd x_vmm x_trace_m x_trace_f x_er_f x_bits0 x_num0_m x_num0_f x_bits1 x_num1_m x_num1_f x_bits2 x_num2_m x_num2_f x_bits3 x_num3_m x_num3_f m_images m_mfit m_known m_laid m_hre m_opnd m_bad m_usg m_trcd m_isP m_row_f m_kpt_f m_errs_f m_bitsOf_f m_sizeOf_f m_cels_f m_broken_f m_isFit_f m_breaks_f m_act_f m_wth_f m_facts_f m_pile_f m_trc_f a0 u w e1 e2 e3 ⟨iS, iV, jF, iR, jE, iH0, iH1, iH2, iH3, jK⟩
