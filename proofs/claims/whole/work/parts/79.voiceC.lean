/-! PURE: voice, the call -/
theorem sub0 {a b : Nat} (ha : a < 100) (hb : b < 100) : nI a - nI b = 0 ↔ a = b := by
  constructor
  · intro h
    have h1 := congrArg Int32.toInt h
    rw [pk_sub_toInt (by omega) (by omega), show (0 : Int32).toInt = 0 from rfl] at h1
    omega
  · rintro rfl
    exact Int32.sub_self _
section VQ
variable {row : Nat → Int32} {b K mm : Nat}
theorem plP {t : Nat} {mt : Nat → Int32} {x : Int32} (hb : b < 6) (hm : mm ≤ 9) (h1 : row (8 + 3 * b + 1) = nI mm) (ht : t < 30) : F_X8_plainParts (nI t) row mt (nI b) x = (if mm = b then some (nI 0, nI (t + 1), nI 1, upd mt t (nI 13)) else some (x / (nI mm - nI b), nI (t + 1), nI 0, upd mt t (nI 13))) := by
  unfold F_X8_plainParts
  rw [begins mt _ ht, bd_some, of1 hb h1, bd_some]
  by_cases h : mm = b
  · rw [if_pos h, if_pos ((sub0 (by omega) (by omega)).mpr h)]; rfl
  · rw [if_neg h, if_neg (fun e => h ((sub0 (by omega) (by omega)).mp e)), if_neg (fun e => h ((sub0 (by omega) (by omega)).mp e))]; rfl
def Pok (row : Nat → Int32) (b K mm : Nat) (l : List Int32) (p : Nat) (v : Int32 → Int32) : Prop := (∀ (f t d : Nat) (tr : Nat → Int32) (x : Int32), 9 ≤ f → t + 9 ≤ 30 → d + 9 ≤ 40 → RS_speak f (nI 0) (nI b) (nI K) (nI mm) (nI t) tr (nI K) (nI 3) x (nI d) = some (v x, nI p, nI (t + l.length), ap tr t l)) ∧ ∀ (t : Nat) (mt : Nat → Int32) (x : Int32), t + 9 ≤ 30 → F_X8_partsBy (nI t) row mt (nI b) x = some (v x, nI (t + l.length), nI p, ap mt t l)
theorem pg (hK : K ≤ 6) (hb : b < 6) (hm : mm ≤ 9) (h0 : row (8 + 3 * b) = nI K) (h1 : row (8 + 3 * b + 1) = nI mm) : ∃ (l : List Int32) (p : Nat) (v : Int32 → Int32), l.length ≤ 9 ∧ p < 2 ∧ Pok row b K mm l p v := by
  have ho := of0 hb h0
  obtain ⟨l, v, hl, hX, hM⟩ := tg hK hb h0 h1
  dsimp only at hX hM
  by_cases hmb : mm = b
  · have hkk : nI mm = nI b := by rw [hmb]
    rcases kind7 hK with rfl | rfl | rfl | rfl | rfl | rfl | rfl
    · refine ⟨[nI 13], 1, fun x => nI 0, by decide, by decide, fun f t d tr x hf ht hd => ?_, fun t mt x ht => ?_⟩
      · obtain ⟨g, rfl⟩ : ∃ g, f = g + 9 := ⟨f - 9, by omega⟩
        rw [RSs, spk (by decide +kernel : resd 0 3 0 13), if_neg (show ¬ 20 ≤ 13 by decide), top13, if_pos hkk]
        · rfl
        all_goals omega
      · unfold F_X8_partsBy
        rw [ho, bd_some, if_neg (show ¬ nI 0 = (1 : Int32) from by decide), bd_some, if_neg (show ¬ nI 0 = (4 : Int32) from by decide), plP hb hm h1 (by omega), if_pos hmb, bd_some]
        rfl
    · refine ⟨[nI 21, nI 13], 1, fun x => nI 0, by decide, by decide, fun f t d tr x hf ht hd => ?_, fun t mt x ht => ?_⟩
      · obtain ⟨g, rfl⟩ : ∃ g, f = g + 9 := ⟨f - 9, by omega⟩
        rw [RSs, spk (by decide +kernel : resd 1 3 1 21), if_pos (show 20 ≤ 21 by decide), low21, show xAbove 1 = nI 0 from by decide, RSs, spk (by decide +kernel : resd 0 3 0 13), if_neg (show ¬ 20 ≤ 13 by decide), top13, if_pos hkk, bd_some]
        · dsimp only
          rw [RSs, spkP (by decide +kernel : resd 1 1 0 11), bd_some]
          rfl
        all_goals omega
      · unfold F_X8_partsBy
        rw [ho, bd_some, if_pos (show nI 1 = (1 : Int32) from rfl), begins mt _ (by omega), bd_some]
        dsimp only
        rw [plP hb hm h1 (by omega), if_pos hmb, bd_some]
        rw [if_neg (show ¬ (nI 0, nI (t + 1 + 1), nI 1, upd (upd mt t (21 : Int32)) (t + 1) (nI 13)).2.2.1 = 0 from (by decide : ¬ nI 1 = 0))]
        rfl
    · refine ⟨[nI 13], 1, fun x => nI 0, by decide, by decide, fun f t d tr x hf ht hd => ?_, fun t mt x ht => ?_⟩
      · obtain ⟨g, rfl⟩ : ∃ g, f = g + 9 := ⟨f - 9, by omega⟩
        rw [RSs, spk (by decide +kernel : resd 2 3 0 13), if_neg (show ¬ 20 ≤ 13 by decide), top13, if_pos hkk]
        · rfl
        all_goals omega
      · unfold F_X8_partsBy
        rw [ho, bd_some, if_neg (show ¬ nI 2 = (1 : Int32) from by decide), bd_some, if_neg (show ¬ nI 2 = (4 : Int32) from by decide), plP hb hm h1 (by omega), if_pos hmb, bd_some]
        rfl
    · refine ⟨[nI 13], 1, fun x => nI 0, by decide, by decide, fun f t d tr x hf ht hd => ?_, fun t mt x ht => ?_⟩
      · obtain ⟨g, rfl⟩ : ∃ g, f = g + 9 := ⟨f - 9, by omega⟩
        rw [RSs, spk (by decide +kernel : resd 3 3 0 13), if_neg (show ¬ 20 ≤ 13 by decide), top13, if_pos hkk]
        · rfl
        all_goals omega
      · unfold F_X8_partsBy
        rw [ho, bd_some, if_neg (show ¬ nI 3 = (1 : Int32) from by decide), bd_some, if_neg (show ¬ nI 3 = (4 : Int32) from by decide), plP hb hm h1 (by omega), if_pos hmb, bd_some]
        rfl
    · refine ⟨[nI 21, nI 13], 1, fun x => nI 0, by decide, by decide, fun f t d tr x hf ht hd => ?_, fun t mt x ht => ?_⟩
      · obtain ⟨g, rfl⟩ : ∃ g, f = g + 9 := ⟨f - 9, by omega⟩
        rw [RSs, spk (by decide +kernel : resd 4 3 1 21), if_pos (show 20 ≤ 21 by decide), low21, show xAbove 1 = nI 0 from by decide, RSs, spk (by decide +kernel : resd 0 3 0 13), if_neg (show ¬ 20 ≤ 13 by decide), top13, if_pos hkk, bd_some]
        · dsimp only
          rw [RSs, spkP (by decide +kernel : resd 4 1 0 11), bd_some]
          rfl
        all_goals omega
      · unfold F_X8_partsBy
        rw [ho, bd_some, if_neg (show ¬ nI 4 = (1 : Int32) from by decide), bd_some, if_pos (show nI 4 = (4 : Int32) from rfl), begins mt _ (by omega), bd_some]
        dsimp only
        rw [plP hb hm h1 (by omega), if_pos hmb, bd_some]
        rw [if_neg (show ¬ (nI 0, nI (t + 1 + 1), nI 1, upd (upd mt t (21 : Int32)) (t + 1) (nI 13)).2.2.1 = 0 from (by decide : ¬ nI 1 = 0))]
        rfl
    · refine ⟨[nI 13], 1, fun x => nI 0, by decide, by decide, fun f t d tr x hf ht hd => ?_, fun t mt x ht => ?_⟩
      · obtain ⟨g, rfl⟩ : ∃ g, f = g + 9 := ⟨f - 9, by omega⟩
        rw [RSs, spk (by decide +kernel : resd 5 3 0 13), if_neg (show ¬ 20 ≤ 13 by decide), top13, if_pos hkk]
        · rfl
        all_goals omega
      · unfold F_X8_partsBy
        rw [ho, bd_some, if_neg (show ¬ nI 5 = (1 : Int32) from by decide), bd_some, if_neg (show ¬ nI 5 = (4 : Int32) from by decide), plP hb hm h1 (by omega), if_pos hmb, bd_some]
        rfl
    · refine ⟨[nI 13], 1, fun x => nI 0, by decide, by decide, fun f t d tr x hf ht hd => ?_, fun t mt x ht => ?_⟩
      · obtain ⟨g, rfl⟩ : ∃ g, f = g + 9 := ⟨f - 9, by omega⟩
        rw [RSs, spk (by decide +kernel : resd 6 3 0 13), if_neg (show ¬ 20 ≤ 13 by decide), top13, if_pos hkk]
        · rfl
        all_goals omega
      · unfold F_X8_partsBy
        rw [ho, bd_some, if_neg (show ¬ nI 6 = (1 : Int32) from by decide), bd_some, if_neg (show ¬ nI 6 = (4 : Int32) from by decide), plP hb hm h1 (by omega), if_pos hmb, bd_some]
        rfl
  · have hkk : ¬ nI mm = nI b := by rw [nI_eq (by omega) (by omega)]; exact hmb
    have hs0 : ¬ nI mm - nI b = 0 := fun e => hmb ((sub0 (by omega) (by omega)).mp e)
    rcases kind7 hK with rfl | rfl | rfl | rfl | rfl | rfl | rfl
    · refine ⟨[nI 13], 0, fun x => x / (nI mm - nI b), by decide, by decide, fun f t d tr x hf ht hd => ?_, fun t mt x ht => ?_⟩
      · obtain ⟨g, rfl⟩ : ∃ g, f = g + 9 := ⟨f - 9, by omega⟩
        rw [RSs, spk (by decide +kernel : resd 0 3 0 13), if_neg (show ¬ 20 ≤ 13 by decide), top13, if_neg hkk, if_neg hs0]
        · rfl
        all_goals omega
      · unfold F_X8_partsBy
        rw [ho, bd_some, if_neg (show ¬ nI 0 = (1 : Int32) from by decide), bd_some, if_neg (show ¬ nI 0 = (4 : Int32) from by decide), plP hb hm h1 (by omega), if_neg hmb, bd_some]
        rfl
    · refine ⟨nI 21 :: nI 13 :: l, 0, fun x => x / (nI mm - nI b) + v 1, by simp only [List.length_cons]; omega, by decide, fun f t d tr x hf ht hd => ?_, fun t mt x ht => ?_⟩
      · obtain ⟨g, rfl⟩ : ∃ g, f = g + 9 := ⟨f - 9, by omega⟩
        rw [RSs, spk (by decide +kernel : resd 1 3 1 21), if_pos (show 20 ≤ 21 by decide), low21, show xAbove 1 = nI 0 from by decide, RSs, spk (by decide +kernel : resd 0 3 0 13), if_neg (show ¬ 20 ≤ 13 by decide), top13, if_neg hkk, if_neg hs0, bd_some]
        · dsimp only
          rw [hX, bd_some]
          · dsimp only
            rw [show t + 1 + 1 + l.length = t + (nI 21 :: nI 13 :: l).length from by simp only [List.length_cons]; omega]
            rfl
          all_goals omega
        all_goals omega
      · unfold F_X8_partsBy
        rw [ho, bd_some, if_pos (show nI 1 = (1 : Int32) from rfl), begins mt _ (by omega), bd_some]
        dsimp only
        rw [plP hb hm h1 (by omega), if_neg hmb, bd_some]
        rw [if_pos (show (x / (nI mm - nI b), nI (t + 1 + 1), nI 0, upd (upd mt t (21 : Int32)) (t + 1) (nI 13)).2.2.1 = 0 from rfl)]
        dsimp only
        rw [hM (t + 1 + 1) _ _ (by omega), bd_some, show t + 1 + 1 + l.length = t + (nI 21 :: nI 13 :: l).length from by simp only [List.length_cons]; omega]
        rfl
    · refine ⟨[nI 13], 0, fun x => x / (nI mm - nI b), by decide, by decide, fun f t d tr x hf ht hd => ?_, fun t mt x ht => ?_⟩
      · obtain ⟨g, rfl⟩ : ∃ g, f = g + 9 := ⟨f - 9, by omega⟩
        rw [RSs, spk (by decide +kernel : resd 2 3 0 13), if_neg (show ¬ 20 ≤ 13 by decide), top13, if_neg hkk, if_neg hs0]
        · rfl
        all_goals omega
      · unfold F_X8_partsBy
        rw [ho, bd_some, if_neg (show ¬ nI 2 = (1 : Int32) from by decide), bd_some, if_neg (show ¬ nI 2 = (4 : Int32) from by decide), plP hb hm h1 (by omega), if_neg hmb, bd_some]
        rfl
    · refine ⟨[nI 13], 0, fun x => x / (nI mm - nI b), by decide, by decide, fun f t d tr x hf ht hd => ?_, fun t mt x ht => ?_⟩
      · obtain ⟨g, rfl⟩ : ∃ g, f = g + 9 := ⟨f - 9, by omega⟩
        rw [RSs, spk (by decide +kernel : resd 3 3 0 13), if_neg (show ¬ 20 ≤ 13 by decide), top13, if_neg hkk, if_neg hs0]
        · rfl
        all_goals omega
      · unfold F_X8_partsBy
        rw [ho, bd_some, if_neg (show ¬ nI 3 = (1 : Int32) from by decide), bd_some, if_neg (show ¬ nI 3 = (4 : Int32) from by decide), plP hb hm h1 (by omega), if_neg hmb, bd_some]
        rfl
    · refine ⟨nI 21 :: nI 13 :: l, 0, fun x => x / (nI mm - nI b) + v 1, by simp only [List.length_cons]; omega, by decide, fun f t d tr x hf ht hd => ?_, fun t mt x ht => ?_⟩
      · obtain ⟨g, rfl⟩ : ∃ g, f = g + 9 := ⟨f - 9, by omega⟩
        rw [RSs, spk (by decide +kernel : resd 4 3 1 21), if_pos (show 20 ≤ 21 by decide), low21, show xAbove 1 = nI 0 from by decide, RSs, spk (by decide +kernel : resd 0 3 0 13), if_neg (show ¬ 20 ≤ 13 by decide), top13, if_neg hkk, if_neg hs0, bd_some]
        · dsimp only
          rw [hX, bd_some]
          · dsimp only
            rw [show t + 1 + 1 + l.length = t + (nI 21 :: nI 13 :: l).length from by simp only [List.length_cons]; omega]
            rfl
          all_goals omega
        all_goals omega
      · unfold F_X8_partsBy
        rw [ho, bd_some, if_neg (show ¬ nI 4 = (1 : Int32) from by decide), bd_some, if_pos (show nI 4 = (4 : Int32) from rfl), begins mt _ (by omega), bd_some]
        dsimp only
        rw [plP hb hm h1 (by omega), if_neg hmb, bd_some]
        rw [if_pos (show (x / (nI mm - nI b), nI (t + 1 + 1), nI 0, upd (upd mt t (21 : Int32)) (t + 1) (nI 13)).2.2.1 = 0 from rfl)]
        dsimp only
        rw [hM (t + 1 + 1) _ _ (by omega), bd_some, show t + 1 + 1 + l.length = t + (nI 21 :: nI 13 :: l).length from by simp only [List.length_cons]; omega]
        rfl
    · refine ⟨[nI 13], 0, fun x => x / (nI mm - nI b), by decide, by decide, fun f t d tr x hf ht hd => ?_, fun t mt x ht => ?_⟩
      · obtain ⟨g, rfl⟩ : ∃ g, f = g + 9 := ⟨f - 9, by omega⟩
        rw [RSs, spk (by decide +kernel : resd 5 3 0 13), if_neg (show ¬ 20 ≤ 13 by decide), top13, if_neg hkk, if_neg hs0]
        · rfl
        all_goals omega
      · unfold F_X8_partsBy
        rw [ho, bd_some, if_neg (show ¬ nI 5 = (1 : Int32) from by decide), bd_some, if_neg (show ¬ nI 5 = (4 : Int32) from by decide), plP hb hm h1 (by omega), if_neg hmb, bd_some]
        rfl
    · refine ⟨[nI 13], 0, fun x => x / (nI mm - nI b), by decide, by decide, fun f t d tr x hf ht hd => ?_, fun t mt x ht => ?_⟩
      · obtain ⟨g, rfl⟩ : ∃ g, f = g + 9 := ⟨f - 9, by omega⟩
        rw [RSs, spk (by decide +kernel : resd 6 3 0 13), if_neg (show ¬ 20 ≤ 13 by decide), top13, if_neg hkk, if_neg hs0]
        · rfl
        all_goals omega
      · unfold F_X8_partsBy
        rw [ho, bd_some, if_neg (show ¬ nI 6 = (1 : Int32) from by decide), bd_some, if_neg (show ¬ nI 6 = (4 : Int32) from by decide), plP hb hm h1 (by omega), if_neg hmb, bd_some]
        rfl
end VQ
section
variable {c : Nat} {x_hasI : Int32} {x_imgs : Int32} {x_vow : Int32} {x_day : Int32} {x_worth : Int32} {x_z : Int32} {x_kinds_m : Int32} {x_kinds_f : Nat → Int32} {x_ms_m : Int32} {x_ms_f : Nat → Int32} {x_said_m : Int32} {x_said_f : Nat → Int32} {x_signs_m : Int32} {x_signs_f : Nat → Int32} {x_tape_m : Int32} {x_tape_f : Nat → Int32} {x_avo_m : Int32} {x_avo_f : Nat → Int32} {x_tal_m : Int32} {x_tal_f : Nat → Int32} {x_wai_m : Int32} {x_wai_f : Nat → Int32} {x_kp_vow : Int32} {x_kp_day : Int32} {x_kp_worth : Int32} {x_kp_z : Int32} {x_kp_kinds_m : Int32} {x_kp_kinds_f : Nat → Int32} {x_kp_ms_m : Int32} {x_kp_ms_f : Nat → Int32} {x_kp_said_m : Int32} {x_kp_said_f : Nat → Int32} {x_kp_signs_m : Int32} {x_kp_signs_f : Nat → Int32} {x_kp_tape_m : Int32} {x_kp_tape_f : Nat → Int32} {x_kp_avo_m : Int32} {x_kp_avo_f : Nat → Int32} {x_kp_tal_m : Int32} {x_kp_tal_f : Nat → Int32} {x_kp_wai_m : Int32} {x_kp_wai_f : Nat → Int32} {x_fitting : Int32} {x_spread_f : Nat → Int32} {x_breakers_f : Nat → Int64} {x_fit_f : Nat → Int32} {x_counted_f : Nat → Int32} {x_kk : Nat} {x_rat : Int32} {x_flt : Int32} {x_codes_m : Int32} {x_codes_f : Nat → Int32} {x_stack_m : Int32} {x_stack_f : Nat → Int32} {x_parted : Int32} {x_vkk : Int32} {x_vkd : Int32} {x_vmm : Int32} {x_trace_m : Int32} {x_trace_f : Nat → Int32} {x_er_f : Nat → Int32} {x_bits0 : Int32} {x_num0_m : Int32} {x_num0_f : Nat → Int32} {x_bits1 : Int32} {x_num1_m : Int32} {x_num1_f : Nat → Int32} {x_bits2 : Int32} {x_num2_m : Int32} {x_num2_f : Nat → Int32} {x_bits3 : Int32} {x_num3_m : Int32} {x_num3_f : Nat → Int32} {m_images : Int32} {m_mfit : Int32} {m_known : Int32} {m_laid : Int32} {m_hre : Int32} {m_opnd : Int32} {m_bad : Int32} {m_usg : Int32} {m_trcd : Int32} {m_isP : Int32} {m_row_f : Nat → Int32} {m_kpt_f : Nat → Int32} {m_errs_f : Nat → Int32} {m_bitsOf_f : Nat → Int32} {m_sizeOf_f : Nat → Int32} {m_cels_f : Nat → Int32} {m_broken_f : Nat → Int64} {m_isFit_f : Nat → Int32} {m_breaks_f : Nat → Int32} {m_act_f : Nat → Int32} {m_wth_f : Nat → Int32} {m_facts_f : Nat → Int32} {m_pile_f : Nat → Int32} {m_trc_f : Nat → Int32}
theorem k_voice (iS : IvS x_vow x_day x_worth x_z x_kinds_m x_kinds_f x_ms_m x_ms_f x_said_m x_said_f x_signs_m x_signs_f x_tape_m x_tape_f x_avo_m x_avo_f x_tal_m x_tal_f x_wai_m x_wai_f m_row_f) (iR : IvR x_trace_m x_trace_f m_trcd m_trc_f) (iE : IvE x_er_f m_errs_f) (br : Int32) (vo : Int32) (xx : Int32) : ∃ (u : (Int32 × Int32 × Int32 × Int32 × Int32 × Int32 × (Nat → Int32) × (Nat → Int32))) (w : (Int32 × Int32 × Int32 × (Nat → Int32) × (Nat → Int32))), F_X7_voice x_kinds_m x_kinds_f x_ms_m x_ms_f x_parted x_vkk x_vkd x_vmm x_trace_m x_trace_f x_er_f br vo xx = some u ∧ F_X8_voice m_trcd m_isP m_row_f m_errs_f m_trc_f br vo xx = some w ∧ u.1 = w.1 ∧ IvR u.2.2.2.2.2.1 u.2.2.2.2.2.2.1 w.2.1 w.2.2.2.2 ∧ IvE u.2.2.2.2.2.2.2 w.2.2.2.1 := by
  have iB := iS.2.1
  obtain ⟨n, hB, b1, b2, b3, b4, b5⟩ := iB
  rcases ix br n (by omega) with h | ⟨b, hb, rfl⟩
  · refine ⟨(-(nI 1000000001), x_parted, x_vkk, x_vkd, x_vmm, x_trace_m, x_trace_f, upd x_er_f 1 (x_er_f 1 + nI 1)), (-(nI 1000000001), m_trcd, m_isP, upd m_errs_f 1 (m_errs_f 1 + nI 1), m_trc_f), ?_, ?_, rfl, iR, iE.err 1⟩
    · unfold F_X7_voice
      rw [show F_X7_isBrother x_kinds_m br = some (nI 0) from by rw [b1]; exact isB_N h, bd_some, if_pos (show nI 0 = 0 from rfl), show F_X7_error x_er_f (1 : Int32) = _ from x_err1 x_er_f, bd_some]
    · unfold F_X8_voice
      rw [mB_N b4 h (by omega), bd_some, if_pos (show nI 0 = 0 from rfl), show F_X8_error m_errs_f (-1000000001 : Int32) = _ from m_err1 m_errs_f, bd_some]
  have hB7 : F_X7_isBrother x_kinds_m (nI b) = some (nI 1) := by rw [b1]; exact isB_Y hb (by omega)
  have hB8 := mB_Y b4 hb (by omega)
  rcases ix vo 4 (by omega) with h | ⟨V, hV, rfl⟩
  · refine ⟨(-(nI 1000000001), x_parted, x_vkk, x_vkd, x_vmm, x_trace_m, x_trace_f, upd x_er_f 1 (x_er_f 1 + nI 1)), (-(nI 1000000001), m_trcd, m_isP, upd m_errs_f 1 (m_errs_f 1 + nI 1), m_trc_f), ?_, ?_, rfl, iR, iE.err 1⟩
    · unfold F_X7_voice
      rw [hB7, bd_some, if_neg (show ¬ nI 1 = 0 from by decide), show F_X7_within vo (0 : Int32) (3 : Int32) = _ from w_N (M := 3) h (by omega), bd_some, if_pos (show nI 0 = 0 from rfl), show F_X7_error x_er_f (1 : Int32) = _ from x_err1 x_er_f, bd_some]
    · unfold F_X8_voice
      rw [hB8, bd_some, if_neg (show ¬ nI 1 = 0 from by decide), show F_X8_in vo (0 : Int32) (3 : Int32) = _ from w_N (M := 3) h (by omega), bd_some, if_pos (show nI 0 = 0 from rfl), show F_X8_error m_errs_f (-1000000001 : Int32) = _ from m_err1 m_errs_f, bd_some]
  have hw7 : F_X7_within (nI V) (0 : Int32) (3 : Int32) = some (nI 1) := w_Y (M := 3) (show V ≤ 3 by omega) (by omega)
  have hw8 : F_X8_in (nI V) (0 : Int32) (3 : Int32) = some (nI 1) := hw7
  obtain ⟨p1, p2, p3, K, mm, dd, hK, hmm, hdd, r1, r2, r3⟩ := b5 b hb
  have hgk : F_X1_get 6 x_kinds_m x_kinds_f (nI b) = some (nI K) := by rw [b1, x_get _ hb hB (by omega), p1, r1]
  have hgm : F_X1_get 6 x_ms_m x_ms_f (nI b) = some (nI mm) := by rw [b2, x_get _ hb hB (by omega), p2, r2]
  have hbb : b < 6 := by omega
  have done : ∀ (l : List Int32) (p : Nat) (v : Int32), l.length ≤ 9 → p < 2 → RS_speak 14 (nI 0) (nI b) (nI K) (nI mm) (nI 0) x_trace_f (nI K) (nI V) xx (nI 0) = some (v, nI p, nI (0 + l.length), ap x_trace_f 0 l) → (p = 0 → F_X8_voice m_trcd m_isP m_row_f m_errs_f m_trc_f (nI b) (nI V) xx = some (v, nI (0 + l.length), nI 0, m_errs_f, ap m_trc_f 0 l)) → (p = 1 → F_X8_voice m_trcd m_isP m_row_f m_errs_f m_trc_f (nI b) (nI V) xx = some (-(nI 1000000006), nI (0 + l.length), nI 1, upd m_errs_f 6 (m_errs_f 6 + nI 1), ap m_trc_f 0 l)) → ∃ (u : Int32 × Int32 × Int32 × Int32 × Int32 × Int32 × (Nat → Int32) × (Nat → Int32)) (w : Int32 × Int32 × Int32 × (Nat → Int32) × (Nat → Int32)), F_X7_voice x_kinds_m x_kinds_f x_ms_m x_ms_f x_parted x_vkk x_vkd x_vmm x_trace_m x_trace_f x_er_f (nI b) (nI V) xx = some u ∧ F_X8_voice m_trcd m_isP m_row_f m_errs_f m_trc_f (nI b) (nI V) xx = some w ∧ u.1 = w.1 ∧ IvR u.2.2.2.2.2.1 u.2.2.2.2.2.2.1 w.2.1 w.2.2.2.2 ∧ IvE u.2.2.2.2.2.2.2 w.2.2.2.1 := by
    intro l p v hl hp hX hM0 hM1
    have hR : IvR (nI (0 + l.length)) (ap x_trace_f 0 l) (nI (0 + l.length)) (ap m_trc_f 0 l) := ⟨0 + l.length, by omega, rfl, rfl, ap_ok l x_trace_f m_trc_f 0 (fun i hi => absurd hi (Nat.not_lt_zero i))⟩
    have hh : F_X4_hear x_trace_f (nI b) (nI K) (nI mm) (nI V) xx = some (v, nI p, nI b, nI K, nI mm, nI (0 + l.length), ap x_trace_f 0 l) := by
      unfold F_X4_hear F_X1_clear
      rw [bd_some]
      exact (congrArg (fun o => bd o _) hX).trans rfl
    have hV7 : F_X7_voice x_kinds_m x_kinds_f x_ms_m x_ms_f x_parted x_vkk x_vkd x_vmm x_trace_m x_trace_f x_er_f (nI b) (nI V) xx = (if nI p = 0 then some (v, nI p, nI b, nI K, nI mm, nI (0 + l.length), ap x_trace_f 0 l, x_er_f) else some (-(nI 1000000006), nI p, nI b, nI K, nI mm, nI (0 + l.length), ap x_trace_f 0 l, upd x_er_f 6 (x_er_f 6 + nI 1))) := by
      unfold F_X7_voice
      rw [hB7, bd_some, if_neg (show ¬ nI 1 = 0 from by decide), hw7, bd_some, if_neg (show ¬ nI 1 = 0 from by decide), hgk, bd_some, hgm, bd_some, hh, bd_some, show F_X7_error x_er_f (6 : Int32) = _ from x_err6 x_er_f, bd_some]
    rcases (show p = 0 ∨ p = 1 by omega) with rfl | rfl
    · rw [if_pos (show nI 0 = 0 from rfl)] at hV7
      exact ⟨_, _, hV7, hM0 rfl, rfl, hR, iE⟩
    · rw [if_neg (show ¬ nI 1 = 0 from by decide)] at hV7
      exact ⟨_, _, hV7, hM1 rfl, rfl, hR, iE.err 6⟩
  rcases (show V = 0 ∨ V = 1 ∨ V = 2 ∨ V = 3 by omega) with rfl | rfl | rfl | rfl
  · obtain ⟨l, v, hl, hX, hM⟩ := cg (m := nI mm) hK hbb r1
    dsimp only at hX hM
    refine done l 0 (v xx) (by omega) (by omega) (hX 14 0 0 x_trace_f xx (by omega) (by omega) (by omega)) (fun _ => ?_) (fun h => by cases h)
    unfold F_X8_voice
    rw [hB8, bd_some, if_neg (show ¬ nI 1 = 0 from by decide), hw8, bd_some, if_neg (show ¬ nI 1 = 0 from by decide), if_pos (show nI 0 = 0 from rfl)]
    exact (congrArg (fun o => bd o _) (hM 0 m_trc_f xx (by omega))).trans rfl
  · obtain ⟨l, v, hl, hX, hM⟩ := tg hK hbb r1 r2
    dsimp only at hX hM
    refine done l 0 (v xx) (by omega) (by omega) (hX 14 0 0 x_trace_f xx (by omega) (by omega) (by omega)) (fun _ => ?_) (fun h => by cases h)
    unfold F_X8_voice
    rw [hB8, bd_some, if_neg (show ¬ nI 1 = 0 from by decide), hw8, bd_some, if_neg (show ¬ nI 1 = 0 from by decide), if_neg (show ¬ nI 1 = 0 from by decide), if_pos (show nI 1 = (1 : Int32) from rfl)]
    exact (congrArg (fun o => bd o _) (hM 0 m_trc_f xx (by omega))).trans rfl
  · obtain ⟨l, v, hl, hX, hM⟩ := hg hK hbb r1 r2
    dsimp only at hX hM
    refine done l 0 (v xx) (by omega) (by omega) (hX 14 0 0 x_trace_f xx (by omega) (by omega) (by omega)) (fun _ => ?_) (fun h => by cases h)
    unfold F_X8_voice
    rw [hB8, bd_some, if_neg (show ¬ nI 1 = 0 from by decide), hw8, bd_some, if_neg (show ¬ nI 1 = 0 from by decide), if_neg (show ¬ nI 2 = 0 from by decide), if_neg (show ¬ nI 2 = (1 : Int32) from by decide), if_pos (show nI 2 = (2 : Int32) from rfl)]
    exact (congrArg (fun o => bd o _) (hM 0 m_trc_f xx (by omega))).trans rfl
  · obtain ⟨l, p, v, hl, hp, hX, hM⟩ := pg hK hbb hmm r1 r2
    have hM' := hM 0 m_trc_f xx (by omega)
    have hV8 : F_X8_voice m_trcd m_isP m_row_f m_errs_f m_trc_f (nI b) (nI 3) xx = (if nI p = 0 then some (v xx, nI (0 + l.length), nI p, m_errs_f, ap m_trc_f 0 l) else some (-(nI 1000000006), nI (0 + l.length), nI p, upd m_errs_f 6 (m_errs_f 6 + nI 1), ap m_trc_f 0 l)) := by
      unfold F_X8_voice
      rw [hB8, bd_some, if_neg (show ¬ nI 1 = 0 from by decide), hw8, bd_some, if_neg (show ¬ nI 1 = 0 from by decide), if_neg (show ¬ nI 3 = 0 from by decide), if_neg (show ¬ nI 3 = (1 : Int32) from by decide), if_neg (show ¬ nI 3 = (2 : Int32) from by decide), show F_X8_error m_errs_f (-1000000006 : Int32) = _ from m_err6 m_errs_f]
      exact (congrArg (fun o => bd o _) hM').trans rfl
    refine done l p (v xx) hl hp (hX 14 0 0 x_trace_f xx (by omega) (by omega) (by omega)) (fun h => ?_) (fun h => ?_)
    · rw [hV8, h, if_pos (show nI 0 = 0 from rfl)]
    · rw [hV8, h, if_neg (show ¬ nI 1 = 0 from by decide)]
end
theorem st_voice (G : xG) (tx : Nat) (wx : Nat → Nat) (tm : Nat) (wm : Nat → Nat) (a0 : Int32) (a1 : Int32) (a2 : Int32) : StpI G tx wx tm wm yX7_voice (Cond.code yX7_voice cX7_voice 5 (some .int)) yX8_voice (Cond.code yX8_voice cX8_voice 5 (some .int)) [.int a0, .int a1, .int a2] := by
  intro c ws hc h
  refine h.on (fun x_hasI x_imgs x_vow x_day x_worth x_z x_kinds_m x_kinds_f x_ms_m x_ms_f x_said_m x_said_f x_signs_m x_signs_f x_tape_m x_tape_f x_avo_m x_avo_f x_tal_m x_tal_f x_wai_m x_wai_f x_kp_vow x_kp_day x_kp_worth x_kp_z x_kp_kinds_m x_kp_kinds_f x_kp_ms_m x_kp_ms_f x_kp_said_m x_kp_said_f x_kp_signs_m x_kp_signs_f x_kp_tape_m x_kp_tape_f x_kp_avo_m x_kp_avo_f x_kp_tal_m x_kp_tal_f x_kp_wai_m x_kp_wai_f x_fitting x_spread_f x_breakers_f x_fit_f x_counted_f x_kk x_rat x_flt x_codes_m x_codes_f x_stack_m x_stack_f x_parted x_vkk x_vkd x_vmm x_trace_m x_trace_f x_er_f x_bits0 x_num0_m x_num0_f x_bits1 x_num1_m x_num1_f x_bits2 x_num2_m x_num2_f x_bits3 x_num3_m x_num3_f m_images m_mfit m_known m_laid m_hre m_opnd m_bad m_usg m_trcd m_isP m_row_f m_kpt_f m_errs_f m_bitsOf_f m_sizeOf_f m_cels_f m_broken_f m_isFit_f m_breaks_f m_act_f m_wth_f m_facts_f m_pile_f m_trc_f hW hI => ?_)
  subst hW
  obtain ⟨iS, iV, iF, iR, iE, iH0, iH1, iH2, iH3, iK⟩ := hI
  have jK : ∃ k : Nat, k ≤ c + 1 ∧ x_imgs = nI k ∧ m_images = nI k ∧ (x_hasI = if k = 0 then nI 0 else nI 1) ∧ (k ≠ 0 → IvS x_kp_vow x_kp_day x_kp_worth x_kp_z x_kp_kinds_m x_kp_kinds_f x_kp_ms_m x_kp_ms_f x_kp_said_m x_kp_said_f x_kp_signs_m x_kp_signs_f x_kp_tape_m x_kp_tape_f x_kp_avo_m x_kp_avo_f x_kp_tal_m x_kp_tal_f x_kp_wai_m x_kp_wai_f m_kpt_f) := by
    obtain ⟨k, hk, q⟩ := iK
    exact ⟨k, by omega, q⟩
  obtain ⟨u, w, e1, e2, e3, jR, jE⟩ := k_voice iS iR iE a0 a1 a2
  exact s_voice G tx wx tm wm x_hasI x_imgs x_vow x_day x_worth x_z x_kinds_m x_kinds_f x_ms_m x_ms_f x_said_m x_said_f x_signs_m x_signs_f x_tape_m x_tape_f x_avo_m x_avo_f x_tal_m x_tal_f x_wai_m x_wai_f x_kp_vow x_kp_day x_kp_worth x_kp_z x_kp_kinds_m x_kp_kinds_f x_kp_ms_m x_kp_ms_f x_kp_said_m x_kp_said_f x_kp_signs_m x_kp_signs_f x_kp_tape_m x_kp_tape_f x_kp_avo_m x_kp_avo_f x_kp_tal_m x_kp_tal_f x_kp_wai_m x_kp_wai_f x_fitting x_spread_f x_breakers_f x_fit_f x_counted_f x_kk x_rat x_flt x_codes_m x_codes_f x_stack_m x_stack_f x_parted x_vkk x_vkd x_vmm x_trace_m x_trace_f x_er_f x_bits0 x_num0_m x_num0_f x_bits1 x_num1_m x_num1_f x_bits2 x_num2_m x_num2_f x_bits3 x_num3_m x_num3_f m_images m_mfit m_known m_laid m_hre m_opnd m_bad m_usg m_trcd m_isP m_row_f m_kpt_f m_errs_f m_bitsOf_f m_sizeOf_f m_cels_f m_broken_f m_isFit_f m_breaks_f m_act_f m_wth_f m_facts_f m_pile_f m_trc_f a0 a1 a2 u w e1 e2 e3 ⟨iS, iV, iF, jR, jE, iH0, iH1, iH2, iH3, jK⟩
