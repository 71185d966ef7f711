/-! PURE: say, days by draws -/
theorem keptX {a : Nat} (h : a ≤ 200000) : (if nI a < nI 99999 then nI a else nI 99999) = nI (min a 99999) := by
  by_cases h1 : a < 99999
  · rw [if_pos ((nI_ltI (by omega) (by omega)).mpr h1), Nat.min_eq_left (by omega)]
  · rw [if_neg (by rw [nI_ltI (by omega) (by omega)]; exact h1), Nat.min_eq_right (by omega)]
theorem keptM {a : Nat} (h : a ≤ 200000) : F_X8_held (nI a) (nI 0) (nI 99999) = some (nI (min a 99999)) := by
  unfold F_X8_held
  rw [if_pos ((nI_leI (by omega) (by omega)).mpr (Nat.zero_le _))]
  by_cases h1 : a ≤ 99999
  · rw [if_pos ((nI_leI (by omega) (by omega)).mpr h1), Nat.min_eq_left h1]
  · rw [if_neg (by rw [nI_leI (by omega) (by omega)]; exact h1), Nat.min_eq_right (by omega)]
theorem drawn_nat (x : Int32) : ∃ a : Nat, a < 16777216 ∧ (x.toUInt32 >>> ((nI 8).toUInt32 &&& Int32.toUInt32 31)).toInt32 = nI a := by
  refine ⟨x.toUInt32.toNat / 256, ?_, ?_⟩
  · have h := x.toUInt32.toNat_lt
    omega
  · apply Int32.toBitVec_inj.mp
    show (x.toUInt32 >>> ((nI 8).toUInt32 &&& Int32.toUInt32 31)).toBitVec = BitVec.ofNat 32 (x.toUInt32.toNat / 256)
    apply BitVec.eq_of_toNat_eq
    show (x.toUInt32 >>> ((nI 8).toUInt32 &&& Int32.toUInt32 31)).toNat = _
    rw [UInt32.toNat_shiftRight, show ((nI 8).toUInt32 &&& Int32.toUInt32 31).toNat % 32 = 8 from by decide +kernel, Nat.shiftRight_eq_div_pow, BitVec.toNat_ofNat]
    have h := x.toUInt32.toNat_lt
    rw [Nat.mod_eq_of_lt (by omega)]
theorem draws (z : Int32) : ∃ (a : Nat) (z' : Int32) (u : Int32 × Int32), a < 16777216 ∧ (F_X3_draw z = some u ∧ u.1 = nI a ∧ u.2 = z') ∧ ∀ row : Nat → Int32, row 1 = z → ∃ w : Int32 × (Nat → Int32), F_X8_draw row = some w ∧ w.1 = nI a ∧ w.2 = upd row 1 z' := by
  obtain ⟨a, ha, q⟩ := drawn_nat (z * (1103515245 : Int32) + (12345 : Int32))
  refine ⟨a, z * (1103515245 : Int32) + (12345 : Int32), (nI a, z * (1103515245 : Int32) + (12345 : Int32)), ha, ⟨?_, rfl, rfl⟩, fun row h => ⟨(nI a, upd row 1 (z * (1103515245 : Int32) + (12345 : Int32))), ?_, rfl, rfl⟩⟩
  · unfold F_X3_draw
    simp only [l8, q]
  · unfold F_X8_draw
    rw [show (1 : Int32).toNatClampNeg = 1 from by decide +kernel, pk_us, h]
    simp only [l8, q]
section
variable {c : Nat} {x_hasI : Int32} {x_imgs : Int32} {x_vow : Int32} {x_day : Int32} {x_worth : Int32} {x_z : Int32} {x_kinds_m : Int32} {x_kinds_f : Nat → Int32} {x_ms_m : Int32} {x_ms_f : Nat → Int32} {x_said_m : Int32} {x_said_f : Nat → Int32} {x_signs_m : Int32} {x_signs_f : Nat → Int32} {x_tape_m : Int32} {x_tape_f : Nat → Int32} {x_avo_m : Int32} {x_avo_f : Nat → Int32} {x_tal_m : Int32} {x_tal_f : Nat → Int32} {x_wai_m : Int32} {x_wai_f : Nat → Int32} {x_kp_vow : Int32} {x_kp_day : Int32} {x_kp_worth : Int32} {x_kp_z : Int32} {x_kp_kinds_m : Int32} {x_kp_kinds_f : Nat → Int32} {x_kp_ms_m : Int32} {x_kp_ms_f : Nat → Int32} {x_kp_said_m : Int32} {x_kp_said_f : Nat → Int32} {x_kp_signs_m : Int32} {x_kp_signs_f : Nat → Int32} {x_kp_tape_m : Int32} {x_kp_tape_f : Nat → Int32} {x_kp_avo_m : Int32} {x_kp_avo_f : Nat → Int32} {x_kp_tal_m : Int32} {x_kp_tal_f : Nat → Int32} {x_kp_wai_m : Int32} {x_kp_wai_f : Nat → Int32} {x_fitting : Int32} {x_spread_f : Nat → Int32} {x_breakers_f : Nat → Int64} {x_fit_f : Nat → Int32} {x_counted_f : Nat → Int32} {x_kk : Nat} {x_rat : Int32} {x_flt : Int32} {x_codes_m : Int32} {x_codes_f : Nat → Int32} {x_stack_m : Int32} {x_stack_f : Nat → Int32} {x_parted : Int32} {x_vkk : Int32} {x_vkd : Int32} {x_vmm : Int32} {x_trace_m : Int32} {x_trace_f : Nat → Int32} {x_er_f : Nat → Int32} {x_bits0 : Int32} {x_num0_m : Int32} {x_num0_f : Nat → Int32} {x_bits1 : Int32} {x_num1_m : Int32} {x_num1_f : Nat → Int32} {x_bits2 : Int32} {x_num2_m : Int32} {x_num2_f : Nat → Int32} {x_bits3 : Int32} {x_num3_m : Int32} {x_num3_f : Nat → Int32} {m_images : Int32} {m_mfit : Int32} {m_known : Int32} {m_laid : Int32} {m_hre : Int32} {m_opnd : Int32} {m_bad : Int32} {m_usg : Int32} {m_trcd : Int32} {m_isP : Int32} {m_row_f : Nat → Int32} {m_kpt_f : Nat → Int32} {m_errs_f : Nat → Int32} {m_bitsOf_f : Nat → Int32} {m_sizeOf_f : Nat → Int32} {m_cels_f : Nat → Int32} {m_broken_f : Nat → Int64} {m_isFit_f : Nat → Int32} {m_breaks_f : Nat → Int32} {m_act_f : Nat → Int32} {m_wth_f : Nat → Int32} {m_facts_f : Nat → Int32} {m_pile_f : Nat → Int32} {m_trc_f : Nat → Int32}
theorem says2 {n b s sl : Nat} (iS : IvS x_vow x_day x_worth x_z x_kinds_m x_kinds_f x_ms_m x_ms_f x_said_m x_said_f x_signs_m x_signs_f x_tape_m x_tape_f x_avo_m x_avo_f x_tal_m x_tal_f x_wai_m x_wai_f m_row_f) (iV : IvV x_spread_f x_breakers_f m_broken_f) (iF : IvF m_row_f x_fitting x_fit_f x_counted_f m_mfit m_known m_isFit_f m_breaks_f) (h2 : m_row_f 2 = nI n) (hn : n ≤ 6) (hb : b < n) (hs : s < 64) (hsl : sl < 2) (stm : Int32) (stf facts pile : Nat → Int32) : ∃ (u : Int32 × Int32 × (Nat → Int32) × Int32 × (Nat → Int32) × Int32 × (Nat → Int32) × (Nat → Int32) × Int32 × (Nat → Int32)) (w : Int32 × Int32 × (Nat → Int32) × (Nat → Int32) × (Nat → Int32)), F_X7_says x_vow x_day x_worth x_kinds_m x_kinds_f x_ms_m x_ms_f x_said_m x_said_f x_signs_m x_signs_f x_tal_m x_tal_f x_fitting x_breakers_f x_fit_f x_counted_f stm stf (nI b) (nI s) (nI sl) = some u ∧ F_X8_says m_known m_row_f m_broken_f facts pile (nI b) (nI s) (nI sl) = some w ∧ u.1 = w.1 ∧ IvS x_vow x_day u.2.1 x_z x_kinds_m x_kinds_f x_ms_m x_ms_f x_said_m u.2.2.1 u.2.2.2.1 u.2.2.2.2.1 x_tape_m x_tape_f x_avo_m x_avo_f x_tal_m x_tal_f x_wai_m x_wai_f w.2.2.1 ∧ IvF w.2.2.1 u.2.2.2.2.2.1 u.2.2.2.2.2.2.1 u.2.2.2.2.2.2.2.1 m_mfit w.2.1 m_isFit_f m_breaks_f := by
  obtain ⟨tw, htw, v1, v2⟩ := tk iS h2 hn hb hs
  obtain ⟨stm', stf', hx⟩ := v1 stm stf
  obtain ⟨fa, pl, hm⟩ := v2 facts pile
  have iN0 := iS.1
  have iB0 := iS.2.1
  have iG0 := iS.2.2.1
  obtain ⟨a1, a2, a3, a4, v, d, w, hv, hd, hw, e1, e2, e3⟩ := iN0
  obtain ⟨nB, hB, b1, b2, b3, b4, b5⟩ := iB0
  have en : n = nB := (nI_eq (by omega) (by omega)).mp (h2.symm.trans b4)
  subst en
  obtain ⟨g, hg, g1, g2, g3⟩ := iG0
  obtain ⟨p1, p2, p3, k, m, dd, hk, hmm, hdd, r1, r2, r3⟩ := b5 b hb
  have hrow1 : ∀ row1, row1 = upd (upd m_row_f 4 (nI (min (w + tw) 99999))) (8 + 3 * b + 2) (nI (min (dd + 1) 99999)) → IvS x_vow x_day (nI (min (w + tw) 99999)) x_z x_kinds_m x_kinds_f x_ms_m x_ms_f x_said_m (upd x_said_f b (nI (min (dd + 1) 99999))) x_signs_m x_signs_f x_tape_m x_tape_f x_avo_m x_avo_f x_tal_m x_tal_f x_wai_m x_wai_f row1 ∧ IvF row1 x_fitting x_fit_f x_counted_f m_mfit m_known m_isFit_f m_breaks_f := by
    rintro row1 rfl
    have i1 : IvS x_vow x_day (nI (min (w + tw) 99999)) x_z x_kinds_m x_kinds_f x_ms_m x_ms_f x_said_m x_said_f x_signs_m x_signs_f x_tape_m x_tape_f x_avo_m x_avo_f x_tal_m x_tal_f x_wai_m x_wai_f (upd m_row_f 4 (nI (min (w + tw) 99999))) :=
      iS.stN ⟨by rw [pk_un (by omega), a1], by rw [pk_un (by omega), a2], pk_us, by rw [pk_un (by omega), a4], v, d, min (w + tw) 99999, hv, hd, Nat.min_le_right _ _, e1, e2, rfl⟩ (fun j _ _ _ => pk_un (by omega))
    refine ⟨i1.stB ⟨n, hB, b1, b2, b3, by simp (disch := omega) only [pk_un]; exact b4, fun j hj => ?_⟩ (fun j h1 h2 => pk_un (by omega)), iF.keep iS (by simp (disch := omega) only [pk_un]) (fun j _ _ => by simp (disch := omega) only [pk_un])⟩
    obtain ⟨q1, q2, q3, k0, v0, d0, l1', l2', l3', s1, s2, s3⟩ := b5 j hj
    by_cases hjb : j = b
    · subst hjb
      simp (disch := omega) only [pk_us, pk_un]
      exact ⟨q1, q2, trivial, k0, v0, min (dd + 1) 99999, l1', l2', Nat.min_le_right _ _, s1, s2, rfl⟩
    · simp (disch := omega) only [pk_un]
      exact ⟨q1, q2, q3, k0, v0, d0, l1', l2', l3', s1, s2, s3⟩
  obtain ⟨iS1, iF1⟩ := hrow1 _ rfl
  have hbx := x_breaks iV.2.1 (v := v) (s := s) (by omega) hs
  have hbm := m_doesBreak iV.2.2 (v := v) (s := s) (by omega) hs
  rw [← e1] at hbx hbm
  subst b3
  have hget := x_get (N := 6) x_said_f hb hB (by omega)
  have hset := x_set (N := 6) x_said_f (nI (min (dd + 1) 99999)) hb hB (by omega)
  rw [p3, r3] at hget
  have hk1 := keptX (a := dd + 1) (by omega)
  have hk2 := keptX (a := w + tw) (by omega)
  have hk3 := keptM (a := dd + 1) (by omega)
  have hk4 := keptM (a := w + tw) (by omega)
  subst e3
  have main : ∀ f : Nat, f < 2 → (∀ y : Nat → Option (Int32 × Int32 × (Nat → Int32) × Int32 × (Nat → Int32) × Int32 × (Nat → Int32) × (Nat → Int32) × Int32 × (Nat → Int32)), (if (if brk v s then nI 1 else nI 0) = nI sl then y 0 else y 1) = y f) → (∀ y : Nat → Option (Int32 × Int32 × (Nat → Int32) × (Nat → Int32) × (Nat → Int32)), (if (if brk v s then nI 1 else nI 0) = nI sl then y 0 else y 1) = y f) → ∃ (u : Int32 × Int32 × (Nat → Int32) × Int32 × (Nat → Int32) × Int32 × (Nat → Int32) × (Nat → Int32) × Int32 × (Nat → Int32)) (w' : Int32 × Int32 × (Nat → Int32) × (Nat → Int32) × (Nat → Int32)), F_X7_says x_vow x_day (nI w) x_kinds_m x_kinds_f x_ms_m x_ms_f (nI n) x_said_f x_signs_m x_signs_f x_tal_m x_tal_f x_fitting x_breakers_f x_fit_f x_counted_f stm stf (nI b) (nI s) (nI sl) = some u ∧ F_X8_says m_known m_row_f m_broken_f facts pile (nI b) (nI s) (nI sl) = some w' ∧ u.1 = w'.1 ∧ IvS x_vow x_day u.2.1 x_z x_kinds_m x_kinds_f x_ms_m x_ms_f (nI n) u.2.2.1 u.2.2.2.1 u.2.2.2.2.1 x_tape_m x_tape_f x_avo_m x_avo_f x_tal_m x_tal_f x_wai_m x_wai_f w'.2.2.1 ∧ IvF w'.2.2.1 u.2.2.2.2.2.1 u.2.2.2.2.2.2.1 u.2.2.2.2.2.2.2.1 m_mfit w'.2.1 m_isFit_f m_breaks_f := by
    intro f hf hyx hym
    have hxs : F_X7_says x_vow x_day (nI w) x_kinds_m x_kinds_f x_ms_m x_ms_f (nI n) x_said_f x_signs_m x_signs_f x_tal_m x_tal_f x_fitting x_breakers_f x_fit_f x_counted_f stm stf (nI b) (nI s) (nI sl) = (if nI 24 ≤ x_signs_m then some (nI f, nI (min (w + tw) 99999), upd x_said_f b (nI (min (dd + 1) 99999)), x_signs_m, x_signs_f, x_fitting, x_fit_f, x_counted_f, stm', stf') else bd (F_X3_addSign x_signs_m x_signs_f (nI s) (nI f)) (fun u6 => bd (F_X5_refit 24 x_breakers_f x_fit_f x_counted_f u6.1 u6.2) (fun u7 => some (nI f, nI (min (w + tw) 99999), upd x_said_f b (nI (min (dd + 1) 99999)), u6.1, u6.2, u7.1, u7.2.1, u7.2.2, stm', stf')))) := by
      refine Eq.trans ?_ (hyx (fun f => if nI 24 ≤ x_signs_m then some (nI f, nI (min (w + tw) 99999), upd x_said_f b (nI (min (dd + 1) 99999)), x_signs_m, x_signs_f, x_fitting, x_fit_f, x_counted_f, stm', stf') else bd (F_X3_addSign x_signs_m x_signs_f (nI s) (nI f)) (fun u6 => bd (F_X5_refit 24 x_breakers_f x_fit_f x_counted_f u6.1 u6.2) (fun u7 => some (nI f, nI (min (w + tw) 99999), upd x_said_f b (nI (min (dd + 1) 99999)), u6.1, u6.2, u7.1, u7.2.1, u7.2.2, stm', stf')))))
      unfold F_X7_says F_X1_many
      simp only [l0, l1, l2, l3, l4, l5, l6, l7, l8, l9, l10, l11, l12, l13, l14, l15, l16, l17, l18, l19, l20, l21, l22, l23, l24, l25, l26, l27, l28, l29, l30, l32, l33, l37, l38, l40, l41, l42, l43, l45, l47, l48, l57, l58, l60, l61, l62, l63, l64, l69, l70, l74, l88, l91, l96, l97, l98, l99, l100, l102, l115, l116, l121, l124, l134, l158, l279, l255, l400, l728, l729, l9999, l99999, l12345, l1103515245, l1000000000, l1000000001, l1000000002, l1000000003, l1000000004, l1000000005, l1000000006, hx, bd_some, hget, nI_add, hk1, hk2, hset, hbx]
    have hms : F_X8_says m_known m_row_f m_broken_f facts pile (nI b) (nI s) (nI sl) = (if nI 24 ≤ m_row_f 3 then some (nI f, m_known, upd (upd m_row_f 4 (nI (min (w + tw) 99999))) (8 + 3 * b + 2) (nI (min (dd + 1) 99999)), fa, pl) else bd (F_X8_comes (upd (upd m_row_f 4 (nI (min (w + tw) 99999))) (8 + 3 * b + 2) (nI (min (dd + 1) 99999))) (nI s) (nI f)) (fun u5 => some (nI f, u5.1, u5.2, fa, pl))) := by
      refine Eq.trans ?_ (hym (fun f => if nI 24 ≤ m_row_f 3 then some (nI f, m_known, upd (upd m_row_f 4 (nI (min (w + tw) 99999))) (8 + 3 * b + 2) (nI (min (dd + 1) 99999)), fa, pl) else bd (F_X8_comes (upd (upd m_row_f 4 (nI (min (w + tw) 99999))) (8 + 3 * b + 2) (nI (min (dd + 1) 99999))) (nI s) (nI f)) (fun u5 => some (nI f, u5.1, u5.2, fa, pl))))
      unfold F_X8_says
      simp (disch := omega) only [l0, l1, l2, l3, l4, l5, l6, l7, l8, l9, l10, l11, l12, l13, l14, l15, l16, l17, l18, l19, l20, l21, l22, l23, l24, l25, l26, l27, l28, l29, l30, l32, l33, l37, l38, l40, l41, l42, l43, l45, l47, l48, l57, l58, l60, l61, l62, l63, l64, l69, l70, l74, l88, l91, l96, l97, l98, l99, l100, l102, l115, l116, l121, l124, l134, l158, l279, l255, l400, l728, l729, l9999, l99999, l12345, l1103515245, l1000000000, l1000000001, l1000000002, l1000000003, l1000000004, l1000000005, l1000000006, nI_clamp, a1, a3, hbm, hm, bd_some, nI_add, pk_mul, hk4, nI_ltI, Nat.not_lt_zero, nI_leI, false_or, if_neg, pk_un, r3, hk3]
    by_cases h24 : g = 24
    · have e24 : x_signs_m = nI 24 := by rw [g1, h24]
      have e25 : m_row_f 3 = nI 24 := by rw [g2, h24]
      rw [if_pos (show nI 24 ≤ x_signs_m from by rw [e24]; decide)] at hxs
      rw [if_pos (show nI 24 ≤ m_row_f 3 from by rw [e25]; decide)] at hms
      exact ⟨_, _, hxs, hms, rfl, iS1, iF1⟩
    · have hlt : g < 24 := by omega
      have hiG := iS1.2.2.1
      rw [g1] at hiG
      have hG1 := IvG_add (s := s) (f := f) hiG hlt hs hf
      obtain ⟨f1, c1, t1, t2, t3⟩ := refit (fit := x_fit_f) (counted := x_counted_f) iV.2.1 hG1
      have e26 : ¬ nI 24 ≤ x_signs_m := by rw [g1, nI_leI (by omega) (by omega)]; omega
      have e27 : ¬ nI 24 ≤ m_row_f 3 := by rw [g2, nI_leI (by omega) (by omega)]; omega
      rw [if_neg e26, g1, addSign hlt, bd_some] at hxs
      rw [if_neg e27, comes (n := g) (by simp (disch := omega) only [pk_un]; exact g2) hlt, bd_some] at hms
      dsimp only at hxs hms
      rw [t1, bd_some] at hxs
      rw [g1] at *
      exact ⟨_, _, hxs, hms, rfl, iS1.stG hG1 (comes_keep hlt), ⟨t2, rfl, t3, Or.inl rfl⟩⟩
  by_cases hc : (if brk v s then nI 1 else nI 0) = nI sl
  · exact main 0 (by omega) (fun y => if_pos hc) (fun y => if_pos hc)
  · exact main 1 (by omega) (fun y => if_neg hc) (fun y => if_neg hc)
theorem k_say (iS : IvS x_vow x_day x_worth x_z x_kinds_m x_kinds_f x_ms_m x_ms_f x_said_m x_said_f x_signs_m x_signs_f x_tape_m x_tape_f x_avo_m x_avo_f x_tal_m x_tal_f x_wai_m x_wai_f m_row_f) (iV : IvV x_spread_f x_breakers_f m_broken_f) (iF : IvF m_row_f x_fitting x_fit_f x_counted_f m_mfit m_known m_isFit_f m_breaks_f) (iE : IvE x_er_f m_errs_f) (br : Int32) (sy : Int32) : ∃ (u : (Int32 × Int32 × (Nat → Int32) × Int32 × (Nat → Int32) × Int32 × (Nat → Int32) × (Nat → Int32) × Int32 × (Nat → Int32) × (Nat → Int32))) (w : (Int32 × Int32 × Int32 × (Nat → Int32) × (Nat → Int32) × (Nat → Int32) × (Nat → Int32) × (Nat → Int32) × (Nat → Int32))), F_X7_say x_vow x_day x_worth x_kinds_m x_kinds_f x_ms_m x_ms_f x_said_m x_said_f x_signs_m x_signs_f x_avo_m x_avo_f x_tal_m x_tal_f x_fitting x_spread_f x_breakers_f x_fit_f x_counted_f x_stack_m x_stack_f x_er_f br sy = some u ∧ F_X8_say m_mfit m_known m_row_f m_errs_f m_broken_f m_isFit_f m_breaks_f m_facts_f m_pile_f br sy = some w ∧ u.1 = w.1 ∧ IvS x_vow x_day u.2.1 x_z x_kinds_m x_kinds_f x_ms_m x_ms_f x_said_m u.2.2.1 u.2.2.2.1 u.2.2.2.2.1 x_tape_m x_tape_f x_avo_m x_avo_f x_tal_m x_tal_f x_wai_m x_wai_f w.2.2.2.1 ∧ IvF w.2.2.2.1 u.2.2.2.2.2.1 u.2.2.2.2.2.2.1 u.2.2.2.2.2.2.2.1 w.2.1 w.2.2.1 w.2.2.2.2.2.1 w.2.2.2.2.2.2.1 ∧ IvE u.2.2.2.2.2.2.2.2.2.2 w.2.2.2.2.1 := by
  have iB := iS.2.1
  obtain ⟨nB, hB, b1, b2, b3, b4, b5⟩ := iB
  have iF0 := iF
  obtain ⟨hF, hf, hC, hK⟩ := iF0
  have hE1 : ∀ b2 : Int32, (F_X7_isBrother x_kinds_m br = some (nI 0) ∧ F_X8_isBrother m_row_f br = some (nI 0)) ∨ ((F_X7_isBrother x_kinds_m br = some (nI 1) ∧ F_X8_isBrother m_row_f br = some (nI 1)) ∧ F_X7_isSaying sy = some (nI 0)) → ∃ u w, F_X7_say x_vow x_day x_worth x_kinds_m x_kinds_f x_ms_m x_ms_f x_said_m x_said_f x_signs_m x_signs_f x_avo_m x_avo_f x_tal_m x_tal_f x_fitting x_spread_f x_breakers_f x_fit_f x_counted_f x_stack_m x_stack_f x_er_f br sy = some u ∧ F_X8_say m_mfit m_known m_row_f m_errs_f m_broken_f m_isFit_f m_breaks_f m_facts_f m_pile_f br sy = some w ∧ u = (-(nI 1000000001), x_worth, x_said_f, x_signs_m, x_signs_f, x_fitting, x_fit_f, x_counted_f, x_stack_m, x_stack_f, upd x_er_f 1 (x_er_f 1 + nI 1)) ∧ w = (-(nI 1000000001), m_mfit, m_known, m_row_f, upd m_errs_f 1 (m_errs_f 1 + nI 1), m_isFit_f, m_breaks_f, m_facts_f, m_pile_f) := by
    intro _ h
    refine ⟨_, _, ?_, ?_, rfl, rfl⟩
    · unfold F_X7_say
      rcases h with ⟨h1, h2⟩ | ⟨⟨h1, h2⟩, h3⟩
      · rw [h1, bd_some, if_pos (show nI 0 = 0 from rfl), show F_X7_error x_er_f (1 : Int32) = _ from x_err1 x_er_f, bd_some]
      · rw [h1, bd_some, if_neg (show ¬ nI 1 = 0 from by decide), h3, bd_some, if_pos (show nI 0 = 0 from rfl), show F_X7_error x_er_f (1 : Int32) = _ from x_err1 x_er_f, bd_some]
    · unfold F_X8_say
      rcases h with ⟨h1, h2⟩ | ⟨⟨h1, h2⟩, h3⟩
      · rw [h2, bd_some, if_pos (show nI 0 = 0 from rfl), show F_X8_error m_errs_f (-1000000001 : Int32) = _ from m_err1 m_errs_f, bd_some]
      · rw [h2, bd_some, if_neg (show ¬ nI 1 = 0 from by decide), isS_eq, h3, bd_some, if_pos (show nI 0 = 0 from rfl), show F_X8_error m_errs_f (-1000000001 : Int32) = _ from m_err1 m_errs_f, bd_some]
  rcases ix br nB (by omega) with h | ⟨b, hb, rfl⟩
  · obtain ⟨u, w, e1, e2, rfl, rfl⟩ := hE1 0 (Or.inl ⟨by rw [b1]; exact isB_N h, mB_N b4 h (by omega)⟩)
    exact ⟨_, _, e1, e2, rfl, iS, iF, iE.err 1⟩
  have hB7 := isB_Y (n := nB) hb (by omega)
  rw [← b1] at hB7
  have hB8 := mB_Y b4 hb (by omega)
  rcases ix sy 64 (by omega) with h | ⟨s, hs, rfl⟩
  · obtain ⟨u, w, e1, e2, rfl, rfl⟩ := hE1 0 (Or.inr ⟨⟨hB7, hB8⟩, isS_N h⟩)
    exact ⟨_, _, e1, e2, rfl, iS, iF, iE.err 1⟩
  obtain ⟨q, v1, v2⟩ := av iS iV hF b4 hB hb hs
  obtain ⟨c1, sm1, sf1, e1, e2⟩ := v1 x_counted_f x_stack_m x_stack_f hC
  obtain ⟨i1, br1, fa, pl, g1, g2⟩ := v2 m_mfit m_known m_isFit_f m_breaks_f m_facts_f m_pile_f hK
  have iF1 : IvF m_row_f x_fitting x_fit_f c1 (nI (cntF m_row_f)) (nI 1) i1 br1 := ⟨hF, hf, e2, g2⟩
  rw [← hf] at e1
  cases q with
  | true =>
    refine ⟨(-(nI 1000000003), x_worth, x_said_f, x_signs_m, x_signs_f, x_fitting, x_fit_f, c1, sm1, sf1, upd x_er_f 3 (x_er_f 3 + nI 1)), (-(nI 1000000003), nI (cntF m_row_f), nI 1, m_row_f, upd m_errs_f 3 (m_errs_f 3 + nI 1), i1, br1, fa, pl), ?_, ?_, rfl, iS, iF1, iE.err 3⟩
    · unfold F_X7_say
      rw [hB7, bd_some, if_neg (show ¬ nI 1 = 0 from by decide), isS_Y hs, bd_some, if_neg (show ¬ nI 1 = 0 from by decide), e1, bd_some, bI1]
      dsimp only
      rw [if_neg (show ¬ nI 1 = 0 from by decide), show F_X7_error x_er_f (3 : Int32) = _ from x_err3 x_er_f, bd_some]
    · unfold F_X8_say
      rw [hB8, bd_some, if_neg (show ¬ nI 1 = 0 from by decide), isS_eq, isS_Y hs, bd_some, if_neg (show ¬ nI 1 = 0 from by decide), g1, bd_some, bI1]
      dsimp only
      rw [if_neg (show ¬ nI 1 = 0 from by decide), show F_X8_error m_errs_f (-1000000003 : Int32) = _ from m_err3 m_errs_f, bd_some]
  | false =>
    obtain ⟨u, w, t1, t2, t3, t4, t5⟩ := says2 iS iV iF1 b4 hB hb hs (sl := 0) (by omega) sm1 sf1 fa pl
    refine ⟨(u.1, u.2.1, u.2.2.1, u.2.2.2.1, u.2.2.2.2.1, u.2.2.2.2.2.1, u.2.2.2.2.2.2.1, u.2.2.2.2.2.2.2.1, u.2.2.2.2.2.2.2.2.1, u.2.2.2.2.2.2.2.2.2, x_er_f), (w.1, nI (cntF m_row_f), w.2.1, w.2.2.1, m_errs_f, i1, br1, w.2.2.2.1, w.2.2.2.2), ?_, ?_, t3, t4, t5, iE⟩
    · unfold F_X7_say
      rw [hB7, bd_some, if_neg (show ¬ nI 1 = 0 from by decide), isS_Y hs, bd_some, if_neg (show ¬ nI 1 = 0 from by decide), e1, bd_some, bI0]
      dsimp only
      rw [if_pos (show nI 0 = 0 from rfl)]
      exact (congrArg (fun o => bd o _) t1).trans rfl
    · unfold F_X8_say
      rw [hB8, bd_some, if_neg (show ¬ nI 1 = 0 from by decide), isS_eq, isS_Y hs, bd_some, if_neg (show ¬ nI 1 = 0 from by decide), g1, bd_some, bI0]
      dsimp only
      rw [if_pos (show nI 0 = 0 from rfl)]
      exact (congrArg (fun o => bd o _) t2).trans rfl
theorem day2 {d : Nat} (iS : IvS x_vow x_day x_worth x_z x_kinds_m x_kinds_f x_ms_m x_ms_f x_said_m x_said_f x_signs_m x_signs_f x_tape_m x_tape_f x_avo_m x_avo_f x_tal_m x_tal_f x_wai_m x_wai_f m_row_f) (iV : IvV x_spread_f x_breakers_f m_broken_f) (iF : IvF m_row_f x_fitting x_fit_f x_counted_f m_mfit m_known m_isFit_f m_breaks_f) (hd : x_day = nI d) (hd2 : d < 9999) : ∃ (u : Int32 × Int32 × Int32 × Int32 × (Nat → Int32) × Int32 × (Nat → Int32) × Int32 × (Nat → Int32) × (Nat → Int32) × Int32 × (Nat → Int32)) (w : Int32 × Int32 × Int32 × (Nat → Int32) × (Nat → Int32) × (Nat → Int32) × (Nat → Int32) × (Nat → Int32)), F_X7_looseDay x_vow x_day x_worth x_z x_kinds_m x_kinds_f x_ms_m x_ms_f x_said_m x_said_f x_signs_m x_signs_f x_avo_m x_avo_f x_tal_m x_tal_f x_fitting x_spread_f x_breakers_f x_fit_f x_counted_f x_stack_m x_stack_f = some u ∧ F_X8_drawn m_mfit m_known m_row_f m_broken_f m_isFit_f m_breaks_f m_facts_f m_pile_f = some w ∧ u.1 = w.1 ∧ u.2.1 = nI (d + 1) ∧ IvS x_vow u.2.1 u.2.2.1 u.2.2.2.1 x_kinds_m x_kinds_f x_ms_m x_ms_f x_said_m u.2.2.2.2.1 u.2.2.2.2.2.1 u.2.2.2.2.2.2.1 x_tape_m x_tape_f x_avo_m x_avo_f x_tal_m x_tal_f x_wai_m x_wai_f w.2.2.2.1 ∧ IvF w.2.2.2.1 u.2.2.2.2.2.2.2.1 u.2.2.2.2.2.2.2.2.1 u.2.2.2.2.2.2.2.2.2.1 w.2.1 w.2.2.1 w.2.2.2.2.1 w.2.2.2.2.2.1 := by
  have hday : ∀ (vow worth z sm gm : Int32) (sf gf row : Nat → Int32) (f : Int32) (ft co isf bre : Nat → Int32) (mf kn : Int32), IvS vow (nI d) worth z x_kinds_m x_kinds_f x_ms_m x_ms_f sm sf gm gf x_tape_m x_tape_f x_avo_m x_avo_f x_tal_m x_tal_f x_wai_m x_wai_f row → IvF row f ft co mf kn isf bre → IvS vow (nI (d + 1)) worth z x_kinds_m x_kinds_f x_ms_m x_ms_f sm sf gm gf x_tape_m x_tape_f x_avo_m x_avo_f x_tal_m x_tal_f x_wai_m x_wai_f (upd row 0 (nI (d + 1))) ∧ IvF (upd row 0 (nI (d + 1))) f ft co mf kn isf bre := by
    intro vow worth z sm gm sf gf row f ft co isf bre mf kn h1 h2
    obtain ⟨a1, a2, a3, a4, v, d', w, hv, hd', hw, e1, e2, e3⟩ := h1.1
    exact ⟨h1.stN ⟨by rw [pk_un (by omega), a1], pk_us, by rw [pk_un (by omega), a3], by rw [pk_un (by omega), a4], v, d + 1, w, hv, by omega, hw, e1, rfl, e3⟩ (fun j _ _ _ => pk_un (by omega)), h2.keep h1 (pk_un (by omega)) (fun j _ _ => pk_un (by omega))⟩
  subst hd
  have iB := iS.2.1
  obtain ⟨n, hB, b1, b2, b3, b4, b5⟩ := iB
  have iN := iS.1
  obtain ⟨a1, a2, a3, a4, v, d', w, hv, hd', hw, e1, e2, e3⟩ := iN
  by_cases h0 : n = 0
  · subst h0
    obtain ⟨s1, s2⟩ := hday _ _ _ _ _ _ _ _ _ _ _ _ _ _ _ iS iF
    refine ⟨(nI 0, nI (d + 1), x_worth, x_z, x_said_f, x_signs_m, x_signs_f, x_fitting, x_fit_f, x_counted_f, x_stack_m, x_stack_f), (nI 0, m_mfit, m_known, upd m_row_f 0 (nI (d + 1)), m_isFit_f, m_breaks_f, m_facts_f, m_pile_f), ?_, ?_, rfl, rfl, s1, s2⟩
    · unfold F_X7_looseDay F_X3_brothers F_X1_many
      rw [b1]
      simp only [bd_some]
      rw [if_pos (show nI 0 ≤ 0 from by decide)]
      simp only [l0, l1, l2, l3, l4, l5, l6, l7, l8, l9, l10, l11, l12, l13, l14, l15, l16, l17, l18, l19, l20, l21, l22, l23, l24, l25, l26, l27, l28, l29, l30, l32, l33, l37, l38, l40, l41, l42, l43, l45, l47, l48, l57, l58, l60, l61, l62, l63, l64, l69, l70, l74, l88, l91, l96, l97, l98, l99, l100, l102, l115, l116, l121, l124, l134, l158, l279, l255, l400, l728, l729, l9999, l99999, l12345, l1103515245, l1000000000, l1000000001, l1000000002, l1000000003, l1000000004, l1000000005, l1000000006, nI_add]
    · unfold F_X8_drawn
      rw [if_pos (show m_row_f (2 : Int32).toNatClampNeg ≤ 0 from by rw [show (2 : Int32).toNatClampNeg = 2 from by decide, b4]; decide)]
      simp (disch := omega) only [l0, l1, l2, l3, l4, l5, l6, l7, l8, l9, l10, l11, l12, l13, l14, l15, l16, l17, l18, l19, l20, l21, l22, l23, l24, l25, l26, l27, l28, l29, l30, l32, l33, l37, l38, l40, l41, l42, l43, l45, l47, l48, l57, l58, l60, l61, l62, l63, l64, l69, l70, l74, l88, l91, l96, l97, l98, l99, l100, l102, l115, l116, l121, l124, l134, l158, l279, l255, l400, l728, l729, l9999, l99999, l12345, l1103515245, l1000000000, l1000000001, l1000000002, l1000000003, l1000000004, l1000000005, l1000000006, nI_clamp, a2, nI_add]
  · obtain ⟨d1, z1, xu1, hd1, ⟨hX1, hX1a, hX1b⟩, hM1'⟩ := draws x_z
    obtain ⟨d2', z2, xu2, hd2', ⟨hX2, hX2a, hX2b⟩, hM2'⟩ := draws z1
    obtain ⟨d3, z3, xu3, hd3, ⟨hX3, hX3a, hX3b⟩, hM3'⟩ := draws z2
    obtain ⟨mu1, hM1, hM1a, hM1b⟩ := hM1' m_row_f a4
    obtain ⟨mu2, hM2, hM2a, hM2b⟩ := hM2' (upd m_row_f 1 z1) pk_us
    obtain ⟨mu3, hM3, hM3a, hM3b⟩ := hM3' (upd (upd m_row_f 1 z1) 1 z2) pk_us
    have iS3 : IvS x_vow (nI d) x_worth z3 x_kinds_m x_kinds_f x_ms_m x_ms_f x_said_m x_said_f x_signs_m x_signs_f x_tape_m x_tape_f x_avo_m x_avo_f x_tal_m x_tal_f x_wai_m x_wai_f (upd (upd (upd m_row_f 1 z1) 1 z2) 1 z3) :=
      iS.stN ⟨by simp (disch := omega) only [pk_un]; exact a1, by simp (disch := omega) only [pk_un]; exact a2, by simp (disch := omega) only [pk_un]; exact a3, pk_us, v, d', w, hv, hd', hw, e1, e2, e3⟩ (fun j _ _ _ => by simp (disch := omega) only [pk_un])
    have iF3 : IvF (upd (upd (upd m_row_f 1 z1) 1 z2) 1 z3) x_fitting x_fit_f x_counted_f m_mfit m_known m_isFit_f m_breaks_f := iF.keep iS (by simp (disch := omega) only [pk_un]) (fun j _ _ => by simp (disch := omega) only [pk_un])
    have r2 : upd m_row_f 1 z1 2 = nI n := by rw [pk_un (by omega)]; exact b4
    generalize hr3 : upd (upd (upd m_row_f 1 z1) 1 z2) 1 z3 = row3 at hM3b iS3 iF3
    have hb : d1 % n < n := Nat.mod_lt _ (by omega)
    have hs : d2' % 64 < 64 := Nat.mod_lt _ (by omega)
    have b43 : row3 2 = nI n := by rw [← hr3]; simp (disch := omega) only [pk_un]; exact b4
    obtain ⟨hF, hf, hC, hK⟩ := iF3
    obtain ⟨q, v1, v2⟩ := av iS3 iV hF b43 hB hb hs
    obtain ⟨c1, sm1, sf1, g1, g2⟩ := v1 x_counted_f x_stack_m x_stack_f hC
    obtain ⟨i1, br1, fa, pl, k1, k2⟩ := v2 m_mfit m_known m_isFit_f m_breaks_f m_facts_f m_pile_f hK
    have iF4 : IvF row3 x_fitting x_fit_f c1 (nI (cntF row3)) (nI 1) i1 br1 := ⟨hF, hf, g2, k2⟩
    rw [← hf] at g1
    have hrow0 : row3 0 = nI d := iS3.1.2.1
    have ew : nI d1 - nI d1 / nI n * nI n = nI (d1 % n) := pk_rem (by omega) (by omega) (by omega)
    have es : nI d2' - nI d2' / (64 : Int32) * (64 : Int32) = nI (d2' % 64) := by rw [l64]; exact pk_rem (by omega) (by omega) (by omega)
    have et : nI d3 - nI d3 / (16 : Int32) * (16 : Int32) = nI (d3 % 16) := by rw [l16]; exact pk_rem (by omega) (by omega) (by omega)
    have hdd : nI d + (1 : Int32) = nI (d + 1) := by rw [l1]; exact nI_add d 1
    have z0 : (0 : Int32).toNatClampNeg = 0 := by decide +kernel
    have z2' : (2 : Int32).toNatClampNeg = 2 := by decide +kernel
    have hn0 : ¬ nI n ≤ nI 0 := by rw [nI_leI (by omega) (by omega)]; omega
    have hn1 : ¬ nI n = nI 0 := by rw [nI_eq (by omega) (by omega)]; omega
    have main : ∀ sl : Nat, sl < 2 → ((nI (d3 % 16) = nI 0 ∧ sl = 1) ∨ (¬ nI (d3 % 16) = nI 0 ∧ sl = 0)) → ∃ (u : Int32 × Int32 × Int32 × Int32 × (Nat → Int32) × Int32 × (Nat → Int32) × Int32 × (Nat → Int32) × (Nat → Int32) × Int32 × (Nat → Int32)) (w : Int32 × Int32 × Int32 × (Nat → Int32) × (Nat → Int32) × (Nat → Int32) × (Nat → Int32) × (Nat → Int32)), F_X7_looseDay x_vow (nI d) x_worth x_z x_kinds_m x_kinds_f x_ms_m x_ms_f x_said_m x_said_f x_signs_m x_signs_f x_avo_m x_avo_f x_tal_m x_tal_f x_fitting x_spread_f x_breakers_f x_fit_f x_counted_f x_stack_m x_stack_f = some u ∧ F_X8_drawn m_mfit m_known m_row_f m_broken_f m_isFit_f m_breaks_f m_facts_f m_pile_f = some w ∧ u.1 = w.1 ∧ u.2.1 = nI (d + 1) ∧ IvS x_vow u.2.1 u.2.2.1 u.2.2.2.1 x_kinds_m x_kinds_f x_ms_m x_ms_f x_said_m u.2.2.2.2.1 u.2.2.2.2.2.1 u.2.2.2.2.2.2.1 x_tape_m x_tape_f x_avo_m x_avo_f x_tal_m x_tal_f x_wai_m x_wai_f w.2.2.2.1 ∧ IvF w.2.2.2.1 u.2.2.2.2.2.2.2.1 u.2.2.2.2.2.2.2.2.1 u.2.2.2.2.2.2.2.2.2.1 w.2.1 w.2.2.1 w.2.2.2.2.1 w.2.2.2.2.2.1 := by
      intro sl hsl hsel
      cases q with
      | true =>
        obtain ⟨s1, s2⟩ := hday _ _ _ _ _ _ _ _ _ _ _ _ _ _ _ iS3 iF4
        refine ⟨(nI 0, nI (d + 1), x_worth, z3, x_said_f, x_signs_m, x_signs_f, x_fitting, x_fit_f, c1, sm1, sf1), (nI 0, nI (cntF row3), nI 1, upd row3 0 (nI (d + 1)), i1, br1, fa, pl), ?_, ?_, by dsimp only, by dsimp only, s1, s2⟩
        · rcases hsel with ⟨hc, rfl⟩ | ⟨hc, rfl⟩
          · unfold F_X7_looseDay F_X3_brothers F_X1_many
            rw [show bd (some x_kinds_m) (fun (u1 : Int32) => some u1) = some (nI n) from by rw [b1]; rfl, bd_some, if_neg (show ¬ nI n ≤ 0 from hn0), hX1, bd_some, if_neg (show ¬ nI n = 0 from hn1), hX1b, hX2, bd_some, hX2b, hX3, bd_some, hX1a, hX2a, hX3a, et, es, ew, if_pos (show nI (d3 % 16) = 0 from hc), g1, bd_some, hX3b, hdd]
            rw [if_neg (show ¬ (bI true, c1, sm1, sf1).1 = 0 from by show ¬ nI 1 = 0; decide)]
            rfl
          · unfold F_X7_looseDay F_X3_brothers F_X1_many
            rw [show bd (some x_kinds_m) (fun (u1 : Int32) => some u1) = some (nI n) from by rw [b1]; rfl, bd_some, if_neg (show ¬ nI n ≤ 0 from hn0), hX1, bd_some, if_neg (show ¬ nI n = 0 from hn1), hX1b, hX2, bd_some, hX2b, hX3, bd_some, hX1a, hX2a, hX3a, et, es, ew, if_neg (show ¬ nI (d3 % 16) = 0 from hc), g1, bd_some, hX3b, hdd]
            rw [if_neg (show ¬ (bI true, c1, sm1, sf1).1 = 0 from by show ¬ nI 1 = 0; decide)]
            rfl
        · rcases hsel with ⟨hc, rfl⟩ | ⟨hc, rfl⟩
          · unfold F_X8_drawn
            rw [z2', z0, b4, if_neg (show ¬ nI n ≤ 0 from hn0), hM1, bd_some, hM1b, r2, if_neg (show ¬ nI n = 0 from hn1), hM2, bd_some, hM2b, hM3, bd_some, hM3b, hM1a, hM2a, hM3a, et, es, ew, if_pos (show nI (d3 % 16) = 0 from hc), k1, bd_some]
            rw [if_neg (show ¬ (bI true, nI (cntF row3), nI 1, i1, br1, fa, pl).1 = 0 from by show ¬ nI 1 = 0; decide), hrow0, hdd]
            rfl
          · unfold F_X8_drawn
            rw [z2', z0, b4, if_neg (show ¬ nI n ≤ 0 from hn0), hM1, bd_some, hM1b, r2, if_neg (show ¬ nI n = 0 from hn1), hM2, bd_some, hM2b, hM3, bd_some, hM3b, hM1a, hM2a, hM3a, et, es, ew, if_neg (show ¬ nI (d3 % 16) = 0 from hc), k1, bd_some]
            rw [if_neg (show ¬ (bI true, nI (cntF row3), nI 1, i1, br1, fa, pl).1 = 0 from by show ¬ nI 1 = 0; decide), hrow0, hdd]
            rfl
      | false =>
        obtain ⟨u, w', t1, t2, t3, t4, t5⟩ := says2 iS3 iV iF4 b43 hB hb hs hsl sm1 sf1 fa pl
        have hw0 : w'.2.2.1 0 = nI d := t4.1.2.1
        obtain ⟨s1, s2⟩ := hday _ _ _ _ _ _ _ _ _ _ _ _ _ _ _ t4 t5
        refine ⟨(u.1, nI (d + 1), u.2.1, z3, u.2.2.1, u.2.2.2.1, u.2.2.2.2.1, u.2.2.2.2.2.1, u.2.2.2.2.2.2.1, u.2.2.2.2.2.2.2.1, u.2.2.2.2.2.2.2.2.1, u.2.2.2.2.2.2.2.2.2), (w'.1, nI (cntF row3), w'.2.1, upd w'.2.2.1 0 (nI (d + 1)), i1, br1, w'.2.2.2.1, w'.2.2.2.2), ?_, ?_, t3, by dsimp only, s1, s2⟩
        · rcases hsel with ⟨hc, rfl⟩ | ⟨hc, rfl⟩
          · unfold F_X7_looseDay F_X3_brothers F_X1_many
            rw [show bd (some x_kinds_m) (fun (u1 : Int32) => some u1) = some (nI n) from by rw [b1]; rfl, bd_some, if_neg (show ¬ nI n ≤ 0 from hn0), hX1, bd_some, if_neg (show ¬ nI n = 0 from hn1), hX1b, hX2, bd_some, hX2b, hX3, bd_some, hX1a, hX2a, hX3a, et, es, ew, if_pos (show nI (d3 % 16) = 0 from hc), g1, bd_some, hX3b, hdd]
            rw [if_pos (show (bI false, c1, sm1, sf1).1 = 0 from rfl)]
            exact (congrArg (fun o => bd o _) t1).trans rfl
          · unfold F_X7_looseDay F_X3_brothers F_X1_many
            rw [show bd (some x_kinds_m) (fun (u1 : Int32) => some u1) = some (nI n) from by rw [b1]; rfl, bd_some, if_neg (show ¬ nI n ≤ 0 from hn0), hX1, bd_some, if_neg (show ¬ nI n = 0 from hn1), hX1b, hX2, bd_some, hX2b, hX3, bd_some, hX1a, hX2a, hX3a, et, es, ew, if_neg (show ¬ nI (d3 % 16) = 0 from hc), g1, bd_some, hX3b, hdd]
            rw [if_pos (show (bI false, c1, sm1, sf1).1 = 0 from rfl)]
            exact (congrArg (fun o => bd o _) t1).trans rfl
        · rcases hsel with ⟨hc, rfl⟩ | ⟨hc, rfl⟩
          · unfold F_X8_drawn
            rw [z2', z0, b4, if_neg (show ¬ nI n ≤ 0 from hn0), hM1, bd_some, hM1b, r2, if_neg (show ¬ nI n = 0 from hn1), hM2, bd_some, hM2b, hM3, bd_some, hM3b, hM1a, hM2a, hM3a, et, es, ew, if_pos (show nI (d3 % 16) = 0 from hc), k1, bd_some]
            rw [if_pos (show (bI false, nI (cntF row3), nI 1, i1, br1, fa, pl).1 = 0 from rfl)]
            refine (congrArg (fun o => bd o _) t2).trans ?_
            rw [bd_some, hw0, hdd]
          · unfold F_X8_drawn
            rw [z2', z0, b4, if_neg (show ¬ nI n ≤ 0 from hn0), hM1, bd_some, hM1b, r2, if_neg (show ¬ nI n = 0 from hn1), hM2, bd_some, hM2b, hM3, bd_some, hM3b, hM1a, hM2a, hM3a, et, es, ew, if_neg (show ¬ nI (d3 % 16) = 0 from hc), k1, bd_some]
            rw [if_pos (show (bI false, nI (cntF row3), nI 1, i1, br1, fa, pl).1 = 0 from rfl)]
            refine (congrArg (fun o => bd o _) t2).trans ?_
            rw [bd_some, hw0, hdd]
    by_cases hc : nI (d3 % 16) = nI 0
    · exact main 1 (by omega) (Or.inl ⟨hc, rfl⟩)
    · exact main 0 (by omega) (Or.inr ⟨hc, rfl⟩)
theorem k_loose (iS : IvS x_vow x_day x_worth x_z x_kinds_m x_kinds_f x_ms_m x_ms_f x_said_m x_said_f x_signs_m x_signs_f x_tape_m x_tape_f x_avo_m x_avo_f x_tal_m x_tal_f x_wai_m x_wai_f m_row_f) (iV : IvV x_spread_f x_breakers_f m_broken_f) (iF : IvF m_row_f x_fitting x_fit_f x_counted_f m_mfit m_known m_isFit_f m_breaks_f) (iE : IvE x_er_f m_errs_f) (k : Int32) : ∃ (u : (Int32 × Int32 × Int32 × Int32 × (Nat → Int32) × Int32 × (Nat → Int32) × Int32 × (Nat → Int32) × (Nat → Int32) × Int32 × (Nat → Int32) × (Nat → Int32))) (w : (Int32 × Int32 × Int32 × (Nat → Int32) × (Nat → Int32) × (Nat → Int32) × (Nat → Int32) × (Nat → Int32) × (Nat → Int32))), F_X7_loose x_vow x_day x_worth x_z x_kinds_m x_kinds_f x_ms_m x_ms_f x_said_m x_said_f x_signs_m x_signs_f x_avo_m x_avo_f x_tal_m x_tal_f x_fitting x_spread_f x_breakers_f x_fit_f x_counted_f x_stack_m x_stack_f x_er_f k = some u ∧ F_X8_loose m_mfit m_known m_row_f m_errs_f m_broken_f m_isFit_f m_breaks_f m_facts_f m_pile_f k = some w ∧ u.1 = w.1 ∧ IvS x_vow u.2.1 u.2.2.1 u.2.2.2.1 x_kinds_m x_kinds_f x_ms_m x_ms_f x_said_m u.2.2.2.2.1 u.2.2.2.2.2.1 u.2.2.2.2.2.2.1 x_tape_m x_tape_f x_avo_m x_avo_f x_tal_m x_tal_f x_wai_m x_wai_f w.2.2.2.1 ∧ IvF w.2.2.2.1 u.2.2.2.2.2.2.2.1 u.2.2.2.2.2.2.2.2.1 u.2.2.2.2.2.2.2.2.2.1 w.2.1 w.2.2.1 w.2.2.2.2.2.1 w.2.2.2.2.2.2.1 ∧ IvE u.2.2.2.2.2.2.2.2.2.2.2.2 w.2.2.2.2.1 := by
  have iN := iS.1
  obtain ⟨a1, a2, a3, a4, v, d, w, hv, hd, hw, e1, e2, e3⟩ := iN
  rcases ix1 k 20 (by omega) with h | ⟨n, hn1, hn2, rfl⟩
  · refine ⟨(-(nI 1000000001), x_day, x_worth, x_z, x_said_f, x_signs_m, x_signs_f, x_fitting, x_fit_f, x_counted_f, x_stack_m, x_stack_f, upd x_er_f 1 (x_er_f 1 + nI 1)), (-(nI 1000000001), m_mfit, m_known, m_row_f, upd m_errs_f 1 (m_errs_f 1 + nI 1), m_isFit_f, m_breaks_f, m_facts_f, m_pile_f), ?_, ?_, by dsimp only, iS, iF, iE.err 1⟩
    · unfold F_X7_loose
      rw [show F_X7_within k (1 : Int32) (20 : Int32) = _ from w1_N h, bd_some, if_pos (show nI 0 = 0 from rfl), show F_X7_error x_er_f (1 : Int32) = _ from x_err1 x_er_f, bd_some]
    · unfold F_X8_loose
      rw [show F_X8_in k (1 : Int32) (20 : Int32) = _ from w1_N h, bd_some, if_pos (show nI 0 = 0 from rfl), show F_X8_error m_errs_f (-1000000001 : Int32) = _ from m_err1 m_errs_f, bd_some]
  have z0 : (0 : Int32).toNatClampNeg = 0 := by decide +kernel
  by_cases hc : d + n ≤ 9999
  · have key : ∃ (u : Int32 × Int32 × Int32 × Int32 × (Nat → Int32) × Int32 × (Nat → Int32) × Int32 × (Nat → Int32) × (Nat → Int32) × Int32 × (Nat → Int32) × (Nat → Int32)) (w : Int32 × Int32 × Int32 × (Nat → Int32) × (Nat → Int32) × (Nat → Int32) × (Nat → Int32) × (Nat → Int32) × (Nat → Int32)), F_X7_loose x_vow x_day x_worth x_z x_kinds_m x_kinds_f x_ms_m x_ms_f x_said_m x_said_f x_signs_m x_signs_f x_avo_m x_avo_f x_tal_m x_tal_f x_fitting x_spread_f x_breakers_f x_fit_f x_counted_f x_stack_m x_stack_f x_er_f (nI n) = some u ∧ F_X8_loose m_mfit m_known m_row_f m_errs_f m_broken_f m_isFit_f m_breaks_f m_facts_f m_pile_f (nI n) = some w ∧ u.1 = w.1 ∧ IvS x_vow u.2.1 u.2.2.1 u.2.2.2.1 x_kinds_m x_kinds_f x_ms_m x_ms_f x_said_m u.2.2.2.2.1 u.2.2.2.2.2.1 u.2.2.2.2.2.2.1 x_tape_m x_tape_f x_avo_m x_avo_f x_tal_m x_tal_f x_wai_m x_wai_f w.2.2.2.1 ∧ IvF w.2.2.2.1 u.2.2.2.2.2.2.2.1 u.2.2.2.2.2.2.2.2.1 u.2.2.2.2.2.2.2.2.2.1 w.2.1 w.2.2.1 w.2.2.2.2.2.1 w.2.2.2.2.2.2.1 ∧ u.2.2.2.2.2.2.2.2.2.2.2.2 = x_er_f ∧ w.2.2.2.2.1 = m_errs_f := by
      unfold F_X7_loose F_X8_loose
      rw [show F_X7_within (nI n) (1 : Int32) (20 : Int32) = _ from w1_Y (M := 20) hn1 hn2 (by omega), bd_some, if_neg (show ¬ nI 1 = 0 from by decide), if_pos (show x_day + nI n ≤ (9999 : Int32) from by rw [e2, nI_add, l9999, nI_leI (by omega) (by omega)]; exact hc)]
      rw [show F_X8_in (nI n) (1 : Int32) (20 : Int32) = _ from w1_Y (M := 20) hn1 hn2 (by omega), bd_some, if_neg (show ¬ nI 1 = 0 from by decide), z0, a2, if_pos (show x_day + nI n ≤ (9999 : Int32) from by rw [e2, nI_add, l9999, nI_leI (by omega) (by omega)]; exact hc)]
      refine lp_two (fun i (s : Int32 × Int32 × Int32 × Int32 × Int32 × (Nat → Int32) × Int32 × (Nat → Int32) × Int32 × (Nat → Int32) × (Nat → Int32) × Int32 × (Nat → Int32)) (t : Int32 × Int32 × Int32 × Int32 × (Nat → Int32) × (Nat → Int32) × (Nat → Int32) × (Nat → Int32) × (Nat → Int32)) => s.1 = t.1 ∧ s.2.1 = nI i ∧ t.2.1 = nI i ∧ s.2.2.1 = nI (d + i) ∧ IvS x_vow s.2.2.1 s.2.2.2.1 s.2.2.2.2.1 x_kinds_m x_kinds_f x_ms_m x_ms_f x_said_m s.2.2.2.2.2.1 s.2.2.2.2.2.2.1 s.2.2.2.2.2.2.2.1 x_tape_m x_tape_f x_avo_m x_avo_f x_tal_m x_tal_f x_wai_m x_wai_f t.2.2.2.2.1 ∧ IvF t.2.2.2.2.1 s.2.2.2.2.2.2.2.2.1 s.2.2.2.2.2.2.2.2.2.1 s.2.2.2.2.2.2.2.2.2.2.1 t.2.2.1 t.2.2.2.1 t.2.2.2.2.2.1 t.2.2.2.2.2.2.1) (fun o o' => ∃ (u : Int32 × Int32 × Int32 × Int32 × (Nat → Int32) × Int32 × (Nat → Int32) × Int32 × (Nat → Int32) × (Nat → Int32) × Int32 × (Nat → Int32) × (Nat → Int32)) (w : Int32 × Int32 × Int32 × (Nat → Int32) × (Nat → Int32) × (Nat → Int32) × (Nat → Int32) × (Nat → Int32) × (Nat → Int32)), o = some u ∧ o' = some w ∧ u.1 = w.1 ∧ IvS x_vow u.2.1 u.2.2.1 u.2.2.2.1 x_kinds_m x_kinds_f x_ms_m x_ms_f x_said_m u.2.2.2.2.1 u.2.2.2.2.2.1 u.2.2.2.2.2.2.1 x_tape_m x_tape_f x_avo_m x_avo_f x_tal_m x_tal_f x_wai_m x_wai_f w.2.2.2.1 ∧ IvF w.2.2.2.1 u.2.2.2.2.2.2.2.1 u.2.2.2.2.2.2.2.2.1 u.2.2.2.2.2.2.2.2.2.1 w.2.1 w.2.2.1 w.2.2.2.2.2.1 w.2.2.2.2.2.2.1 ∧ u.2.2.2.2.2.2.2.2.2.2.2.2 = x_er_f ∧ w.2.2.2.2.1 = m_errs_f) n (by omega) ⟨rfl, rfl, rfl, e2, iS, iF⟩ ?_ ?_
      · rintro i ⟨s1, s2, s3, s4, s5, s6, s7, s8, s9, s10, s11, s12, s13⟩ ⟨t1, t2, t3, t4, t5, t6, t7, t8, t9⟩ hi ⟨h1, h2, h3, h4, h5, h6⟩
        dsimp only at h1 h2 h3 h4 h5 h6
        obtain ⟨u, w', g1, g2, g3, g4, g5, g6⟩ := day2 (x_stack_m := s12) (x_stack_f := s13) (m_facts_f := t8) (m_pile_f := t9) h5 iV h6 h4 (by omega)
        refine Or.inr ⟨(s1 + u.1, nI (i + 1), u.2.1, u.2.2.1, u.2.2.2.1, u.2.2.2.2.1, u.2.2.2.2.2.1, u.2.2.2.2.2.2.1, u.2.2.2.2.2.2.2.1, u.2.2.2.2.2.2.2.2.1, u.2.2.2.2.2.2.2.2.2.1, u.2.2.2.2.2.2.2.2.2.2.1, u.2.2.2.2.2.2.2.2.2.2.2), (t1 + w'.1, nI (i + 1), w'.2.1, w'.2.2.1, w'.2.2.2.1, w'.2.2.2.2.1, w'.2.2.2.2.2.1, w'.2.2.2.2.2.2.1, w'.2.2.2.2.2.2.2), ⟨by dsimp only; rw [h1, g3], rfl, rfl, g4, g5, g6⟩, fun kk => ?_, fun kk => ?_⟩
        · unfold B_X7_loose_41
          rw [if_neg (show ¬ nI n ≤ s2 from by rw [h2, nI_leI (by omega) (by omega)]; omega)]
          refine (congrArg (fun o => bd o _) g1).trans ?_
          rw [bd_some]
          dsimp only
          rw [h2, l1, nI_add]
        · unfold B_X8_loose_42
          rw [if_neg (show ¬ nI n ≤ t2 from by rw [h3, nI_leI (by omega) (by omega)]; omega)]
          refine (congrArg (fun o => bd o _) g2).trans ?_
          rw [bd_some]
          dsimp only
          rw [h3, l1, nI_add]
      · rintro ⟨s1, s2, s3, s4, s5, s6, s7, s8, s9, s10, s11, s12, s13⟩ ⟨t1, t2, t3, t4, t5, t6, t7, t8, t9⟩ ⟨h1, h2, h3, h4, h5, h6⟩ kk kk'
        dsimp only at h1 h2 h3 h4 h5 h6
        refine ⟨(s1, s3, s4, s5, s6, s7, s8, s9, s10, s11, s12, s13, x_er_f), (t1, t3, t4, t5, m_errs_f, t6, t7, t8, t9), ?_, ?_, h1, h5, h6, rfl, rfl⟩
        · unfold B_X7_loose_41
          rw [if_pos (show nI n ≤ s2 from by rw [h2, nI_leI (by omega) (by omega)]; omega)]
        · unfold B_X8_loose_42
          rw [if_pos (show nI n ≤ t2 from by rw [h3, nI_leI (by omega) (by omega)]; omega)]
    obtain ⟨u, w', g1, g2, g3, g4, g5, g6, g7⟩ := key
    exact ⟨u, w', g1, g2, g3, g4, g5, by rw [g6, g7]; exact iE⟩
  · refine ⟨(-(nI 1000000003), x_day, x_worth, x_z, x_said_f, x_signs_m, x_signs_f, x_fitting, x_fit_f, x_counted_f, x_stack_m, x_stack_f, upd x_er_f 3 (x_er_f 3 + nI 1)), (-(nI 1000000003), m_mfit, m_known, m_row_f, upd m_errs_f 3 (m_errs_f 3 + nI 1), m_isFit_f, m_breaks_f, m_facts_f, m_pile_f), ?_, ?_, by dsimp only, iS, iF, iE.err 3⟩
    · unfold F_X7_loose
      rw [show F_X7_within (nI n) (1 : Int32) (20 : Int32) = _ from w1_Y (M := 20) hn1 hn2 (by omega), bd_some, if_neg (show ¬ nI 1 = 0 from by decide), if_neg (show ¬ x_day + nI n ≤ (9999 : Int32) from by rw [e2, nI_add, l9999, nI_leI (by omega) (by omega)]; exact hc), show F_X7_error x_er_f (3 : Int32) = _ from x_err3 x_er_f, bd_some]
    · unfold F_X8_loose
      rw [show F_X8_in (nI n) (1 : Int32) (20 : Int32) = _ from w1_Y (M := 20) hn1 hn2 (by omega), bd_some, if_neg (show ¬ nI 1 = 0 from by decide), z0, a2, if_neg (show ¬ x_day + nI n ≤ (9999 : Int32) from by rw [e2, nI_add, l9999, nI_leI (by omega) (by omega)]; exact hc), show F_X8_error m_errs_f (-1000000003 : Int32) = _ from m_err3 m_errs_f, bd_some]
end
theorem st_say (G : xG) (tx : Nat) (wx : Nat → Nat) (tm : Nat) (wm : Nat → Nat) (a0 : Int32) (a1 : Int32) : StpI G tx wx tm wm yX7_say (Cond.code yX7_say cX7_say 3 (some .int)) yX8_say (Cond.code yX8_say cX8_say 3 (some .int)) [.int a0, .int a1] := by
  intro c ws hc h
  refine h.on (fun x_hasI x_imgs x_vow x_day x_worth x_z x_kinds_m x_kinds_f x_ms_m x_ms_f x_said_m x_said_f x_signs_m x_signs_f x_tape_m x_tape_f x_avo_m x_avo_f x_tal_m x_tal_f x_wai_m x_wai_f x_kp_vow x_kp_day x_kp_worth x_kp_z x_kp_kinds_m x_kp_kinds_f x_kp_ms_m x_kp_ms_f x_kp_said_m x_kp_said_f x_kp_signs_m x_kp_signs_f x_kp_tape_m x_kp_tape_f x_kp_avo_m x_kp_avo_f x_kp_tal_m x_kp_tal_f x_kp_wai_m x_kp_wai_f x_fitting x_spread_f x_breakers_f x_fit_f x_counted_f x_kk x_rat x_flt x_codes_m x_codes_f x_stack_m x_stack_f x_parted x_vkk x_vkd x_vmm x_trace_m x_trace_f x_er_f x_bits0 x_num0_m x_num0_f x_bits1 x_num1_m x_num1_f x_bits2 x_num2_m x_num2_f x_bits3 x_num3_m x_num3_f m_images m_mfit m_known m_laid m_hre m_opnd m_bad m_usg m_trcd m_isP m_row_f m_kpt_f m_errs_f m_bitsOf_f m_sizeOf_f m_cels_f m_broken_f m_isFit_f m_breaks_f m_act_f m_wth_f m_facts_f m_pile_f m_trc_f hW hI => ?_)
  subst hW
  obtain ⟨iS, iV, iF, iR, iE, iH0, iH1, iH2, iH3, iK⟩ := hI
  have jK : ∃ k : Nat, k ≤ c + 1 ∧ x_imgs = nI k ∧ m_images = nI k ∧ (x_hasI = if k = 0 then nI 0 else nI 1) ∧ (k ≠ 0 → IvS x_kp_vow x_kp_day x_kp_worth x_kp_z x_kp_kinds_m x_kp_kinds_f x_kp_ms_m x_kp_ms_f x_kp_said_m x_kp_said_f x_kp_signs_m x_kp_signs_f x_kp_tape_m x_kp_tape_f x_kp_avo_m x_kp_avo_f x_kp_tal_m x_kp_tal_f x_kp_wai_m x_kp_wai_f m_kpt_f) := by
    obtain ⟨k, hk, q⟩ := iK
    exact ⟨k, by omega, q⟩
  obtain ⟨u, w, e1, e2, e3, jS, jF, jE⟩ := k_say iS iV iF iE a0 a1
  exact s_say G tx wx tm wm x_hasI x_imgs x_vow x_day x_worth x_z x_kinds_m x_kinds_f x_ms_m x_ms_f x_said_m x_said_f x_signs_m x_signs_f x_tape_m x_tape_f x_avo_m x_avo_f x_tal_m x_tal_f x_wai_m x_wai_f x_kp_vow x_kp_day x_kp_worth x_kp_z x_kp_kinds_m x_kp_kinds_f x_kp_ms_m x_kp_ms_f x_kp_said_m x_kp_said_f x_kp_signs_m x_kp_signs_f x_kp_tape_m x_kp_tape_f x_kp_avo_m x_kp_avo_f x_kp_tal_m x_kp_tal_f x_kp_wai_m x_kp_wai_f x_fitting x_spread_f x_breakers_f x_fit_f x_counted_f x_kk x_rat x_flt x_codes_m x_codes_f x_stack_m x_stack_f x_parted x_vkk x_vkd x_vmm x_trace_m x_trace_f x_er_f x_bits0 x_num0_m x_num0_f x_bits1 x_num1_m x_num1_f x_bits2 x_num2_m x_num2_f x_bits3 x_num3_m x_num3_f m_images m_mfit m_known m_laid m_hre m_opnd m_bad m_usg m_trcd m_isP m_row_f m_kpt_f m_errs_f m_bitsOf_f m_sizeOf_f m_cels_f m_broken_f m_isFit_f m_breaks_f m_act_f m_wth_f m_facts_f m_pile_f m_trc_f a0 a1 u w e1 e2 e3 ⟨jS, iV, jF, iR, jE, iH0, iH1, iH2, iH3, jK⟩
theorem st_loose (G : xG) (tx : Nat) (wx : Nat → Nat) (tm : Nat) (wm : Nat → Nat) (a0 : Int32) : StpI G tx wx tm wm yX7_loose (Cond.code yX7_loose cX7_loose 4 (some .int)) yX8_loose (Cond.code yX8_loose cX8_loose 4 (some .int)) [.int a0] := by
  intro c ws hc h
  refine h.on (fun x_hasI x_imgs x_vow x_day x_worth x_z x_kinds_m x_kinds_f x_ms_m x_ms_f x_said_m x_said_f x_signs_m x_signs_f x_tape_m x_tape_f x_avo_m x_avo_f x_tal_m x_tal_f x_wai_m x_wai_f x_kp_vow x_kp_day x_kp_worth x_kp_z x_kp_kinds_m x_kp_kinds_f x_kp_ms_m x_kp_ms_f x_kp_said_m x_kp_said_f x_kp_signs_m x_kp_signs_f x_kp_tape_m x_kp_tape_f x_kp_avo_m x_kp_avo_f x_kp_tal_m x_kp_tal_f x_kp_wai_m x_kp_wai_f x_fitting x_spread_f x_breakers_f x_fit_f x_counted_f x_kk x_rat x_flt x_codes_m x_codes_f x_stack_m x_stack_f x_parted x_vkk x_vkd x_vmm x_trace_m x_trace_f x_er_f x_bits0 x_num0_m x_num0_f x_bits1 x_num1_m x_num1_f x_bits2 x_num2_m x_num2_f x_bits3 x_num3_m x_num3_f m_images m_mfit m_known m_laid m_hre m_opnd m_bad m_usg m_trcd m_isP m_row_f m_kpt_f m_errs_f m_bitsOf_f m_sizeOf_f m_cels_f m_broken_f m_isFit_f m_breaks_f m_act_f m_wth_f m_facts_f m_pile_f m_trc_f hW hI => ?_)
  subst hW
  obtain ⟨iS, iV, iF, iR, iE, iH0, iH1, iH2, iH3, iK⟩ := hI
  have jK : ∃ k : Nat, k ≤ c + 1 ∧ x_imgs = nI k ∧ m_images = nI k ∧ (x_hasI = if k = 0 then nI 0 else nI 1) ∧ (k ≠ 0 → IvS x_kp_vow x_kp_day x_kp_worth x_kp_z x_kp_kinds_m x_kp_kinds_f x_kp_ms_m x_kp_ms_f x_kp_said_m x_kp_said_f x_kp_signs_m x_kp_signs_f x_kp_tape_m x_kp_tape_f x_kp_avo_m x_kp_avo_f x_kp_tal_m x_kp_tal_f x_kp_wai_m x_kp_wai_f m_kpt_f) := by
    obtain ⟨k, hk, q⟩ := iK
    exact ⟨k, by omega, q⟩
  obtain ⟨u, w, e1, e2, e3, jS, jF, jE⟩ := k_loose iS iV iF iE a0
  exact s_loose G tx wx tm wm x_hasI x_imgs x_vow x_day x_worth x_z x_kinds_m x_kinds_f x_ms_m x_ms_f x_said_m x_said_f x_signs_m x_signs_f x_tape_m x_tape_f x_avo_m x_avo_f x_tal_m x_tal_f x_wai_m x_wai_f x_kp_vow x_kp_day x_kp_worth x_kp_z x_kp_kinds_m x_kp_kinds_f x_kp_ms_m x_kp_ms_f x_kp_said_m x_kp_said_f x_kp_signs_m x_kp_signs_f x_kp_tape_m x_kp_tape_f x_kp_avo_m x_kp_avo_f x_kp_tal_m x_kp_tal_f x_kp_wai_m x_kp_wai_f x_fitting x_spread_f x_breakers_f x_fit_f x_counted_f x_kk x_rat x_flt x_codes_m x_codes_f x_stack_m x_stack_f x_parted x_vkk x_vkd x_vmm x_trace_m x_trace_f x_er_f x_bits0 x_num0_m x_num0_f x_bits1 x_num1_m x_num1_f x_bits2 x_num2_m x_num2_f x_bits3 x_num3_m x_num3_f m_images m_mfit m_known m_laid m_hre m_opnd m_bad m_usg m_trcd m_isP m_row_f m_kpt_f m_errs_f m_bitsOf_f m_sizeOf_f m_cels_f m_broken_f m_isFit_f m_breaks_f m_act_f m_wth_f m_facts_f m_pile_f m_trc_f a0 u w e1 e2 e3 ⟨jS, iV, jF, iR, jE, iH0, iH1, iH2, iH3, jK⟩
