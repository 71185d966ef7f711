/-! PURE: moving numbers -/
theorem inN {c N : Nat} (h : c < N) (hN : N < 2 ^ 31) : ¬ (nI c < 0 ∨ N ≤ c) := by
  rintro (h1 | h1)
  · exact nI_pos (by omega) h1
  · omega
theorem m_moveL {errs C : Nat → Int32} {q r i j k : Nat} (hq : q < 4) (hr : r < 4) (hi : i + k ≤ 24) (hj : j + k ≤ 24) : ∃ C' : Nat → Int32, lp (B_X8_move_28 errs (nI q) (nI i) (nI r) (nI j) (nI k)) fuelC (nI 0, C) = some (nI k, errs, C') ∧ ∀ x, C' x = if 24 * r + j ≤ x ∧ x < 24 * r + j + k then C (24 * q + i + (x - (24 * r + j))) else C x := by
  by_cases hji : j ≤ i
  · refine lp_go (fun t (s : Int32 × (Nat → Int32)) => s.1 = nI t ∧ ∀ x, s.2 x = if 24 * r + j ≤ x ∧ x < 24 * r + j + t then C (24 * q + i + (x - (24 * r + j))) else C x) (fun o => ∃ C' : Nat → Int32, o = some (nI k, errs, C') ∧ ∀ x, C' x = if 24 * r + j ≤ x ∧ x < 24 * r + j + k then C (24 * q + i + (x - (24 * r + j))) else C x) k (by omega) ⟨rfl, fun x => by rw [if_neg (by omega)]⟩ ?_ ?_
    · rintro t ⟨s1, s2⟩ ht ⟨h1, h2⟩
      dsimp only at h1 h2
      subst h1
      have hread : s2 (24 * q + i + t) = C (24 * q + i + t) := by rw [h2, if_neg (by omega)]
      refine Or.inr ⟨(nI (t + 1), upd s2 (24 * r + j + t) (C (24 * q + i + t))), ⟨rfl, fun x => ?_⟩, fun kk => ?_⟩
      · dsimp only
        by_cases hx : x = 24 * r + j + t
        · subst hx
          rw [pk_us, if_pos (by omega)]
          congr 1
          omega
        · rw [pk_un hx, h2]
          by_cases hc : 24 * r + j ≤ x ∧ x < 24 * r + j + t
          · rw [if_pos hc, if_pos (by omega)]
          · rw [if_neg hc, if_neg (by omega)]
      · unfold B_X8_move_28
        simp (disch := omega) only [↓reduceIte, l0, l1, l2, l3, l4, l5, l6, l7, l8, l9, l10, l11, l12, l13, l14, l15, l16, l17, l18, l19, l20, l21, l22, l23, l24, l25, l26, l27, l28, l29, l30, l32, l33, l37, l38, l40, l41, l42, l43, l45, l47, l48, l57, l58, l60, l61, l62, l63, l64, l69, l70, l74, l88, l91, l96, l97, l98, l99, l100, l102, l115, l116, l121, l124, l134, l158, l279, l255, l400, l728, l729, l9999, l99999, l12345, l1103515245, l1000000000, l1000000001, l1000000002, l1000000003, l1000000004, l1000000005, l1000000006, pk_us, nI_add, pk_mul, pk_sub, pk_div, nI_clamp, nI_ltI, nI_leI, nI_eq, bd_some, Nat.not_lt_zero, false_or, or_false, true_or, or_true, if_pos, if_neg, ite_true, ite_false, if_true, if_false, Nat.add_zero, hji, hread]
    · rintro ⟨s1, s2⟩ ⟨h1, h2⟩ kk
      dsimp only at h1 h2
      subst h1
      unfold B_X8_move_28
      simp (disch := omega) only [↓reduceIte, l0, l1, l2, l3, l4, l5, l6, l7, l8, l9, l10, l11, l12, l13, l14, l15, l16, l17, l18, l19, l20, l21, l22, l23, l24, l25, l26, l27, l28, l29, l30, l32, l33, l37, l38, l40, l41, l42, l43, l45, l47, l48, l57, l58, l60, l61, l62, l63, l64, l69, l70, l74, l88, l91, l96, l97, l98, l99, l100, l102, l115, l116, l121, l124, l134, l158, l279, l255, l400, l728, l729, l9999, l99999, l12345, l1103515245, l1000000000, l1000000001, l1000000002, l1000000003, l1000000004, l1000000005, l1000000006, pk_us, nI_add, pk_mul, pk_sub, pk_div, nI_clamp, nI_ltI, nI_leI, nI_eq, bd_some, Nat.not_lt_zero, false_or, or_false, true_or, or_true, if_pos, if_neg, ite_true, ite_false, if_true, if_false, Nat.add_zero]
      exact ⟨s2, rfl, h2⟩
  · refine lp_go (fun t (s : Int32 × (Nat → Int32)) => s.1 = nI t ∧ ∀ x, s.2 x = if 24 * r + j + (k - t) ≤ x ∧ x < 24 * r + j + k then C (24 * q + i + (x - (24 * r + j))) else C x) (fun o => ∃ C' : Nat → Int32, o = some (nI k, errs, C') ∧ ∀ x, C' x = if 24 * r + j ≤ x ∧ x < 24 * r + j + k then C (24 * q + i + (x - (24 * r + j))) else C x) k (by omega) ⟨rfl, fun x => by rw [if_neg (by omega)]⟩ ?_ ?_
    · rintro t ⟨s1, s2⟩ ht ⟨h1, h2⟩
      dsimp only at h1 h2
      subst h1
      have hread : s2 (24 * q + i + (k - 1 - t)) = C (24 * q + i + (k - 1 - t)) := by rw [h2, if_neg (by omega)]
      have hsub : nI k - (1 : Int32) - nI t = nI (k - 1 - t) := by rw [l1, pk_sub (by omega), pk_sub (by omega)]
      refine Or.inr ⟨(nI (t + 1), upd s2 (24 * r + j + (k - 1 - t)) (C (24 * q + i + (k - 1 - t)))), ⟨rfl, fun x => ?_⟩, fun kk => ?_⟩
      · dsimp only
        by_cases hx : x = 24 * r + j + (k - 1 - t)
        · subst hx
          rw [pk_us, if_pos (by omega)]
          congr 1
          omega
        · rw [pk_un hx, h2]
          by_cases hc : 24 * r + j + (k - t) ≤ x ∧ x < 24 * r + j + k
          · rw [if_pos hc, if_pos (by omega)]
          · rw [if_neg hc, if_neg (by omega)]
      · have g1 : (24 : Int32) * nI q + nI i + nI (k - 1 - t) = nI (24 * q + i + (k - 1 - t)) := by rw [l24, pk_mul, nI_add, nI_add]
        have g2 : (24 : Int32) * nI r + nI j + nI (k - 1 - t) = nI (24 * r + j + (k - 1 - t)) := by rw [l24, pk_mul, nI_add, nI_add]
        unfold B_X8_move_28
        rw [if_neg (show ¬ nI k ≤ nI t from nI_ge ht (by omega)), if_neg (show ¬ nI j ≤ nI i from by rw [nI_leI (by omega) (by omega)]; exact hji)]
        dsimp only
        rw [hsub, g1, g2, if_neg (nI_in (N := 96) (by omega) (by omega)), if_neg (nI_in (N := 96) (by omega) (by omega)), nI_clamp (by omega), nI_clamp (by omega), hread, l1, nI_add]
    · rintro ⟨s1, s2⟩ ⟨h1, h2⟩ kk
      dsimp only at h1 h2
      subst h1
      refine ⟨s2, ?_, fun x => ?_⟩
      · unfold B_X8_move_28
        rw [if_pos (show nI k ≤ nI k from nI_le (Nat.le_refl _) (by omega))]
      · rw [h2, Nat.sub_self, Nat.add_zero]
theorem x_hasRun_eq (n i k : Int32) : F_X1_hasRun n i k = some (if k < 0 ∨ i < 0 ∨ n - i < k then nI 0 else nI 1) := by
  unfold F_X1_hasRun
  by_cases h1 : k < 0
  · rw [if_pos h1, if_pos (Or.inl h1)]; rfl
  · rw [if_neg h1]
    by_cases h2 : i < 0
    · rw [if_pos h2, if_pos (Or.inr (Or.inl h2))]; rfl
    · rw [if_neg h2]
      by_cases h3 : n - i < k
      · rw [if_pos h3, if_pos (Or.inr (Or.inr h3))]; rfl
      · rw [if_neg h3, if_neg (by rintro (h | h | h); exact h1 h; exact h2 h; exact h3 h)]; rfl
theorem run_nat {n : Nat} {i k : Int32} (hn : n ≤ 24) (h : ¬ (k < 0 ∨ i < 0 ∨ nI n - i < k)) : ∃ i' k' : Nat, i = nI i' ∧ k = nI k' ∧ i' + k' ≤ n := by
  obtain ⟨k', hk', rfl⟩ := nI_of (fun e => h (Or.inl e))
  obtain ⟨i', hi', rfl⟩ := nI_of (fun e => h (Or.inr (Or.inl e)))
  refine ⟨i', k', rfl, rfl, ?_⟩
  have h3 : ¬ nI n - nI i' < nI k' := fun e => h (Or.inr (Or.inr e))
  rw [Int32.lt_iff_toInt_lt, fb_subI (by rw [nI_toInt (by omega), nI_toInt hi']; omega) (by rw [nI_toInt (by omega), nI_toInt hi']; omega), nI_toInt (by omega), nI_toInt hi', nI_toInt hk'] at h3
  omega
theorem m_notMoved {bitsOf sizeOf : Nat → Int32} {q r : Nat} (hq : q < 4) (hr : r < 4) (h1 : ¬ bitsOf q = nI 0) (h2 : ¬ bitsOf r = nI 0) (h3 : bitsOf q = bitsOf r) (i j k : Int32) : F_X8_notMoved bitsOf sizeOf (nI q) i (nI r) j k = some (if (k < 0 ∨ i < 0 ∨ sizeOf q - i < k) ∨ (k < 0 ∨ j < 0 ∨ sizeOf r - j < k) then -(nI 1000000001) else nI 0) := by
  have gq : ¬ (nI q < 0 ∨ 4 ≤ (nI q).toNatClampNeg) := nI_in hq (by omega)
  have gr : ¬ (nI r < 0 ∨ 4 ≤ (nI r).toNatClampNeg) := nI_in hr (by omega)
  unfold F_X8_notMoved
  rw [isSh_Y hq, bd_some, if_neg (show ¬ nI 1 = 0 from by decide), isSh_Y hr, bd_some, if_neg (show ¬ nI 1 = 0 from by decide), if_neg gq, nI_clamp (by omega), if_neg (show ¬ bitsOf q = 0 from h1), if_neg gr, nI_clamp (by omega), if_neg (show ¬ bitsOf r = 0 from h2), if_neg (inN hq (by omega) : ¬ (nI q < 0 ∨ 4 ≤ q)), if_neg (inN hr (by omega) : ¬ (nI r < 0 ∨ 4 ≤ r)), if_pos h3]
  by_cases c1 : k < 0
  · rw [if_pos c1, if_pos (Or.inl (Or.inl c1))]; rfl
  rw [if_neg c1]
  by_cases c2 : i < 0
  · rw [if_pos c2, if_pos (Or.inl (Or.inr (Or.inl c2)))]; rfl
  rw [if_neg c2]
  by_cases c3 : j < 0
  · rw [if_pos c3, if_pos (Or.inr (Or.inr (Or.inl c3)))]; rfl
  rw [if_neg c3]
  rw [if_neg (inN hq (by omega) : ¬ (nI q < 0 ∨ 4 ≤ q))]
  by_cases c4 : sizeOf q - i < k
  · rw [if_pos c4, if_pos (Or.inl (Or.inr (Or.inr c4)))]; rfl
  rw [if_neg c4, if_neg (inN hr (by omega) : ¬ (nI r < 0 ∨ 4 ≤ r))]
  by_cases c5 : sizeOf r - j < k
  · rw [if_pos c5, if_pos (Or.inr (Or.inr (Or.inr c5)))]; rfl
  rw [if_neg c5, if_neg]
  · rfl
  · rintro ((h | h | h) | (h | h | h))
    · exact c1 h
    · exact c2 h
    · exact c4 h
    · exact c1 h
    · exact c3 h
    · exact c5 h
section
variable {er errs nf nf2 bitsOf sizeOf cels : Nat → Int32} {bits nm bits2 nm2 : Int32} {q r : Nat}
theorem g_move (hq : q < 4) (hr : r < 4) (hqr : q ≠ r) (iE : IvE er errs) (iH : IvH q bits nm nf bitsOf sizeOf cels) (iH2 : IvH r bits2 nm2 nf2 bitsOf sizeOf cels) (i j k : Int32) : ∃ (u : Int32 × (Nat → Int32) × (Nat → Int32)) (w : Int32 × (Nat → Int32) × (Nat → Int32)), F_X7_move_in er bits nm nf bits2 nm2 nf2 (nI q) i (nI r) j k = some u ∧ F_X8_move errs bitsOf sizeOf cels (nI q) i (nI r) j k = some w ∧ u.1 = w.1 ∧ IvE u.2.1 w.2.1 ∧ IvH r bits2 nm2 u.2.2 bitsOf sizeOf w.2.2 ∧ ∀ (x : Nat) (b3 n3 : Int32) (f3 : Nat → Int32), x ≠ r → IvH x b3 n3 f3 bitsOf sizeOf cels → IvH x b3 n3 f3 bitsOf sizeOf w.2.2 := by
  have iH0 := iH
  have iH20 := iH2
  obtain ⟨hb, hbo, n, hn, h0n, rfl, hs, hcl⟩ := iH0
  obtain ⟨hb2, hbo2, n2, hn2, h0n2, rfl, hs2, hcl2⟩ := iH20
  have gq : ¬ (nI q < 0 ∨ 4 ≤ (nI q).toNatClampNeg) := nI_in hq (by omega)
  have gr : ¬ (nI r < 0 ∨ 4 ≤ (nI r).toNatClampNeg) := nI_in hr (by omega)
  have oth : ∀ (x : Nat) (b3 n3 : Int32) (f3 : Nat → Int32), x ≠ r → IvH x b3 n3 f3 bitsOf sizeOf cels → IvH x b3 n3 f3 bitsOf sizeOf cels := fun _ _ _ _ _ h => h
  by_cases h0 : bits = nI 0
  · refine ⟨(-(nI 1000000002), upd er 2 (er 2 + nI 1), nf2), (-(nI 1000000002), upd errs 2 (errs 2 + nI 1), cels), ?_, ?_, rfl, iE.err 2, iH2, oth⟩
    · unfold F_X7_move_in F_X2_isMissing
      rw [shIn hq, bd_some, shIn hr, bd_some, if_pos (show bits = 0 from h0), bd_some, if_neg (show ¬ (1 : Int32) = 0 from by decide), show F_X7_error er (2 : Int32) = _ from x_err2 er, bd_some]
    · unfold F_X8_move F_X8_notMoved
      rw [isSh_Y hq, bd_some, if_neg (show ¬ nI 1 = 0 from by decide), isSh_Y hr, bd_some, if_neg (show ¬ nI 1 = 0 from by decide), if_neg gq, nI_clamp (by omega), if_pos (show bitsOf q = 0 from hbo.trans h0), bd_some, if_neg (show ¬ (-1000000002 : Int32) = 0 from by decide), show F_X8_error errs (-1000000002 : Int32) = _ from m_err2 errs, bd_some]
  by_cases h02 : bits2 = nI 0
  · refine ⟨(-(nI 1000000002), upd er 2 (er 2 + nI 1), nf2), (-(nI 1000000002), upd errs 2 (errs 2 + nI 1), cels), ?_, ?_, rfl, iE.err 2, iH2, oth⟩
    · unfold F_X7_move_in F_X2_isMissing
      rw [shIn hq, bd_some, shIn hr, bd_some, if_neg (show ¬ bits = 0 from h0), bd_some, if_pos (show (0 : Int32) = 0 from rfl), if_pos (show bits2 = 0 from h02), bd_some, if_neg (show ¬ (1 : Int32) = 0 from by decide), show F_X7_error er (2 : Int32) = _ from x_err2 er, bd_some]
    · unfold F_X8_move F_X8_notMoved
      rw [isSh_Y hq, bd_some, if_neg (show ¬ nI 1 = 0 from by decide), isSh_Y hr, bd_some, if_neg (show ¬ nI 1 = 0 from by decide), if_neg gq, nI_clamp (by omega), if_neg (show ¬ bitsOf q = 0 from fun e => h0 (hbo ▸ e)), if_neg gr, nI_clamp (by omega), if_pos (show bitsOf r = 0 from hbo2.trans h02), bd_some, if_neg (show ¬ (-1000000002 : Int32) = 0 from by decide), show F_X8_error errs (-1000000002 : Int32) = _ from m_err2 errs, bd_some]
  have hbq : ¬ bitsOf q = nI 0 := fun e => h0 (hbo ▸ e)
  have hbr : ¬ bitsOf r = nI 0 := fun e => h02 (hbo2 ▸ e)
  by_cases heq : bits = bits2
  · have hX : F_X7_move_in er bits (nI n) nf bits2 (nI n2) nf2 (nI q) i (nI r) j k = bd (F_X1_hasRun (nI n) i k) (fun u5 => if u5 = 0 then some (-(nI 1000000001), upd er 1 (er 1 + nI 1), nf2) else bd (F_X1_hasRun (nI n2) j k) (fun u6 => if u6 = 0 then some (-(nI 1000000001), upd er 1 (er 1 + nI 1), nf2) else bd (F_X1_takeRun 24 24 (nI n2) nf2 (nI n) nf i j k) (fun u7 => some (k, er, u7)))) := by
      unfold F_X7_move_in F_X2_isMissing
      rw [shIn hq, bd_some, shIn hr, bd_some, if_neg (show ¬ bits = 0 from h0), bd_some, if_pos (show (0 : Int32) = 0 from rfl), if_neg (show ¬ bits2 = 0 from h02), bd_some, if_pos (show (0 : Int32) = 0 from rfl), if_pos heq, show F_X7_error er (1 : Int32) = _ from x_err1 er, bd_some]
    have hM := m_notMoved (sizeOf := sizeOf) hq hr hbq hbr (hbo.trans (heq.trans hbo2.symm)) i j k
    rw [hs, hs2] at hM
    rw [x_hasRun_eq, bd_some] at hX
    have herr : (k < 0 ∨ i < 0 ∨ nI n - i < k) ∨ (k < 0 ∨ j < 0 ∨ nI n2 - j < k) → F_X8_move errs bitsOf sizeOf cels (nI q) i (nI r) j k = some (-(nI 1000000001), upd errs 1 (errs 1 + nI 1), cels) := by
      intro hc
      unfold F_X8_move
      rw [hM, if_pos hc, bd_some, if_neg (show ¬ -(nI 1000000001) = 0 from e1ne), m_err1, bd_some]
    by_cases c1 : k < 0 ∨ i < 0 ∨ nI n - i < k
    · rw [if_pos c1, if_pos (show nI 0 = 0 from rfl)] at hX
      exact ⟨_, _, hX, herr (Or.inl c1), rfl, iE.err 1, iH2, oth⟩
    · rw [if_neg c1, if_neg (show ¬ nI 1 = 0 from by decide), x_hasRun_eq, bd_some] at hX
      by_cases c2 : k < 0 ∨ j < 0 ∨ nI n2 - j < k
      · rw [if_pos c2, if_pos (show nI 0 = 0 from rfl)] at hX
        exact ⟨_, _, hX, herr (Or.inr c2), rfl, iE.err 1, iH2, oth⟩
      · rw [if_neg c2, if_neg (show ¬ nI 1 = 0 from by decide)] at hX
        obtain ⟨i', k', rfl, rfl, hik⟩ := run_nat hn c1
        obtain ⟨j', k2, rfl, hkk, hjk⟩ := run_nat hn2 c2
        have hkb : k' < 2 ^ 31 := by omega
        have hk2b : k2 < 2 ^ 31 := by omega
        have ekk : k' = k2 := (nI_eq hkb hk2b).mp hkk
        subst ekk
        obtain ⟨C', t1, t2⟩ := m_moveL (errs := errs) (C := cels) (q := q) (r := r) (i := i') (j := j') (k := k') hq hr (by omega) (by omega)
        have htr : F_X1_takeRun 24 24 (nI n2) nf2 (nI n) nf (nI i') (nI j') (nI k') = some (va_cpy nf nf2 i' j' k') := by
          unfold F_X1_takeRun
          rw [x_hasRun (by omega) hik, bd_some, if_neg (show ¬ nI 1 = 0 from by decide), x_hasRun (by omega) hjk, bd_some, if_neg (show ¬ nI 1 = 0 from by decide), if_neg, nI_clamp (by omega), nI_clamp (by omega), nI_clamp (by omega)]
          rw [nI_clamp (by omega), nI_clamp (by omega), nI_clamp (by omega)]
          rintro (h | h | h | h | h)
          · exact nI_pos (by omega) h
          · exact nI_pos (by omega) h
          · exact nI_pos (by omega) h
          · omega
          · omega
        rw [htr, bd_some] at hX
        have hMM : F_X8_move errs bitsOf sizeOf cels (nI q) (nI i') (nI r) (nI j') (nI k') = some (nI k', errs, C') := by
          unfold F_X8_move
          rw [hM, if_neg (by rintro (h | h); exact c1 h; exact c2 h), bd_some, if_pos (show nI 0 = 0 from rfl)]
          exact t1
        refine ⟨_, _, hX, hMM, rfl, iE, ⟨hb2, hbo2, n2, hn2, h0n2, rfl, hs2, fun x hx => ?_⟩, fun x b3 n3 f3 hx h => h.cong rfl rfl (fun y hy => ?_)⟩
        · dsimp only
          rw [t2]
          by_cases hc : j' ≤ x ∧ x < j' + k'
          · rw [pk_cpy_in hc.1 hc.2, if_pos (by omega), hcl (i' + (x - j')) (by omega)]
            congr 1
            omega
          · rw [pk_cpy_out (by omega), if_neg (by omega)]
            exact hcl2 x hx
        · dsimp only
          rw [t2, if_neg (by omega)]
  · refine ⟨(-(nI 1000000005), upd er 5 (er 5 + nI 1), nf2), (-(nI 1000000005), upd errs 5 (errs 5 + nI 1), cels), ?_, ?_, rfl, iE.err 5, iH2, oth⟩
    · unfold F_X7_move_in F_X2_isMissing
      rw [shIn hq, bd_some, shIn hr, bd_some, if_neg (show ¬ bits = 0 from h0), bd_some, if_pos (show (0 : Int32) = 0 from rfl), if_neg (show ¬ bits2 = 0 from h02), bd_some, if_pos (show (0 : Int32) = 0 from rfl), if_neg heq, show F_X7_error er (5 : Int32) = _ from x_err5 er, bd_some]
    · unfold F_X8_move F_X8_notMoved
      rw [isSh_Y hq, bd_some, if_neg (show ¬ nI 1 = 0 from by decide), isSh_Y hr, bd_some, if_neg (show ¬ nI 1 = 0 from by decide), if_neg gq, nI_clamp (by omega), if_neg (show ¬ bitsOf q = 0 from hbq), if_neg gr, nI_clamp (by omega), if_neg (show ¬ bitsOf r = 0 from hbr), if_neg (inN hq (by omega) : ¬ (nI q < 0 ∨ 4 ≤ q)), if_neg (inN hr (by omega) : ¬ (nI r < 0 ∨ 4 ≤ r)), if_neg (show ¬ bitsOf q = bitsOf r from fun e => heq (hbo.symm.trans (e.trans hbo2))), bd_some, if_neg (show ¬ (-1000000005 : Int32) = 0 from by decide), show F_X8_error errs (-1000000005 : Int32) = _ from m_err5 errs, bd_some]
theorem g_same (hq : q < 4) (iE : IvE er errs) (iH : IvH q bits nm nf bitsOf sizeOf cels) (i j k : Int32) : ∃ (u : Int32 × (Nat → Int32) × (Nat → Int32)) (w : Int32 × (Nat → Int32) × (Nat → Int32)), F_X7_move_same er bits nm nf (nI q) i (nI q) j k = some u ∧ F_X8_move errs bitsOf sizeOf cels (nI q) i (nI q) j k = some w ∧ u.1 = w.1 ∧ IvE u.2.1 w.2.1 ∧ IvH q bits nm u.2.2 bitsOf sizeOf w.2.2 ∧ ∀ (x : Nat) (b3 n3 : Int32) (f3 : Nat → Int32), x ≠ q → IvH x b3 n3 f3 bitsOf sizeOf cels → IvH x b3 n3 f3 bitsOf sizeOf w.2.2 := by
  have iH0 := iH
  obtain ⟨hb, hbo, n, hn, h0n, rfl, hs, hcl⟩ := iH0
  have gq : ¬ (nI q < 0 ∨ 4 ≤ (nI q).toNatClampNeg) := nI_in hq (by omega)
  have oth : ∀ (x : Nat) (b3 n3 : Int32) (f3 : Nat → Int32), x ≠ q → IvH x b3 n3 f3 bitsOf sizeOf cels → IvH x b3 n3 f3 bitsOf sizeOf cels := fun _ _ _ _ _ h => h
  by_cases h0 : bits = nI 0
  · refine ⟨(-(nI 1000000002), upd er 2 (er 2 + nI 1), nf), (-(nI 1000000002), upd errs 2 (errs 2 + nI 1), cels), ?_, ?_, rfl, iE.err 2, iH, oth⟩
    · unfold F_X7_move_same F_X2_isMissing
      rw [shIn hq, bd_some, bd_some, if_pos (show bits = 0 from h0), bd_some, if_neg (show ¬ (1 : Int32) = 0 from by decide), show F_X7_error er (2 : Int32) = _ from x_err2 er, bd_some]
    · unfold F_X8_move F_X8_notMoved
      rw [isSh_Y hq, bd_some, if_neg (show ¬ nI 1 = 0 from by decide), bd_some, if_neg (show ¬ nI 1 = 0 from by decide), if_neg gq, nI_clamp (by omega), if_pos (show bitsOf q = 0 from hbo.trans h0), bd_some, if_neg (show ¬ (-1000000002 : Int32) = 0 from by decide), show F_X8_error errs (-1000000002 : Int32) = _ from m_err2 errs, bd_some]
  have hbq : ¬ bitsOf q = nI 0 := fun e => h0 (hbo ▸ e)
  have hX : F_X7_move_same er bits (nI n) nf (nI q) i (nI q) j k = bd (F_X1_hasRun (nI n) i k) (fun u5 => if u5 = 0 then some (-(nI 1000000001), upd er 1 (er 1 + nI 1), nf) else bd (F_X1_hasRun (nI n) j k) (fun u6 => if u6 = 0 then some (-(nI 1000000001), upd er 1 (er 1 + nI 1), nf) else bd (F_X1_takeRun_same 24 (nI n) nf i j k) (fun u7 => some (k, er, u7)))) := by
    unfold F_X7_move_same F_X2_isMissing
    rw [shIn hq, bd_some, bd_some, if_neg (show ¬ bits = 0 from h0), bd_some, if_pos (show (0 : Int32) = 0 from rfl), bd_some, if_pos (show (0 : Int32) = 0 from rfl), if_pos rfl, show F_X7_error er (1 : Int32) = _ from x_err1 er, bd_some]
  have hM := m_notMoved (sizeOf := sizeOf) hq hq hbq hbq rfl i j k
  rw [hs] at hM
  rw [x_hasRun_eq, bd_some] at hX
  have herr : (k < 0 ∨ i < 0 ∨ nI n - i < k) ∨ (k < 0 ∨ j < 0 ∨ nI n - j < k) → F_X8_move errs bitsOf sizeOf cels (nI q) i (nI q) j k = some (-(nI 1000000001), upd errs 1 (errs 1 + nI 1), cels) := by
    intro hc
    unfold F_X8_move
    rw [hM, if_pos hc, bd_some, if_neg (show ¬ -(nI 1000000001) = 0 from e1ne), m_err1, bd_some]
  by_cases c1 : k < 0 ∨ i < 0 ∨ nI n - i < k
  · rw [if_pos c1, if_pos (show nI 0 = 0 from rfl)] at hX
    exact ⟨_, _, hX, herr (Or.inl c1), rfl, iE.err 1, iH, oth⟩
  · rw [if_neg c1, if_neg (show ¬ nI 1 = 0 from by decide), x_hasRun_eq, bd_some] at hX
    by_cases c2 : k < 0 ∨ j < 0 ∨ nI n - j < k
    · rw [if_pos c2, if_pos (show nI 0 = 0 from rfl)] at hX
      exact ⟨_, _, hX, herr (Or.inr c2), rfl, iE.err 1, iH, oth⟩
    · rw [if_neg c2, if_neg (show ¬ nI 1 = 0 from by decide)] at hX
      obtain ⟨i', k', rfl, rfl, hik⟩ := run_nat hn c1
      obtain ⟨j', k2, rfl, hkk, hjk⟩ := run_nat hn c2
      have ekk : k' = k2 := (nI_eq (by omega) (by omega)).mp hkk
      subst ekk
      obtain ⟨C', t1, t2⟩ := m_moveL (errs := errs) (C := cels) (q := q) (r := q) (i := i') (j := j') (k := k') hq hq (by omega) (by omega)
      have htr : F_X1_takeRun_same 24 (nI n) nf (nI i') (nI j') (nI k') = some (va_cpy nf nf i' j' k') := by
        unfold F_X1_takeRun_same
        rw [x_hasRun (by omega) hik, bd_some, if_neg (show ¬ nI 1 = 0 from by decide), x_hasRun (by omega) hjk, bd_some, if_neg (show ¬ nI 1 = 0 from by decide), if_neg, nI_clamp (by omega), nI_clamp (by omega), nI_clamp (by omega)]
        rw [nI_clamp (by omega), nI_clamp (by omega), nI_clamp (by omega)]
        rintro (h | h | h | h | h)
        · exact nI_pos (by omega) h
        · exact nI_pos (by omega) h
        · exact nI_pos (by omega) h
        · omega
        · omega
      rw [htr, bd_some] at hX
      have hMM : F_X8_move errs bitsOf sizeOf cels (nI q) (nI i') (nI q) (nI j') (nI k') = some (nI k', errs, C') := by
        unfold F_X8_move
        rw [hM, if_neg (by rintro (h | h); exact c1 h; exact c2 h), bd_some, if_pos (show nI 0 = 0 from rfl)]
        exact t1
      refine ⟨_, _, hX, hMM, rfl, iE, ⟨hb, hbo, n, hn, h0n, rfl, hs, fun x hx => ?_⟩, fun x b3 n3 f3 hx h => h.cong rfl rfl (fun y hy => ?_)⟩
      · dsimp only
        rw [t2]
        by_cases hc : j' ≤ x ∧ x < j' + k'
        · rw [pk_cpy_in hc.1 hc.2, if_pos (by omega), hcl (i' + (x - j')) (by omega)]
          congr 1
          omega
        · rw [pk_cpy_out (by omega), if_neg (by omega)]
          exact hcl x hx
      · dsimp only
        rw [t2, if_neg (by omega)]
end
section
variable {c : Nat} {x_hasI : Int32} {x_imgs : Int32} {x_vow : Int32} {x_day : Int32} {x_worth : Int32} {x_z : Int32} {x_kinds_m : Int32} {x_kinds_f : Nat → Int32} {x_ms_m : Int32} {x_ms_f : Nat → Int32} {x_said_m : Int32} {x_said_f : Nat → Int32} {x_signs_m : Int32} {x_signs_f : Nat → Int32} {x_tape_m : Int32} {x_tape_f : Nat → Int32} {x_avo_m : Int32} {x_avo_f : Nat → Int32} {x_tal_m : Int32} {x_tal_f : Nat → Int32} {x_wai_m : Int32} {x_wai_f : Nat → Int32} {x_kp_vow : Int32} {x_kp_day : Int32} {x_kp_worth : Int32} {x_kp_z : Int32} {x_kp_kinds_m : Int32} {x_kp_kinds_f : Nat → Int32} {x_kp_ms_m : Int32} {x_kp_ms_f : Nat → Int32} {x_kp_said_m : Int32} {x_kp_said_f : Nat → Int32} {x_kp_signs_m : Int32} {x_kp_signs_f : Nat → Int32} {x_kp_tape_m : Int32} {x_kp_tape_f : Nat → Int32} {x_kp_avo_m : Int32} {x_kp_avo_f : Nat → Int32} {x_kp_tal_m : Int32} {x_kp_tal_f : Nat → Int32} {x_kp_wai_m : Int32} {x_kp_wai_f : Nat → Int32} {x_fitting : Int32} {x_spread_f : Nat → Int32} {x_breakers_f : Nat → Int64} {x_fit_f : Nat → Int32} {x_counted_f : Nat → Int32} {x_kk : Nat} {x_rat : Int32} {x_flt : Int32} {x_codes_m : Int32} {x_codes_f : Nat → Int32} {x_stack_m : Int32} {x_stack_f : Nat → Int32} {x_parted : Int32} {x_vkk : Int32} {x_vkd : Int32} {x_vmm : Int32} {x_trace_m : Int32} {x_trace_f : Nat → Int32} {x_er_f : Nat → Int32} {x_bits0 : Int32} {x_num0_m : Int32} {x_num0_f : Nat → Int32} {x_bits1 : Int32} {x_num1_m : Int32} {x_num1_f : Nat → Int32} {x_bits2 : Int32} {x_num2_m : Int32} {x_num2_f : Nat → Int32} {x_bits3 : Int32} {x_num3_m : Int32} {x_num3_f : Nat → Int32} {m_images : Int32} {m_mfit : Int32} {m_known : Int32} {m_laid : Int32} {m_hre : Int32} {m_opnd : Int32} {m_bad : Int32} {m_usg : Int32} {m_trcd : Int32} {m_isP : Int32} {m_row_f : Nat → Int32} {m_kpt_f : Nat → Int32} {m_errs_f : Nat → Int32} {m_bitsOf_f : Nat → Int32} {m_sizeOf_f : Nat → Int32} {m_cels_f : Nat → Int32} {m_broken_f : Nat → Int64} {m_isFit_f : Nat → Int32} {m_breaks_f : Nat → Int32} {m_act_f : Nat → Int32} {m_wth_f : Nat → Int32} {m_facts_f : Nat → Int32} {m_pile_f : Nat → Int32} {m_trc_f : Nat → Int32}
theorem sh_in1 {q : Nat} (hq : q < 4) {j : Int32} (h : j < 0 ∨ nI 4 ≤ j) {i l k : Int32} {bo so : Nat → Int32} : F_X8_notMoved bo so (nI q) i j l k = some (-(nI 1000000001)) := by
  unfold F_X8_notMoved
  rw [isSh_Y hq, bd_some, if_neg (show ¬ nI 1 = 0 from by decide), isSh_N h, bd_some, if_pos (show nI 0 = 0 from rfl)]
  rfl
theorem sh_in2 {s : Int32} (h : s < 0 ∨ nI 4 ≤ s) {i j l k : Int32} {bo so : Nat → Int32} : F_X8_notMoved bo so s i j l k = some (-(nI 1000000001)) := by
  unfold F_X8_notMoved
  rw [isSh_N h, bd_some, if_pos (show nI 0 = 0 from rfl)]
  rfl
theorem k_move_out1_s0 (iE : IvE x_er_f m_errs_f) (iH0 : IvH 0 x_bits0 x_num0_m x_num0_f m_bitsOf_f m_sizeOf_f m_cels_f) (iH1 : IvH 1 x_bits1 x_num1_m x_num1_f m_bitsOf_f m_sizeOf_f m_cels_f) (iH2 : IvH 2 x_bits2 x_num2_m x_num2_f m_bitsOf_f m_sizeOf_f m_cels_f) (iH3 : IvH 3 x_bits3 x_num3_m x_num3_f m_bitsOf_f m_sizeOf_f m_cels_f) (si : Int32) (i : Int32) (sj : Int32) (j : Int32) (k : Int32) (h1 : si = nI 0) (h2 : sj < 0 ∨ nI 4 ≤ sj) : ∃ (u : (Int32 × (Nat → Int32))) (w : (Int32 × (Nat → Int32) × (Nat → Int32))), F_X7_move_out1 x_er_f si sj = some u ∧ F_X8_move m_errs_f m_bitsOf_f m_sizeOf_f m_cels_f si i sj j k = some w ∧ u.1 = w.1 ∧ IvE u.2 w.2.1 ∧ IvH 0 x_bits0 x_num0_m x_num0_f m_bitsOf_f m_sizeOf_f w.2.2 ∧ IvH 1 x_bits1 x_num1_m x_num1_f m_bitsOf_f m_sizeOf_f w.2.2 ∧ IvH 2 x_bits2 x_num2_m x_num2_f m_bitsOf_f m_sizeOf_f w.2.2 ∧ IvH 3 x_bits3 x_num3_m x_num3_f m_bitsOf_f m_sizeOf_f w.2.2 := by
  refine ⟨(-(nI 1000000001), upd x_er_f 1 (x_er_f 1 + nI 1)), (-(nI 1000000001), upd m_errs_f 1 (m_errs_f 1 + nI 1), m_cels_f), ?_, ?_, rfl, iE.err 1, iH0, iH1, iH2, iH3⟩
  · unfold F_X7_move_out1
    rw [h1, shIn (q := 0) (by omega), bd_some, shOut h2, bd_some, show F_X7_error x_er_f (1 : Int32) = _ from x_err1 x_er_f, bd_some]
  · unfold F_X8_move
    rw [h1, sh_in1 (q := 0) (by omega) h2, bd_some, if_neg (show ¬ -(nI 1000000001) = 0 from e1ne), m_err1, bd_some]
theorem k_move_out1_s1 (iE : IvE x_er_f m_errs_f) (iH0 : IvH 0 x_bits0 x_num0_m x_num0_f m_bitsOf_f m_sizeOf_f m_cels_f) (iH1 : IvH 1 x_bits1 x_num1_m x_num1_f m_bitsOf_f m_sizeOf_f m_cels_f) (iH2 : IvH 2 x_bits2 x_num2_m x_num2_f m_bitsOf_f m_sizeOf_f m_cels_f) (iH3 : IvH 3 x_bits3 x_num3_m x_num3_f m_bitsOf_f m_sizeOf_f m_cels_f) (si : Int32) (i : Int32) (sj : Int32) (j : Int32) (k : Int32) (h1 : si = nI 1) (h2 : sj < 0 ∨ nI 4 ≤ sj) : ∃ (u : (Int32 × (Nat → Int32))) (w : (Int32 × (Nat → Int32) × (Nat → Int32))), F_X7_move_out1 x_er_f si sj = some u ∧ F_X8_move m_errs_f m_bitsOf_f m_sizeOf_f m_cels_f si i sj j k = some w ∧ u.1 = w.1 ∧ IvE u.2 w.2.1 ∧ IvH 0 x_bits0 x_num0_m x_num0_f m_bitsOf_f m_sizeOf_f w.2.2 ∧ IvH 1 x_bits1 x_num1_m x_num1_f m_bitsOf_f m_sizeOf_f w.2.2 ∧ IvH 2 x_bits2 x_num2_m x_num2_f m_bitsOf_f m_sizeOf_f w.2.2 ∧ IvH 3 x_bits3 x_num3_m x_num3_f m_bitsOf_f m_sizeOf_f w.2.2 := by
  refine ⟨(-(nI 1000000001), upd x_er_f 1 (x_er_f 1 + nI 1)), (-(nI 1000000001), upd m_errs_f 1 (m_errs_f 1 + nI 1), m_cels_f), ?_, ?_, rfl, iE.err 1, iH0, iH1, iH2, iH3⟩
  · unfold F_X7_move_out1
    rw [h1, shIn (q := 1) (by omega), bd_some, shOut h2, bd_some, show F_X7_error x_er_f (1 : Int32) = _ from x_err1 x_er_f, bd_some]
  · unfold F_X8_move
    rw [h1, sh_in1 (q := 1) (by omega) h2, bd_some, if_neg (show ¬ -(nI 1000000001) = 0 from e1ne), m_err1, bd_some]
theorem k_move_out1_s2 (iE : IvE x_er_f m_errs_f) (iH0 : IvH 0 x_bits0 x_num0_m x_num0_f m_bitsOf_f m_sizeOf_f m_cels_f) (iH1 : IvH 1 x_bits1 x_num1_m x_num1_f m_bitsOf_f m_sizeOf_f m_cels_f) (iH2 : IvH 2 x_bits2 x_num2_m x_num2_f m_bitsOf_f m_sizeOf_f m_cels_f) (iH3 : IvH 3 x_bits3 x_num3_m x_num3_f m_bitsOf_f m_sizeOf_f m_cels_f) (si : Int32) (i : Int32) (sj : Int32) (j : Int32) (k : Int32) (h1 : si = nI 2) (h2 : sj < 0 ∨ nI 4 ≤ sj) : ∃ (u : (Int32 × (Nat → Int32))) (w : (Int32 × (Nat → Int32) × (Nat → Int32))), F_X7_move_out1 x_er_f si sj = some u ∧ F_X8_move m_errs_f m_bitsOf_f m_sizeOf_f m_cels_f si i sj j k = some w ∧ u.1 = w.1 ∧ IvE u.2 w.2.1 ∧ IvH 0 x_bits0 x_num0_m x_num0_f m_bitsOf_f m_sizeOf_f w.2.2 ∧ IvH 1 x_bits1 x_num1_m x_num1_f m_bitsOf_f m_sizeOf_f w.2.2 ∧ IvH 2 x_bits2 x_num2_m x_num2_f m_bitsOf_f m_sizeOf_f w.2.2 ∧ IvH 3 x_bits3 x_num3_m x_num3_f m_bitsOf_f m_sizeOf_f w.2.2 := by
  refine ⟨(-(nI 1000000001), upd x_er_f 1 (x_er_f 1 + nI 1)), (-(nI 1000000001), upd m_errs_f 1 (m_errs_f 1 + nI 1), m_cels_f), ?_, ?_, rfl, iE.err 1, iH0, iH1, iH2, iH3⟩
  · unfold F_X7_move_out1
    rw [h1, shIn (q := 2) (by omega), bd_some, shOut h2, bd_some, show F_X7_error x_er_f (1 : Int32) = _ from x_err1 x_er_f, bd_some]
  · unfold F_X8_move
    rw [h1, sh_in1 (q := 2) (by omega) h2, bd_some, if_neg (show ¬ -(nI 1000000001) = 0 from e1ne), m_err1, bd_some]
theorem k_move_out1_s3 (iE : IvE x_er_f m_errs_f) (iH0 : IvH 0 x_bits0 x_num0_m x_num0_f m_bitsOf_f m_sizeOf_f m_cels_f) (iH1 : IvH 1 x_bits1 x_num1_m x_num1_f m_bitsOf_f m_sizeOf_f m_cels_f) (iH2 : IvH 2 x_bits2 x_num2_m x_num2_f m_bitsOf_f m_sizeOf_f m_cels_f) (iH3 : IvH 3 x_bits3 x_num3_m x_num3_f m_bitsOf_f m_sizeOf_f m_cels_f) (si : Int32) (i : Int32) (sj : Int32) (j : Int32) (k : Int32) (h1 : si = nI 3) (h2 : sj < 0 ∨ nI 4 ≤ sj) : ∃ (u : (Int32 × (Nat → Int32))) (w : (Int32 × (Nat → Int32) × (Nat → Int32))), F_X7_move_out1 x_er_f si sj = some u ∧ F_X8_move m_errs_f m_bitsOf_f m_sizeOf_f m_cels_f si i sj j k = some w ∧ u.1 = w.1 ∧ IvE u.2 w.2.1 ∧ IvH 0 x_bits0 x_num0_m x_num0_f m_bitsOf_f m_sizeOf_f w.2.2 ∧ IvH 1 x_bits1 x_num1_m x_num1_f m_bitsOf_f m_sizeOf_f w.2.2 ∧ IvH 2 x_bits2 x_num2_m x_num2_f m_bitsOf_f m_sizeOf_f w.2.2 ∧ IvH 3 x_bits3 x_num3_m x_num3_f m_bitsOf_f m_sizeOf_f w.2.2 := by
  refine ⟨(-(nI 1000000001), upd x_er_f 1 (x_er_f 1 + nI 1)), (-(nI 1000000001), upd m_errs_f 1 (m_errs_f 1 + nI 1), m_cels_f), ?_, ?_, rfl, iE.err 1, iH0, iH1, iH2, iH3⟩
  · unfold F_X7_move_out1
    rw [h1, shIn (q := 3) (by omega), bd_some, shOut h2, bd_some, show F_X7_error x_er_f (1 : Int32) = _ from x_err1 x_er_f, bd_some]
  · unfold F_X8_move
    rw [h1, sh_in1 (q := 3) (by omega) h2, bd_some, if_neg (show ¬ -(nI 1000000001) = 0 from e1ne), m_err1, bd_some]
theorem k_move_out2_s0 (iE : IvE x_er_f m_errs_f) (iH0 : IvH 0 x_bits0 x_num0_m x_num0_f m_bitsOf_f m_sizeOf_f m_cels_f) (iH1 : IvH 1 x_bits1 x_num1_m x_num1_f m_bitsOf_f m_sizeOf_f m_cels_f) (iH2 : IvH 2 x_bits2 x_num2_m x_num2_f m_bitsOf_f m_sizeOf_f m_cels_f) (iH3 : IvH 3 x_bits3 x_num3_m x_num3_f m_bitsOf_f m_sizeOf_f m_cels_f) (si : Int32) (i : Int32) (sj : Int32) (j : Int32) (k : Int32) (h1 : si < 0 ∨ nI 4 ≤ si) (h2 : sj = nI 0) : ∃ (u : (Int32 × (Nat → Int32))) (w : (Int32 × (Nat → Int32) × (Nat → Int32))), F_X7_move_out2 x_er_f si sj = some u ∧ F_X8_move m_errs_f m_bitsOf_f m_sizeOf_f m_cels_f si i sj j k = some w ∧ u.1 = w.1 ∧ IvE u.2 w.2.1 ∧ IvH 0 x_bits0 x_num0_m x_num0_f m_bitsOf_f m_sizeOf_f w.2.2 ∧ IvH 1 x_bits1 x_num1_m x_num1_f m_bitsOf_f m_sizeOf_f w.2.2 ∧ IvH 2 x_bits2 x_num2_m x_num2_f m_bitsOf_f m_sizeOf_f w.2.2 ∧ IvH 3 x_bits3 x_num3_m x_num3_f m_bitsOf_f m_sizeOf_f w.2.2 := by
  refine ⟨(-(nI 1000000001), upd x_er_f 1 (x_er_f 1 + nI 1)), (-(nI 1000000001), upd m_errs_f 1 (m_errs_f 1 + nI 1), m_cels_f), ?_, ?_, rfl, iE.err 1, iH0, iH1, iH2, iH3⟩
  · unfold F_X7_move_out2
    rw [h2, shOut h1, bd_some, shIn (q := 0) (by omega), bd_some, show F_X7_error x_er_f (1 : Int32) = _ from x_err1 x_er_f, bd_some]
  · unfold F_X8_move
    rw [sh_in2 h1, bd_some, if_neg (show ¬ -(nI 1000000001) = 0 from e1ne), m_err1, bd_some]
theorem k_move_out2_s1 (iE : IvE x_er_f m_errs_f) (iH0 : IvH 0 x_bits0 x_num0_m x_num0_f m_bitsOf_f m_sizeOf_f m_cels_f) (iH1 : IvH 1 x_bits1 x_num1_m x_num1_f m_bitsOf_f m_sizeOf_f m_cels_f) (iH2 : IvH 2 x_bits2 x_num2_m x_num2_f m_bitsOf_f m_sizeOf_f m_cels_f) (iH3 : IvH 3 x_bits3 x_num3_m x_num3_f m_bitsOf_f m_sizeOf_f m_cels_f) (si : Int32) (i : Int32) (sj : Int32) (j : Int32) (k : Int32) (h1 : si < 0 ∨ nI 4 ≤ si) (h2 : sj = nI 1) : ∃ (u : (Int32 × (Nat → Int32))) (w : (Int32 × (Nat → Int32) × (Nat → Int32))), F_X7_move_out2 x_er_f si sj = some u ∧ F_X8_move m_errs_f m_bitsOf_f m_sizeOf_f m_cels_f si i sj j k = some w ∧ u.1 = w.1 ∧ IvE u.2 w.2.1 ∧ IvH 0 x_bits0 x_num0_m x_num0_f m_bitsOf_f m_sizeOf_f w.2.2 ∧ IvH 1 x_bits1 x_num1_m x_num1_f m_bitsOf_f m_sizeOf_f w.2.2 ∧ IvH 2 x_bits2 x_num2_m x_num2_f m_bitsOf_f m_sizeOf_f w.2.2 ∧ IvH 3 x_bits3 x_num3_m x_num3_f m_bitsOf_f m_sizeOf_f w.2.2 := by
  refine ⟨(-(nI 1000000001), upd x_er_f 1 (x_er_f 1 + nI 1)), (-(nI 1000000001), upd m_errs_f 1 (m_errs_f 1 + nI 1), m_cels_f), ?_, ?_, rfl, iE.err 1, iH0, iH1, iH2, iH3⟩
  · unfold F_X7_move_out2
    rw [h2, shOut h1, bd_some, shIn (q := 1) (by omega), bd_some, show F_X7_error x_er_f (1 : Int32) = _ from x_err1 x_er_f, bd_some]
  · unfold F_X8_move
    rw [sh_in2 h1, bd_some, if_neg (show ¬ -(nI 1000000001) = 0 from e1ne), m_err1, bd_some]
theorem k_move_out2_s2 (iE : IvE x_er_f m_errs_f) (iH0 : IvH 0 x_bits0 x_num0_m x_num0_f m_bitsOf_f m_sizeOf_f m_cels_f) (iH1 : IvH 1 x_bits1 x_num1_m x_num1_f m_bitsOf_f m_sizeOf_f m_cels_f) (iH2 : IvH 2 x_bits2 x_num2_m x_num2_f m_bitsOf_f m_sizeOf_f m_cels_f) (iH3 : IvH 3 x_bits3 x_num3_m x_num3_f m_bitsOf_f m_sizeOf_f m_cels_f) (si : Int32) (i : Int32) (sj : Int32) (j : Int32) (k : Int32) (h1 : si < 0 ∨ nI 4 ≤ si) (h2 : sj = nI 2) : ∃ (u : (Int32 × (Nat → Int32))) (w : (Int32 × (Nat → Int32) × (Nat → Int32))), F_X7_move_out2 x_er_f si sj = some u ∧ F_X8_move m_errs_f m_bitsOf_f m_sizeOf_f m_cels_f si i sj j k = some w ∧ u.1 = w.1 ∧ IvE u.2 w.2.1 ∧ IvH 0 x_bits0 x_num0_m x_num0_f m_bitsOf_f m_sizeOf_f w.2.2 ∧ IvH 1 x_bits1 x_num1_m x_num1_f m_bitsOf_f m_sizeOf_f w.2.2 ∧ IvH 2 x_bits2 x_num2_m x_num2_f m_bitsOf_f m_sizeOf_f w.2.2 ∧ IvH 3 x_bits3 x_num3_m x_num3_f m_bitsOf_f m_sizeOf_f w.2.2 := by
  refine ⟨(-(nI 1000000001), upd x_er_f 1 (x_er_f 1 + nI 1)), (-(nI 1000000001), upd m_errs_f 1 (m_errs_f 1 + nI 1), m_cels_f), ?_, ?_, rfl, iE.err 1, iH0, iH1, iH2, iH3⟩
  · unfold F_X7_move_out2
    rw [h2, shOut h1, bd_some, shIn (q := 2) (by omega), bd_some, show F_X7_error x_er_f (1 : Int32) = _ from x_err1 x_er_f, bd_some]
  · unfold F_X8_move
    rw [sh_in2 h1, bd_some, if_neg (show ¬ -(nI 1000000001) = 0 from e1ne), m_err1, bd_some]
theorem k_move_out2_s3 (iE : IvE x_er_f m_errs_f) (iH0 : IvH 0 x_bits0 x_num0_m x_num0_f m_bitsOf_f m_sizeOf_f m_cels_f) (iH1 : IvH 1 x_bits1 x_num1_m x_num1_f m_bitsOf_f m_sizeOf_f m_cels_f) (iH2 : IvH 2 x_bits2 x_num2_m x_num2_f m_bitsOf_f m_sizeOf_f m_cels_f) (iH3 : IvH 3 x_bits3 x_num3_m x_num3_f m_bitsOf_f m_sizeOf_f m_cels_f) (si : Int32) (i : Int32) (sj : Int32) (j : Int32) (k : Int32) (h1 : si < 0 ∨ nI 4 ≤ si) (h2 : sj = nI 3) : ∃ (u : (Int32 × (Nat → Int32))) (w : (Int32 × (Nat → Int32) × (Nat → Int32))), F_X7_move_out2 x_er_f si sj = some u ∧ F_X8_move m_errs_f m_bitsOf_f m_sizeOf_f m_cels_f si i sj j k = some w ∧ u.1 = w.1 ∧ IvE u.2 w.2.1 ∧ IvH 0 x_bits0 x_num0_m x_num0_f m_bitsOf_f m_sizeOf_f w.2.2 ∧ IvH 1 x_bits1 x_num1_m x_num1_f m_bitsOf_f m_sizeOf_f w.2.2 ∧ IvH 2 x_bits2 x_num2_m x_num2_f m_bitsOf_f m_sizeOf_f w.2.2 ∧ IvH 3 x_bits3 x_num3_m x_num3_f m_bitsOf_f m_sizeOf_f w.2.2 := by
  refine ⟨(-(nI 1000000001), upd x_er_f 1 (x_er_f 1 + nI 1)), (-(nI 1000000001), upd m_errs_f 1 (m_errs_f 1 + nI 1), m_cels_f), ?_, ?_, rfl, iE.err 1, iH0, iH1, iH2, iH3⟩
  · unfold F_X7_move_out2
    rw [h2, shOut h1, bd_some, shIn (q := 3) (by omega), bd_some, show F_X7_error x_er_f (1 : Int32) = _ from x_err1 x_er_f, bd_some]
  · unfold F_X8_move
    rw [sh_in2 h1, bd_some, if_neg (show ¬ -(nI 1000000001) = 0 from e1ne), m_err1, bd_some]
theorem k_move_out (iE : IvE x_er_f m_errs_f) (iH0 : IvH 0 x_bits0 x_num0_m x_num0_f m_bitsOf_f m_sizeOf_f m_cels_f) (iH1 : IvH 1 x_bits1 x_num1_m x_num1_f m_bitsOf_f m_sizeOf_f m_cels_f) (iH2 : IvH 2 x_bits2 x_num2_m x_num2_f m_bitsOf_f m_sizeOf_f m_cels_f) (iH3 : IvH 3 x_bits3 x_num3_m x_num3_f m_bitsOf_f m_sizeOf_f m_cels_f) (si : Int32) (i : Int32) (sj : Int32) (j : Int32) (k : Int32) (h1 : si < 0 ∨ nI 4 ≤ si) (h2 : sj < 0 ∨ nI 4 ≤ sj) : ∃ (u : (Int32 × (Nat → Int32))) (w : (Int32 × (Nat → Int32) × (Nat → Int32))), F_X7_move_out x_er_f si sj = some u ∧ F_X8_move m_errs_f m_bitsOf_f m_sizeOf_f m_cels_f si i sj j k = some w ∧ u.1 = w.1 ∧ IvE u.2 w.2.1 ∧ IvH 0 x_bits0 x_num0_m x_num0_f m_bitsOf_f m_sizeOf_f w.2.2 ∧ IvH 1 x_bits1 x_num1_m x_num1_f m_bitsOf_f m_sizeOf_f w.2.2 ∧ IvH 2 x_bits2 x_num2_m x_num2_f m_bitsOf_f m_sizeOf_f w.2.2 ∧ IvH 3 x_bits3 x_num3_m x_num3_f m_bitsOf_f m_sizeOf_f w.2.2 := by
  refine ⟨(-(nI 1000000001), upd x_er_f 1 (x_er_f 1 + nI 1)), (-(nI 1000000001), upd m_errs_f 1 (m_errs_f 1 + nI 1), m_cels_f), ?_, ?_, rfl, iE.err 1, iH0, iH1, iH2, iH3⟩
  · unfold F_X7_move_out
    rw [shOut h1, bd_some, shOut h2, bd_some, show F_X7_error x_er_f (1 : Int32) = _ from x_err1 x_er_f, bd_some]
  · unfold F_X8_move
    rw [sh_in2 h1, bd_some, if_neg (show ¬ -(nI 1000000001) = 0 from e1ne), m_err1, bd_some]
end
theorem st_move (G : xG) (tx : Nat) (wx : Nat → Nat) (tm : Nat) (wm : Nat → Nat) (a0 : Int32) (a1 : Int32) (a2 : Int32) (a3 : Int32) (a4 : Int32) : StpI G tx wx tm wm yX7_move (Cond.code yX7_move cX7_move 8 (some .int)) yX8_move (Cond.code yX8_move cX8_move 9 (some .int)) [.int a0, .int a1, .int a2, .int a3, .int a4] := by
  intro c ws hc h
  refine h.on (fun x_hasI x_imgs x_vow x_day x_worth x_z x_kinds_m x_kinds_f x_ms_m x_ms_f x_said_m x_said_f x_signs_m x_signs_f x_tape_m x_tape_f x_avo_m x_avo_f x_tal_m x_tal_f x_wai_m x_wai_f x_kp_vow x_kp_day x_kp_worth x_kp_z x_kp_kinds_m x_kp_kinds_f x_kp_ms_m x_kp_ms_f x_kp_said_m x_kp_said_f x_kp_signs_m x_kp_signs_f x_kp_tape_m x_kp_tape_f x_kp_avo_m x_kp_avo_f x_kp_tal_m x_kp_tal_f x_kp_wai_m x_kp_wai_f x_fitting x_spread_f x_breakers_f x_fit_f x_counted_f x_kk x_rat x_flt x_codes_m x_codes_f x_stack_m x_stack_f x_parted x_vkk x_vkd x_vmm x_trace_m x_trace_f x_er_f x_bits0 x_num0_m x_num0_f x_bits1 x_num1_m x_num1_f x_bits2 x_num2_m x_num2_f x_bits3 x_num3_m x_num3_f m_images m_mfit m_known m_laid m_hre m_opnd m_bad m_usg m_trcd m_isP m_row_f m_kpt_f m_errs_f m_bitsOf_f m_sizeOf_f m_cels_f m_broken_f m_isFit_f m_breaks_f m_act_f m_wth_f m_facts_f m_pile_f m_trc_f hW hI => ?_)
  subst hW
  obtain ⟨iS, iV, iF, iR, iE, iH0, iH1, iH2, iH3, iK⟩ := hI
  have jK : ∃ k : Nat, k ≤ c + 1 ∧ x_imgs = nI k ∧ m_images = nI k ∧ (x_hasI = if k = 0 then nI 0 else nI 1) ∧ (k ≠ 0 → IvS x_kp_vow x_kp_day x_kp_worth x_kp_z x_kp_kinds_m x_kp_kinds_f x_kp_ms_m x_kp_ms_f x_kp_said_m x_kp_said_f x_kp_signs_m x_kp_signs_f x_kp_tape_m x_kp_tape_f x_kp_avo_m x_kp_avo_f x_kp_tal_m x_kp_tal_f x_kp_wai_m x_kp_wai_f m_kpt_f) := by
    obtain ⟨k, hk, q⟩ := iK
    exact ⟨k, by omega, q⟩
  rcases ix a0 4 (by omega) with hs | ⟨q, hq, rfl⟩
  · rcases ix a2 4 (by omega) with hs2 | ⟨r, hr, rfl⟩
    · obtain ⟨u, w, e1, e2, e3, jE, jH0, jH1, jH2, jH3⟩ := k_move_out iE iH0 iH1 iH2 iH3 a0 a1 a2 a3 a4 hs hs2
      exact s_move_out G tx wx tm wm x_hasI x_imgs x_vow x_day x_worth x_z x_kinds_m x_kinds_f x_ms_m x_ms_f x_said_m x_said_f x_signs_m x_signs_f x_tape_m x_tape_f x_avo_m x_avo_f x_tal_m x_tal_f x_wai_m x_wai_f x_kp_vow x_kp_day x_kp_worth x_kp_z x_kp_kinds_m x_kp_kinds_f x_kp_ms_m x_kp_ms_f x_kp_said_m x_kp_said_f x_kp_signs_m x_kp_signs_f x_kp_tape_m x_kp_tape_f x_kp_avo_m x_kp_avo_f x_kp_tal_m x_kp_tal_f x_kp_wai_m x_kp_wai_f x_fitting x_spread_f x_breakers_f x_fit_f x_counted_f x_kk x_rat x_flt x_codes_m x_codes_f x_stack_m x_stack_f x_parted x_vkk x_vkd x_vmm x_trace_m x_trace_f x_er_f x_bits0 x_num0_m x_num0_f x_bits1 x_num1_m x_num1_f x_bits2 x_num2_m x_num2_f x_bits3 x_num3_m x_num3_f m_images m_mfit m_known m_laid m_hre m_opnd m_bad m_usg m_trcd m_isP m_row_f m_kpt_f m_errs_f m_bitsOf_f m_sizeOf_f m_cels_f m_broken_f m_isFit_f m_breaks_f m_act_f m_wth_f m_facts_f m_pile_f m_trc_f a0 a1 a2 a3 a4 u w e1 e2 e3 ⟨iS, iV, iF, iR, jE, jH0, jH1, jH2, jH3, jK⟩
    · rcases (show r = 0 ∨ r = 1 ∨ r = 2 ∨ r = 3 by omega) with rfl | rfl | rfl | rfl
      · obtain ⟨u, w, e1, e2, e3, jE, jH0, jH1, jH2, jH3⟩ := k_move_out2_s0 iE iH0 iH1 iH2 iH3 a0 a1 (nI 0) a3 a4 hs rfl
        exact s_move_out2_s0 G tx wx tm wm x_hasI x_imgs x_vow x_day x_worth x_z x_kinds_m x_kinds_f x_ms_m x_ms_f x_said_m x_said_f x_signs_m x_signs_f x_tape_m x_tape_f x_avo_m x_avo_f x_tal_m x_tal_f x_wai_m x_wai_f x_kp_vow x_kp_day x_kp_worth x_kp_z x_kp_kinds_m x_kp_kinds_f x_kp_ms_m x_kp_ms_f x_kp_said_m x_kp_said_f x_kp_signs_m x_kp_signs_f x_kp_tape_m x_kp_tape_f x_kp_avo_m x_kp_avo_f x_kp_tal_m x_kp_tal_f x_kp_wai_m x_kp_wai_f x_fitting x_spread_f x_breakers_f x_fit_f x_counted_f x_kk x_rat x_flt x_codes_m x_codes_f x_stack_m x_stack_f x_parted x_vkk x_vkd x_vmm x_trace_m x_trace_f x_er_f x_bits0 x_num0_m x_num0_f x_bits1 x_num1_m x_num1_f x_bits2 x_num2_m x_num2_f x_bits3 x_num3_m x_num3_f m_images m_mfit m_known m_laid m_hre m_opnd m_bad m_usg m_trcd m_isP m_row_f m_kpt_f m_errs_f m_bitsOf_f m_sizeOf_f m_cels_f m_broken_f m_isFit_f m_breaks_f m_act_f m_wth_f m_facts_f m_pile_f m_trc_f a0 a1 (nI 0) a3 a4 rfl u w e1 e2 e3 ⟨iS, iV, iF, iR, jE, jH0, jH1, jH2, jH3, jK⟩
      · obtain ⟨u, w, e1, e2, e3, jE, jH0, jH1, jH2, jH3⟩ := k_move_out2_s1 iE iH0 iH1 iH2 iH3 a0 a1 (nI 1) a3 a4 hs rfl
        exact s_move_out2_s1 G tx wx tm wm x_hasI x_imgs x_vow x_day x_worth x_z x_kinds_m x_kinds_f x_ms_m x_ms_f x_said_m x_said_f x_signs_m x_signs_f x_tape_m x_tape_f x_avo_m x_avo_f x_tal_m x_tal_f x_wai_m x_wai_f x_kp_vow x_kp_day x_kp_worth x_kp_z x_kp_kinds_m x_kp_kinds_f x_kp_ms_m x_kp_ms_f x_kp_said_m x_kp_said_f x_kp_signs_m x_kp_signs_f x_kp_tape_m x_kp_tape_f x_kp_avo_m x_kp_avo_f x_kp_tal_m x_kp_tal_f x_kp_wai_m x_kp_wai_f x_fitting x_spread_f x_breakers_f x_fit_f x_counted_f x_kk x_rat x_flt x_codes_m x_codes_f x_stack_m x_stack_f x_parted x_vkk x_vkd x_vmm x_trace_m x_trace_f x_er_f x_bits0 x_num0_m x_num0_f x_bits1 x_num1_m x_num1_f x_bits2 x_num2_m x_num2_f x_bits3 x_num3_m x_num3_f m_images m_mfit m_known m_laid m_hre m_opnd m_bad m_usg m_trcd m_isP m_row_f m_kpt_f m_errs_f m_bitsOf_f m_sizeOf_f m_cels_f m_broken_f m_isFit_f m_breaks_f m_act_f m_wth_f m_facts_f m_pile_f m_trc_f a0 a1 (nI 1) a3 a4 rfl u w e1 e2 e3 ⟨iS, iV, iF, iR, jE, jH0, jH1, jH2, jH3, jK⟩
      · obtain ⟨u, w, e1, e2, e3, jE, jH0, jH1, jH2, jH3⟩ := k_move_out2_s2 iE iH0 iH1 iH2 iH3 a0 a1 (nI 2) a3 a4 hs rfl
        exact s_move_out2_s2 G tx wx tm wm x_hasI x_imgs x_vow x_day x_worth x_z x_kinds_m x_kinds_f x_ms_m x_ms_f x_said_m x_said_f x_signs_m x_signs_f x_tape_m x_tape_f x_avo_m x_avo_f x_tal_m x_tal_f x_wai_m x_wai_f x_kp_vow x_kp_day x_kp_worth x_kp_z x_kp_kinds_m x_kp_kinds_f x_kp_ms_m x_kp_ms_f x_kp_said_m x_kp_said_f x_kp_signs_m x_kp_signs_f x_kp_tape_m x_kp_tape_f x_kp_avo_m x_kp_avo_f x_kp_tal_m x_kp_tal_f x_kp_wai_m x_kp_wai_f x_fitting x_spread_f x_breakers_f x_fit_f x_counted_f x_kk x_rat x_flt x_codes_m x_codes_f x_stack_m x_stack_f x_parted x_vkk x_vkd x_vmm x_trace_m x_trace_f x_er_f x_bits0 x_num0_m x_num0_f x_bits1 x_num1_m x_num1_f x_bits2 x_num2_m x_num2_f x_bits3 x_num3_m x_num3_f m_images m_mfit m_known m_laid m_hre m_opnd m_bad m_usg m_trcd m_isP m_row_f m_kpt_f m_errs_f m_bitsOf_f m_sizeOf_f m_cels_f m_broken_f m_isFit_f m_breaks_f m_act_f m_wth_f m_facts_f m_pile_f m_trc_f a0 a1 (nI 2) a3 a4 rfl u w e1 e2 e3 ⟨iS, iV, iF, iR, jE, jH0, jH1, jH2, jH3, jK⟩
      · obtain ⟨u, w, e1, e2, e3, jE, jH0, jH1, jH2, jH3⟩ := k_move_out2_s3 iE iH0 iH1 iH2 iH3 a0 a1 (nI 3) a3 a4 hs rfl
        exact s_move_out2_s3 G tx wx tm wm x_hasI x_imgs x_vow x_day x_worth x_z x_kinds_m x_kinds_f x_ms_m x_ms_f x_said_m x_said_f x_signs_m x_signs_f x_tape_m x_tape_f x_avo_m x_avo_f x_tal_m x_tal_f x_wai_m x_wai_f x_kp_vow x_kp_day x_kp_worth x_kp_z x_kp_kinds_m x_kp_kinds_f x_kp_ms_m x_kp_ms_f x_kp_said_m x_kp_said_f x_kp_signs_m x_kp_signs_f x_kp_tape_m x_kp_tape_f x_kp_avo_m x_kp_avo_f x_kp_tal_m x_kp_tal_f x_kp_wai_m x_kp_wai_f x_fitting x_spread_f x_breakers_f x_fit_f x_counted_f x_kk x_rat x_flt x_codes_m x_codes_f x_stack_m x_stack_f x_parted x_vkk x_vkd x_vmm x_trace_m x_trace_f x_er_f x_bits0 x_num0_m x_num0_f x_bits1 x_num1_m x_num1_f x_bits2 x_num2_m x_num2_f x_bits3 x_num3_m x_num3_f m_images m_mfit m_known m_laid m_hre m_opnd m_bad m_usg m_trcd m_isP m_row_f m_kpt_f m_errs_f m_bitsOf_f m_sizeOf_f m_cels_f m_broken_f m_isFit_f m_breaks_f m_act_f m_wth_f m_facts_f m_pile_f m_trc_f a0 a1 (nI 3) a3 a4 rfl u w e1 e2 e3 ⟨iS, iV, iF, iR, jE, jH0, jH1, jH2, jH3, jK⟩
  · rcases ix a2 4 (by omega) with hs2 | ⟨r, hr, rfl⟩
    · rcases (show q = 0 ∨ q = 1 ∨ q = 2 ∨ q = 3 by omega) with rfl | rfl | rfl | rfl
      · obtain ⟨u, w, e1, e2, e3, jE, jH0, jH1, jH2, jH3⟩ := k_move_out1_s0 iE iH0 iH1 iH2 iH3 (nI 0) a1 a2 a3 a4 rfl hs2
        exact s_move_out1_s0 G tx wx tm wm x_hasI x_imgs x_vow x_day x_worth x_z x_kinds_m x_kinds_f x_ms_m x_ms_f x_said_m x_said_f x_signs_m x_signs_f x_tape_m x_tape_f x_avo_m x_avo_f x_tal_m x_tal_f x_wai_m x_wai_f x_kp_vow x_kp_day x_kp_worth x_kp_z x_kp_kinds_m x_kp_kinds_f x_kp_ms_m x_kp_ms_f x_kp_said_m x_kp_said_f x_kp_signs_m x_kp_signs_f x_kp_tape_m x_kp_tape_f x_kp_avo_m x_kp_avo_f x_kp_tal_m x_kp_tal_f x_kp_wai_m x_kp_wai_f x_fitting x_spread_f x_breakers_f x_fit_f x_counted_f x_kk x_rat x_flt x_codes_m x_codes_f x_stack_m x_stack_f x_parted x_vkk x_vkd x_vmm x_trace_m x_trace_f x_er_f x_bits0 x_num0_m x_num0_f x_bits1 x_num1_m x_num1_f x_bits2 x_num2_m x_num2_f x_bits3 x_num3_m x_num3_f m_images m_mfit m_known m_laid m_hre m_opnd m_bad m_usg m_trcd m_isP m_row_f m_kpt_f m_errs_f m_bitsOf_f m_sizeOf_f m_cels_f m_broken_f m_isFit_f m_breaks_f m_act_f m_wth_f m_facts_f m_pile_f m_trc_f (nI 0) a1 a2 a3 a4 rfl u w e1 e2 e3 ⟨iS, iV, iF, iR, jE, jH0, jH1, jH2, jH3, jK⟩
      · obtain ⟨u, w, e1, e2, e3, jE, jH0, jH1, jH2, jH3⟩ := k_move_out1_s1 iE iH0 iH1 iH2 iH3 (nI 1) a1 a2 a3 a4 rfl hs2
        exact s_move_out1_s1 G tx wx tm wm x_hasI x_imgs x_vow x_day x_worth x_z x_kinds_m x_kinds_f x_ms_m x_ms_f x_said_m x_said_f x_signs_m x_signs_f x_tape_m x_tape_f x_avo_m x_avo_f x_tal_m x_tal_f x_wai_m x_wai_f x_kp_vow x_kp_day x_kp_worth x_kp_z x_kp_kinds_m x_kp_kinds_f x_kp_ms_m x_kp_ms_f x_kp_said_m x_kp_said_f x_kp_signs_m x_kp_signs_f x_kp_tape_m x_kp_tape_f x_kp_avo_m x_kp_avo_f x_kp_tal_m x_kp_tal_f x_kp_wai_m x_kp_wai_f x_fitting x_spread_f x_breakers_f x_fit_f x_counted_f x_kk x_rat x_flt x_codes_m x_codes_f x_stack_m x_stack_f x_parted x_vkk x_vkd x_vmm x_trace_m x_trace_f x_er_f x_bits0 x_num0_m x_num0_f x_bits1 x_num1_m x_num1_f x_bits2 x_num2_m x_num2_f x_bits3 x_num3_m x_num3_f m_images m_mfit m_known m_laid m_hre m_opnd m_bad m_usg m_trcd m_isP m_row_f m_kpt_f m_errs_f m_bitsOf_f m_sizeOf_f m_cels_f m_broken_f m_isFit_f m_breaks_f m_act_f m_wth_f m_facts_f m_pile_f m_trc_f (nI 1) a1 a2 a3 a4 rfl u w e1 e2 e3 ⟨iS, iV, iF, iR, jE, jH0, jH1, jH2, jH3, jK⟩
      · obtain ⟨u, w, e1, e2, e3, jE, jH0, jH1, jH2, jH3⟩ := k_move_out1_s2 iE iH0 iH1 iH2 iH3 (nI 2) a1 a2 a3 a4 rfl hs2
        exact s_move_out1_s2 G tx wx tm wm x_hasI x_imgs x_vow x_day x_worth x_z x_kinds_m x_kinds_f x_ms_m x_ms_f x_said_m x_said_f x_signs_m x_signs_f x_tape_m x_tape_f x_avo_m x_avo_f x_tal_m x_tal_f x_wai_m x_wai_f x_kp_vow x_kp_day x_kp_worth x_kp_z x_kp_kinds_m x_kp_kinds_f x_kp_ms_m x_kp_ms_f x_kp_said_m x_kp_said_f x_kp_signs_m x_kp_signs_f x_kp_tape_m x_kp_tape_f x_kp_avo_m x_kp_avo_f x_kp_tal_m x_kp_tal_f x_kp_wai_m x_kp_wai_f x_fitting x_spread_f x_breakers_f x_fit_f x_counted_f x_kk x_rat x_flt x_codes_m x_codes_f x_stack_m x_stack_f x_parted x_vkk x_vkd x_vmm x_trace_m x_trace_f x_er_f x_bits0 x_num0_m x_num0_f x_bits1 x_num1_m x_num1_f x_bits2 x_num2_m x_num2_f x_bits3 x_num3_m x_num3_f m_images m_mfit m_known m_laid m_hre m_opnd m_bad m_usg m_trcd m_isP m_row_f m_kpt_f m_errs_f m_bitsOf_f m_sizeOf_f m_cels_f m_broken_f m_isFit_f m_breaks_f m_act_f m_wth_f m_facts_f m_pile_f m_trc_f (nI 2) a1 a2 a3 a4 rfl u w e1 e2 e3 ⟨iS, iV, iF, iR, jE, jH0, jH1, jH2, jH3, jK⟩
      · obtain ⟨u, w, e1, e2, e3, jE, jH0, jH1, jH2, jH3⟩ := k_move_out1_s3 iE iH0 iH1 iH2 iH3 (nI 3) a1 a2 a3 a4 rfl hs2
        exact s_move_out1_s3 G tx wx tm wm x_hasI x_imgs x_vow x_day x_worth x_z x_kinds_m x_kinds_f x_ms_m x_ms_f x_said_m x_said_f x_signs_m x_signs_f x_tape_m x_tape_f x_avo_m x_avo_f x_tal_m x_tal_f x_wai_m x_wai_f x_kp_vow x_kp_day x_kp_worth x_kp_z x_kp_kinds_m x_kp_kinds_f x_kp_ms_m x_kp_ms_f x_kp_said_m x_kp_said_f x_kp_signs_m x_kp_signs_f x_kp_tape_m x_kp_tape_f x_kp_avo_m x_kp_avo_f x_kp_tal_m x_kp_tal_f x_kp_wai_m x_kp_wai_f x_fitting x_spread_f x_breakers_f x_fit_f x_counted_f x_kk x_rat x_flt x_codes_m x_codes_f x_stack_m x_stack_f x_parted x_vkk x_vkd x_vmm x_trace_m x_trace_f x_er_f x_bits0 x_num0_m x_num0_f x_bits1 x_num1_m x_num1_f x_bits2 x_num2_m x_num2_f x_bits3 x_num3_m x_num3_f m_images m_mfit m_known m_laid m_hre m_opnd m_bad m_usg m_trcd m_isP m_row_f m_kpt_f m_errs_f m_bitsOf_f m_sizeOf_f m_cels_f m_broken_f m_isFit_f m_breaks_f m_act_f m_wth_f m_facts_f m_pile_f m_trc_f (nI 3) a1 a2 a3 a4 rfl u w e1 e2 e3 ⟨iS, iV, iF, iR, jE, jH0, jH1, jH2, jH3, jK⟩
    · rcases (show q = 0 ∨ q = 1 ∨ q = 2 ∨ q = 3 by omega) with rfl | rfl | rfl | rfl <;> rcases (show r = 0 ∨ r = 1 ∨ r = 2 ∨ r = 3 by omega) with rfl | rfl | rfl | rfl
      · obtain ⟨u, w, e1, e2, e3, jE, jH, jO⟩ := g_same (q := 0) (by omega) iE iH0 a1 a3 a4
        exact s_move_same_s0_s0 G tx wx tm wm x_hasI x_imgs x_vow x_day x_worth x_z x_kinds_m x_kinds_f x_ms_m x_ms_f x_said_m x_said_f x_signs_m x_signs_f x_tape_m x_tape_f x_avo_m x_avo_f x_tal_m x_tal_f x_wai_m x_wai_f x_kp_vow x_kp_day x_kp_worth x_kp_z x_kp_kinds_m x_kp_kinds_f x_kp_ms_m x_kp_ms_f x_kp_said_m x_kp_said_f x_kp_signs_m x_kp_signs_f x_kp_tape_m x_kp_tape_f x_kp_avo_m x_kp_avo_f x_kp_tal_m x_kp_tal_f x_kp_wai_m x_kp_wai_f x_fitting x_spread_f x_breakers_f x_fit_f x_counted_f x_kk x_rat x_flt x_codes_m x_codes_f x_stack_m x_stack_f x_parted x_vkk x_vkd x_vmm x_trace_m x_trace_f x_er_f x_bits0 x_num0_m x_num0_f x_bits1 x_num1_m x_num1_f x_bits2 x_num2_m x_num2_f x_bits3 x_num3_m x_num3_f m_images m_mfit m_known m_laid m_hre m_opnd m_bad m_usg m_trcd m_isP m_row_f m_kpt_f m_errs_f m_bitsOf_f m_sizeOf_f m_cels_f m_broken_f m_isFit_f m_breaks_f m_act_f m_wth_f m_facts_f m_pile_f m_trc_f (nI 0) a1 (nI 0) a3 a4 rfl rfl u w e1 e2 e3 ⟨iS, iV, iF, iR, jE, jH, jO 1 _ _ _ (by decide) iH1, jO 2 _ _ _ (by decide) iH2, jO 3 _ _ _ (by decide) iH3, jK⟩
      · obtain ⟨u, w, e1, e2, e3, jE, jH, jO⟩ := g_move (q := 0) (r := 1) (by omega) (by omega) (by decide) iE iH0 iH1 a1 a3 a4
        exact s_move_in_s0_s1 G tx wx tm wm x_hasI x_imgs x_vow x_day x_worth x_z x_kinds_m x_kinds_f x_ms_m x_ms_f x_said_m x_said_f x_signs_m x_signs_f x_tape_m x_tape_f x_avo_m x_avo_f x_tal_m x_tal_f x_wai_m x_wai_f x_kp_vow x_kp_day x_kp_worth x_kp_z x_kp_kinds_m x_kp_kinds_f x_kp_ms_m x_kp_ms_f x_kp_said_m x_kp_said_f x_kp_signs_m x_kp_signs_f x_kp_tape_m x_kp_tape_f x_kp_avo_m x_kp_avo_f x_kp_tal_m x_kp_tal_f x_kp_wai_m x_kp_wai_f x_fitting x_spread_f x_breakers_f x_fit_f x_counted_f x_kk x_rat x_flt x_codes_m x_codes_f x_stack_m x_stack_f x_parted x_vkk x_vkd x_vmm x_trace_m x_trace_f x_er_f x_bits0 x_num0_m x_num0_f x_bits1 x_num1_m x_num1_f x_bits2 x_num2_m x_num2_f x_bits3 x_num3_m x_num3_f m_images m_mfit m_known m_laid m_hre m_opnd m_bad m_usg m_trcd m_isP m_row_f m_kpt_f m_errs_f m_bitsOf_f m_sizeOf_f m_cels_f m_broken_f m_isFit_f m_breaks_f m_act_f m_wth_f m_facts_f m_pile_f m_trc_f (nI 0) a1 (nI 1) a3 a4 rfl rfl u w e1 e2 e3 ⟨iS, iV, iF, iR, jE, jO 0 _ _ _ (by decide) iH0, jH, jO 2 _ _ _ (by decide) iH2, jO 3 _ _ _ (by decide) iH3, jK⟩
      · obtain ⟨u, w, e1, e2, e3, jE, jH, jO⟩ := g_move (q := 0) (r := 2) (by omega) (by omega) (by decide) iE iH0 iH2 a1 a3 a4
        exact s_move_in_s0_s2 G tx wx tm wm x_hasI x_imgs x_vow x_day x_worth x_z x_kinds_m x_kinds_f x_ms_m x_ms_f x_said_m x_said_f x_signs_m x_signs_f x_tape_m x_tape_f x_avo_m x_avo_f x_tal_m x_tal_f x_wai_m x_wai_f x_kp_vow x_kp_day x_kp_worth x_kp_z x_kp_kinds_m x_kp_kinds_f x_kp_ms_m x_kp_ms_f x_kp_said_m x_kp_said_f x_kp_signs_m x_kp_signs_f x_kp_tape_m x_kp_tape_f x_kp_avo_m x_kp_avo_f x_kp_tal_m x_kp_tal_f x_kp_wai_m x_kp_wai_f x_fitting x_spread_f x_breakers_f x_fit_f x_counted_f x_kk x_rat x_flt x_codes_m x_codes_f x_stack_m x_stack_f x_parted x_vkk x_vkd x_vmm x_trace_m x_trace_f x_er_f x_bits0 x_num0_m x_num0_f x_bits1 x_num1_m x_num1_f x_bits2 x_num2_m x_num2_f x_bits3 x_num3_m x_num3_f m_images m_mfit m_known m_laid m_hre m_opnd m_bad m_usg m_trcd m_isP m_row_f m_kpt_f m_errs_f m_bitsOf_f m_sizeOf_f m_cels_f m_broken_f m_isFit_f m_breaks_f m_act_f m_wth_f m_facts_f m_pile_f m_trc_f (nI 0) a1 (nI 2) a3 a4 rfl rfl u w e1 e2 e3 ⟨iS, iV, iF, iR, jE, jO 0 _ _ _ (by decide) iH0, jO 1 _ _ _ (by decide) iH1, jH, jO 3 _ _ _ (by decide) iH3, jK⟩
      · obtain ⟨u, w, e1, e2, e3, jE, jH, jO⟩ := g_move (q := 0) (r := 3) (by omega) (by omega) (by decide) iE iH0 iH3 a1 a3 a4
        exact s_move_in_s0_s3 G tx wx tm wm x_hasI x_imgs x_vow x_day x_worth x_z x_kinds_m x_kinds_f x_ms_m x_ms_f x_said_m x_said_f x_signs_m x_signs_f x_tape_m x_tape_f x_avo_m x_avo_f x_tal_m x_tal_f x_wai_m x_wai_f x_kp_vow x_kp_day x_kp_worth x_kp_z x_kp_kinds_m x_kp_kinds_f x_kp_ms_m x_kp_ms_f x_kp_said_m x_kp_said_f x_kp_signs_m x_kp_signs_f x_kp_tape_m x_kp_tape_f x_kp_avo_m x_kp_avo_f x_kp_tal_m x_kp_tal_f x_kp_wai_m x_kp_wai_f x_fitting x_spread_f x_breakers_f x_fit_f x_counted_f x_kk x_rat x_flt x_codes_m x_codes_f x_stack_m x_stack_f x_parted x_vkk x_vkd x_vmm x_trace_m x_trace_f x_er_f x_bits0 x_num0_m x_num0_f x_bits1 x_num1_m x_num1_f x_bits2 x_num2_m x_num2_f x_bits3 x_num3_m x_num3_f m_images m_mfit m_known m_laid m_hre m_opnd m_bad m_usg m_trcd m_isP m_row_f m_kpt_f m_errs_f m_bitsOf_f m_sizeOf_f m_cels_f m_broken_f m_isFit_f m_breaks_f m_act_f m_wth_f m_facts_f m_pile_f m_trc_f (nI 0) a1 (nI 3) a3 a4 rfl rfl u w e1 e2 e3 ⟨iS, iV, iF, iR, jE, jO 0 _ _ _ (by decide) iH0, jO 1 _ _ _ (by decide) iH1, jO 2 _ _ _ (by decide) iH2, jH, jK⟩
      · obtain ⟨u, w, e1, e2, e3, jE, jH, jO⟩ := g_move (q := 1) (r := 0) (by omega) (by omega) (by decide) iE iH1 iH0 a1 a3 a4
        exact s_move_in_s1_s0 G tx wx tm wm x_hasI x_imgs x_vow x_day x_worth x_z x_kinds_m x_kinds_f x_ms_m x_ms_f x_said_m x_said_f x_signs_m x_signs_f x_tape_m x_tape_f x_avo_m x_avo_f x_tal_m x_tal_f x_wai_m x_wai_f x_kp_vow x_kp_day x_kp_worth x_kp_z x_kp_kinds_m x_kp_kinds_f x_kp_ms_m x_kp_ms_f x_kp_said_m x_kp_said_f x_kp_signs_m x_kp_signs_f x_kp_tape_m x_kp_tape_f x_kp_avo_m x_kp_avo_f x_kp_tal_m x_kp_tal_f x_kp_wai_m x_kp_wai_f x_fitting x_spread_f x_breakers_f x_fit_f x_counted_f x_kk x_rat x_flt x_codes_m x_codes_f x_stack_m x_stack_f x_parted x_vkk x_vkd x_vmm x_trace_m x_trace_f x_er_f x_bits0 x_num0_m x_num0_f x_bits1 x_num1_m x_num1_f x_bits2 x_num2_m x_num2_f x_bits3 x_num3_m x_num3_f m_images m_mfit m_known m_laid m_hre m_opnd m_bad m_usg m_trcd m_isP m_row_f m_kpt_f m_errs_f m_bitsOf_f m_sizeOf_f m_cels_f m_broken_f m_isFit_f m_breaks_f m_act_f m_wth_f m_facts_f m_pile_f m_trc_f (nI 1) a1 (nI 0) a3 a4 rfl rfl u w e1 e2 e3 ⟨iS, iV, iF, iR, jE, jH, jO 1 _ _ _ (by decide) iH1, jO 2 _ _ _ (by decide) iH2, jO 3 _ _ _ (by decide) iH3, jK⟩
      · obtain ⟨u, w, e1, e2, e3, jE, jH, jO⟩ := g_same (q := 1) (by omega) iE iH1 a1 a3 a4
        exact s_move_same_s1_s1 G tx wx tm wm x_hasI x_imgs x_vow x_day x_worth x_z x_kinds_m x_kinds_f x_ms_m x_ms_f x_said_m x_said_f x_signs_m x_signs_f x_tape_m x_tape_f x_avo_m x_avo_f x_tal_m x_tal_f x_wai_m x_wai_f x_kp_vow x_kp_day x_kp_worth x_kp_z x_kp_kinds_m x_kp_kinds_f x_kp_ms_m x_kp_ms_f x_kp_said_m x_kp_said_f x_kp_signs_m x_kp_signs_f x_kp_tape_m x_kp_tape_f x_kp_avo_m x_kp_avo_f x_kp_tal_m x_kp_tal_f x_kp_wai_m x_kp_wai_f x_fitting x_spread_f x_breakers_f x_fit_f x_counted_f x_kk x_rat x_flt x_codes_m x_codes_f x_stack_m x_stack_f x_parted x_vkk x_vkd x_vmm x_trace_m x_trace_f x_er_f x_bits0 x_num0_m x_num0_f x_bits1 x_num1_m x_num1_f x_bits2 x_num2_m x_num2_f x_bits3 x_num3_m x_num3_f m_images m_mfit m_known m_laid m_hre m_opnd m_bad m_usg m_trcd m_isP m_row_f m_kpt_f m_errs_f m_bitsOf_f m_sizeOf_f m_cels_f m_broken_f m_isFit_f m_breaks_f m_act_f m_wth_f m_facts_f m_pile_f m_trc_f (nI 1) a1 (nI 1) a3 a4 rfl rfl u w e1 e2 e3 ⟨iS, iV, iF, iR, jE, jO 0 _ _ _ (by decide) iH0, jH, jO 2 _ _ _ (by decide) iH2, jO 3 _ _ _ (by decide) iH3, jK⟩
      · obtain ⟨u, w, e1, e2, e3, jE, jH, jO⟩ := g_move (q := 1) (r := 2) (by omega) (by omega) (by decide) iE iH1 iH2 a1 a3 a4
        exact s_move_in_s1_s2 G tx wx tm wm x_hasI x_imgs x_vow x_day x_worth x_z x_kinds_m x_kinds_f x_ms_m x_ms_f x_said_m x_said_f x_signs_m x_signs_f x_tape_m x_tape_f x_avo_m x_avo_f x_tal_m x_tal_f x_wai_m x_wai_f x_kp_vow x_kp_day x_kp_worth x_kp_z x_kp_kinds_m x_kp_kinds_f x_kp_ms_m x_kp_ms_f x_kp_said_m x_kp_said_f x_kp_signs_m x_kp_signs_f x_kp_tape_m x_kp_tape_f x_kp_avo_m x_kp_avo_f x_kp_tal_m x_kp_tal_f x_kp_wai_m x_kp_wai_f x_fitting x_spread_f x_breakers_f x_fit_f x_counted_f x_kk x_rat x_flt x_codes_m x_codes_f x_stack_m x_stack_f x_parted x_vkk x_vkd x_vmm x_trace_m x_trace_f x_er_f x_bits0 x_num0_m x_num0_f x_bits1 x_num1_m x_num1_f x_bits2 x_num2_m x_num2_f x_bits3 x_num3_m x_num3_f m_images m_mfit m_known m_laid m_hre m_opnd m_bad m_usg m_trcd m_isP m_row_f m_kpt_f m_errs_f m_bitsOf_f m_sizeOf_f m_cels_f m_broken_f m_isFit_f m_breaks_f m_act_f m_wth_f m_facts_f m_pile_f m_trc_f (nI 1) a1 (nI 2) a3 a4 rfl rfl u w e1 e2 e3 ⟨iS, iV, iF, iR, jE, jO 0 _ _ _ (by decide) iH0, jO 1 _ _ _ (by decide) iH1, jH, jO 3 _ _ _ (by decide) iH3, jK⟩
      · obtain ⟨u, w, e1, e2, e3, jE, jH, jO⟩ := g_move (q := 1) (r := 3) (by omega) (by omega) (by decide) iE iH1 iH3 a1 a3 a4
        exact s_move_in_s1_s3 G tx wx tm wm x_hasI x_imgs x_vow x_day x_worth x_z x_kinds_m x_kinds_f x_ms_m x_ms_f x_said_m x_said_f x_signs_m x_signs_f x_tape_m x_tape_f x_avo_m x_avo_f x_tal_m x_tal_f x_wai_m x_wai_f x_kp_vow x_kp_day x_kp_worth x_kp_z x_kp_kinds_m x_kp_kinds_f x_kp_ms_m x_kp_ms_f x_kp_said_m x_kp_said_f x_kp_signs_m x_kp_signs_f x_kp_tape_m x_kp_tape_f x_kp_avo_m x_kp_avo_f x_kp_tal_m x_kp_tal_f x_kp_wai_m x_kp_wai_f x_fitting x_spread_f x_breakers_f x_fit_f x_counted_f x_kk x_rat x_flt x_codes_m x_codes_f x_stack_m x_stack_f x_parted x_vkk x_vkd x_vmm x_trace_m x_trace_f x_er_f x_bits0 x_num0_m x_num0_f x_bits1 x_num1_m x_num1_f x_bits2 x_num2_m x_num2_f x_bits3 x_num3_m x_num3_f m_images m_mfit m_known m_laid m_hre m_opnd m_bad m_usg m_trcd m_isP m_row_f m_kpt_f m_errs_f m_bitsOf_f m_sizeOf_f m_cels_f m_broken_f m_isFit_f m_breaks_f m_act_f m_wth_f m_facts_f m_pile_f m_trc_f (nI 1) a1 (nI 3) a3 a4 rfl rfl u w e1 e2 e3 ⟨iS, iV, iF, iR, jE, jO 0 _ _ _ (by decide) iH0, jO 1 _ _ _ (by decide) iH1, jO 2 _ _ _ (by decide) iH2, jH, jK⟩
      · obtain ⟨u, w, e1, e2, e3, jE, jH, jO⟩ := g_move (q := 2) (r := 0) (by omega) (by omega) (by decide) iE iH2 iH0 a1 a3 a4
        exact s_move_in_s2_s0 G tx wx tm wm x_hasI x_imgs x_vow x_day x_worth x_z x_kinds_m x_kinds_f x_ms_m x_ms_f x_said_m x_said_f x_signs_m x_signs_f x_tape_m x_tape_f x_avo_m x_avo_f x_tal_m x_tal_f x_wai_m x_wai_f x_kp_vow x_kp_day x_kp_worth x_kp_z x_kp_kinds_m x_kp_kinds_f x_kp_ms_m x_kp_ms_f x_kp_said_m x_kp_said_f x_kp_signs_m x_kp_signs_f x_kp_tape_m x_kp_tape_f x_kp_avo_m x_kp_avo_f x_kp_tal_m x_kp_tal_f x_kp_wai_m x_kp_wai_f x_fitting x_spread_f x_breakers_f x_fit_f x_counted_f x_kk x_rat x_flt x_codes_m x_codes_f x_stack_m x_stack_f x_parted x_vkk x_vkd x_vmm x_trace_m x_trace_f x_er_f x_bits0 x_num0_m x_num0_f x_bits1 x_num1_m x_num1_f x_bits2 x_num2_m x_num2_f x_bits3 x_num3_m x_num3_f m_images m_mfit m_known m_laid m_hre m_opnd m_bad m_usg m_trcd m_isP m_row_f m_kpt_f m_errs_f m_bitsOf_f m_sizeOf_f m_cels_f m_broken_f m_isFit_f m_breaks_f m_act_f m_wth_f m_facts_f m_pile_f m_trc_f (nI 2) a1 (nI 0) a3 a4 rfl rfl u w e1 e2 e3 ⟨iS, iV, iF, iR, jE, jH, jO 1 _ _ _ (by decide) iH1, jO 2 _ _ _ (by decide) iH2, jO 3 _ _ _ (by decide) iH3, jK⟩
      · obtain ⟨u, w, e1, e2, e3, jE, jH, jO⟩ := g_move (q := 2) (r := 1) (by omega) (by omega) (by decide) iE iH2 iH1 a1 a3 a4
        exact s_move_in_s2_s1 G tx wx tm wm x_hasI x_imgs x_vow x_day x_worth x_z x_kinds_m x_kinds_f x_ms_m x_ms_f x_said_m x_said_f x_signs_m x_signs_f x_tape_m x_tape_f x_avo_m x_avo_f x_tal_m x_tal_f x_wai_m x_wai_f x_kp_vow x_kp_day x_kp_worth x_kp_z x_kp_kinds_m x_kp_kinds_f x_kp_ms_m x_kp_ms_f x_kp_said_m x_kp_said_f x_kp_signs_m x_kp_signs_f x_kp_tape_m x_kp_tape_f x_kp_avo_m x_kp_avo_f x_kp_tal_m x_kp_tal_f x_kp_wai_m x_kp_wai_f x_fitting x_spread_f x_breakers_f x_fit_f x_counted_f x_kk x_rat x_flt x_codes_m x_codes_f x_stack_m x_stack_f x_parted x_vkk x_vkd x_vmm x_trace_m x_trace_f x_er_f x_bits0 x_num0_m x_num0_f x_bits1 x_num1_m x_num1_f x_bits2 x_num2_m x_num2_f x_bits3 x_num3_m x_num3_f m_images m_mfit m_known m_laid m_hre m_opnd m_bad m_usg m_trcd m_isP m_row_f m_kpt_f m_errs_f m_bitsOf_f m_sizeOf_f m_cels_f m_broken_f m_isFit_f m_breaks_f m_act_f m_wth_f m_facts_f m_pile_f m_trc_f (nI 2) a1 (nI 1) a3 a4 rfl rfl u w e1 e2 e3 ⟨iS, iV, iF, iR, jE, jO 0 _ _ _ (by decide) iH0, jH, jO 2 _ _ _ (by decide) iH2, jO 3 _ _ _ (by decide) iH3, jK⟩
      · obtain ⟨u, w, e1, e2, e3, jE, jH, jO⟩ := g_same (q := 2) (by omega) iE iH2 a1 a3 a4
        exact s_move_same_s2_s2 G tx wx tm wm x_hasI x_imgs x_vow x_day x_worth x_z x_kinds_m x_kinds_f x_ms_m x_ms_f x_said_m x_said_f x_signs_m x_signs_f x_tape_m x_tape_f x_avo_m x_avo_f x_tal_m x_tal_f x_wai_m x_wai_f x_kp_vow x_kp_day x_kp_worth x_kp_z x_kp_kinds_m x_kp_kinds_f x_kp_ms_m x_kp_ms_f x_kp_said_m x_kp_said_f x_kp_signs_m x_kp_signs_f x_kp_tape_m x_kp_tape_f x_kp_avo_m x_kp_avo_f x_kp_tal_m x_kp_tal_f x_kp_wai_m x_kp_wai_f x_fitting x_spread_f x_breakers_f x_fit_f x_counted_f x_kk x_rat x_flt x_codes_m x_codes_f x_stack_m x_stack_f x_parted x_vkk x_vkd x_vmm x_trace_m x_trace_f x_er_f x_bits0 x_num0_m x_num0_f x_bits1 x_num1_m x_num1_f x_bits2 x_num2_m x_num2_f x_bits3 x_num3_m x_num3_f m_images m_mfit m_known m_laid m_hre m_opnd m_bad m_usg m_trcd m_isP m_row_f m_kpt_f m_errs_f m_bitsOf_f m_sizeOf_f m_cels_f m_broken_f m_isFit_f m_breaks_f m_act_f m_wth_f m_facts_f m_pile_f m_trc_f (nI 2) a1 (nI 2) a3 a4 rfl rfl u w e1 e2 e3 ⟨iS, iV, iF, iR, jE, jO 0 _ _ _ (by decide) iH0, jO 1 _ _ _ (by decide) iH1, jH, jO 3 _ _ _ (by decide) iH3, jK⟩
      · obtain ⟨u, w, e1, e2, e3, jE, jH, jO⟩ := g_move (q := 2) (r := 3) (by omega) (by omega) (by decide) iE iH2 iH3 a1 a3 a4
        exact s_move_in_s2_s3 G tx wx tm wm x_hasI x_imgs x_vow x_day x_worth x_z x_kinds_m x_kinds_f x_ms_m x_ms_f x_said_m x_said_f x_signs_m x_signs_f x_tape_m x_tape_f x_avo_m x_avo_f x_tal_m x_tal_f x_wai_m x_wai_f x_kp_vow x_kp_day x_kp_worth x_kp_z x_kp_kinds_m x_kp_kinds_f x_kp_ms_m x_kp_ms_f x_kp_said_m x_kp_said_f x_kp_signs_m x_kp_signs_f x_kp_tape_m x_kp_tape_f x_kp_avo_m x_kp_avo_f x_kp_tal_m x_kp_tal_f x_kp_wai_m x_kp_wai_f x_fitting x_spread_f x_breakers_f x_fit_f x_counted_f x_kk x_rat x_flt x_codes_m x_codes_f x_stack_m x_stack_f x_parted x_vkk x_vkd x_vmm x_trace_m x_trace_f x_er_f x_bits0 x_num0_m x_num0_f x_bits1 x_num1_m x_num1_f x_bits2 x_num2_m x_num2_f x_bits3 x_num3_m x_num3_f m_images m_mfit m_known m_laid m_hre m_opnd m_bad m_usg m_trcd m_isP m_row_f m_kpt_f m_errs_f m_bitsOf_f m_sizeOf_f m_cels_f m_broken_f m_isFit_f m_breaks_f m_act_f m_wth_f m_facts_f m_pile_f m_trc_f (nI 2) a1 (nI 3) a3 a4 rfl rfl u w e1 e2 e3 ⟨iS, iV, iF, iR, jE, jO 0 _ _ _ (by decide) iH0, jO 1 _ _ _ (by decide) iH1, jO 2 _ _ _ (by decide) iH2, jH, jK⟩
      · obtain ⟨u, w, e1, e2, e3, jE, jH, jO⟩ := g_move (q := 3) (r := 0) (by omega) (by omega) (by decide) iE iH3 iH0 a1 a3 a4
        exact s_move_in_s3_s0 G tx wx tm wm x_hasI x_imgs x_vow x_day x_worth x_z x_kinds_m x_kinds_f x_ms_m x_ms_f x_said_m x_said_f x_signs_m x_signs_f x_tape_m x_tape_f x_avo_m x_avo_f x_tal_m x_tal_f x_wai_m x_wai_f x_kp_vow x_kp_day x_kp_worth x_kp_z x_kp_kinds_m x_kp_kinds_f x_kp_ms_m x_kp_ms_f x_kp_said_m x_kp_said_f x_kp_signs_m x_kp_signs_f x_kp_tape_m x_kp_tape_f x_kp_avo_m x_kp_avo_f x_kp_tal_m x_kp_tal_f x_kp_wai_m x_kp_wai_f x_fitting x_spread_f x_breakers_f x_fit_f x_counted_f x_kk x_rat x_flt x_codes_m x_codes_f x_stack_m x_stack_f x_parted x_vkk x_vkd x_vmm x_trace_m x_trace_f x_er_f x_bits0 x_num0_m x_num0_f x_bits1 x_num1_m x_num1_f x_bits2 x_num2_m x_num2_f x_bits3 x_num3_m x_num3_f m_images m_mfit m_known m_laid m_hre m_opnd m_bad m_usg m_trcd m_isP m_row_f m_kpt_f m_errs_f m_bitsOf_f m_sizeOf_f m_cels_f m_broken_f m_isFit_f m_breaks_f m_act_f m_wth_f m_facts_f m_pile_f m_trc_f (nI 3) a1 (nI 0) a3 a4 rfl rfl u w e1 e2 e3 ⟨iS, iV, iF, iR, jE, jH, jO 1 _ _ _ (by decide) iH1, jO 2 _ _ _ (by decide) iH2, jO 3 _ _ _ (by decide) iH3, jK⟩
      · obtain ⟨u, w, e1, e2, e3, jE, jH, jO⟩ := g_move (q := 3) (r := 1) (by omega) (by omega) (by decide) iE iH3 iH1 a1 a3 a4
        exact s_move_in_s3_s1 G tx wx tm wm x_hasI x_imgs x_vow x_day x_worth x_z x_kinds_m x_kinds_f x_ms_m x_ms_f x_said_m x_said_f x_signs_m x_signs_f x_tape_m x_tape_f x_avo_m x_avo_f x_tal_m x_tal_f x_wai_m x_wai_f x_kp_vow x_kp_day x_kp_worth x_kp_z x_kp_kinds_m x_kp_kinds_f x_kp_ms_m x_kp_ms_f x_kp_said_m x_kp_said_f x_kp_signs_m x_kp_signs_f x_kp_tape_m x_kp_tape_f x_kp_avo_m x_kp_avo_f x_kp_tal_m x_kp_tal_f x_kp_wai_m x_kp_wai_f x_fitting x_spread_f x_breakers_f x_fit_f x_counted_f x_kk x_rat x_flt x_codes_m x_codes_f x_stack_m x_stack_f x_parted x_vkk x_vkd x_vmm x_trace_m x_trace_f x_er_f x_bits0 x_num0_m x_num0_f x_bits1 x_num1_m x_num1_f x_bits2 x_num2_m x_num2_f x_bits3 x_num3_m x_num3_f m_images m_mfit m_known m_laid m_hre m_opnd m_bad m_usg m_trcd m_isP m_row_f m_kpt_f m_errs_f m_bitsOf_f m_sizeOf_f m_cels_f m_broken_f m_isFit_f m_breaks_f m_act_f m_wth_f m_facts_f m_pile_f m_trc_f (nI 3) a1 (nI 1) a3 a4 rfl rfl u w e1 e2 e3 ⟨iS, iV, iF, iR, jE, jO 0 _ _ _ (by decide) iH0, jH, jO 2 _ _ _ (by decide) iH2, jO 3 _ _ _ (by decide) iH3, jK⟩
      · obtain ⟨u, w, e1, e2, e3, jE, jH, jO⟩ := g_move (q := 3) (r := 2) (by omega) (by omega) (by decide) iE iH3 iH2 a1 a3 a4
        exact s_move_in_s3_s2 G tx wx tm wm x_hasI x_imgs x_vow x_day x_worth x_z x_kinds_m x_kinds_f x_ms_m x_ms_f x_said_m x_said_f x_signs_m x_signs_f x_tape_m x_tape_f x_avo_m x_avo_f x_tal_m x_tal_f x_wai_m x_wai_f x_kp_vow x_kp_day x_kp_worth x_kp_z x_kp_kinds_m x_kp_kinds_f x_kp_ms_m x_kp_ms_f x_kp_said_m x_kp_said_f x_kp_signs_m x_kp_signs_f x_kp_tape_m x_kp_tape_f x_kp_avo_m x_kp_avo_f x_kp_tal_m x_kp_tal_f x_kp_wai_m x_kp_wai_f x_fitting x_spread_f x_breakers_f x_fit_f x_counted_f x_kk x_rat x_flt x_codes_m x_codes_f x_stack_m x_stack_f x_parted x_vkk x_vkd x_vmm x_trace_m x_trace_f x_er_f x_bits0 x_num0_m x_num0_f x_bits1 x_num1_m x_num1_f x_bits2 x_num2_m x_num2_f x_bits3 x_num3_m x_num3_f m_images m_mfit m_known m_laid m_hre m_opnd m_bad m_usg m_trcd m_isP m_row_f m_kpt_f m_errs_f m_bitsOf_f m_sizeOf_f m_cels_f m_broken_f m_isFit_f m_breaks_f m_act_f m_wth_f m_facts_f m_pile_f m_trc_f (nI 3) a1 (nI 2) a3 a4 rfl rfl u w e1 e2 e3 ⟨iS, iV, iF, iR, jE, jO 0 _ _ _ (by decide) iH0, jO 1 _ _ _ (by decide) iH1, jH, jO 3 _ _ _ (by decide) iH3, jK⟩
      · obtain ⟨u, w, e1, e2, e3, jE, jH, jO⟩ := g_same (q := 3) (by omega) iE iH3 a1 a3 a4
        exact s_move_same_s3_s3 G tx wx tm wm x_hasI x_imgs x_vow x_day x_worth x_z x_kinds_m x_kinds_f x_ms_m x_ms_f x_said_m x_said_f x_signs_m x_signs_f x_tape_m x_tape_f x_avo_m x_avo_f x_tal_m x_tal_f x_wai_m x_wai_f x_kp_vow x_kp_day x_kp_worth x_kp_z x_kp_kinds_m x_kp_kinds_f x_kp_ms_m x_kp_ms_f x_kp_said_m x_kp_said_f x_kp_signs_m x_kp_signs_f x_kp_tape_m x_kp_tape_f x_kp_avo_m x_kp_avo_f x_kp_tal_m x_kp_tal_f x_kp_wai_m x_kp_wai_f x_fitting x_spread_f x_breakers_f x_fit_f x_counted_f x_kk x_rat x_flt x_codes_m x_codes_f x_stack_m x_stack_f x_parted x_vkk x_vkd x_vmm x_trace_m x_trace_f x_er_f x_bits0 x_num0_m x_num0_f x_bits1 x_num1_m x_num1_f x_bits2 x_num2_m x_num2_f x_bits3 x_num3_m x_num3_f m_images m_mfit m_known m_laid m_hre m_opnd m_bad m_usg m_trcd m_isP m_row_f m_kpt_f m_errs_f m_bitsOf_f m_sizeOf_f m_cels_f m_broken_f m_isFit_f m_breaks_f m_act_f m_wth_f m_facts_f m_pile_f m_trc_f (nI 3) a1 (nI 3) a3 a4 rfl rfl u w e1 e2 e3 ⟨iS, iV, iF, iR, jE, jO 0 _ _ _ (by decide) iH0, jO 1 _ _ _ (by decide) iH1, jO 2 _ _ _ (by decide) iH2, jH, jK⟩
