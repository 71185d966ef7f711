/-! PURE: loops, numbers, rows -/
theorem lp_run {σ ρ : Type} {body : (σ → Option ρ) → σ → Option ρ} (P : Nat → σ → Prop) (Q : Option ρ → Prop) (n : Nat) (step : ∀ (j : Nat) (s : σ), j < n → P j s → (∀ k, Q (body k s)) ∨ ∃ s', P (j + 1) s' ∧ ∀ k, body k s = k s') (fin : ∀ s, P n s → ∀ k, Q (body k s)) : ∀ (f j : Nat) (s : σ), j ≤ n → n < f + j → P j s → Q (lp body f s) := by
  intro f
  induction f with
  | zero => intro j s h1 h2 _; omega
  | succ f ih =>
    intro j s h1 h2 hP
    show Q (body (lp body f) s)
    rcases Nat.lt_or_ge j n with h | h
    · rcases step j s h hP with h3 | ⟨s', h3, h4⟩
      · exact h3 _
      · rw [h4]
        exact ih (j + 1) s' h (by omega) h3
    · have e : j = n := by omega
      subst e
      exact fin s hP _
theorem lp_go {σ ρ : Type} {body : (σ → Option ρ) → σ → Option ρ} {s : σ} (P : Nat → σ → Prop) (Q : Option ρ → Prop) (n : Nat) (hn : n < 1000) (h : P 0 s) (step : ∀ (j : Nat) (s : σ), j < n → P j s → (∀ k, Q (body k s)) ∨ ∃ s', P (j + 1) s' ∧ ∀ k, body k s = k s') (fin : ∀ s, P n s → ∀ k, Q (body k s)) : Q (lp body fuelC s) :=
  lp_run P Q n step fin fuelC 0 s (Nat.zero_le n) hn h
theorem lp_det {σ ρ : Type} {body : (σ → Option ρ) → σ → Option ρ} (st : Nat → σ) (r : Option ρ) (n : Nat) (hn : n < 1000) (step : ∀ (j : Nat), j < n → ∀ k, body k (st j) = k (st (j + 1))) (fin : ∀ k, body k (st n) = r) : lp body fuelC (st 0) = r :=
  lp_go (fun j s => s = st j) (fun o => o = r) n hn rfl (fun j s hj hs => Or.inr ⟨st (j + 1), rfl, fun k => by rw [hs]; exact step j hj k⟩) (fun s hs k => by rw [hs]; exact fin k)
theorem lp_one {σ ρ : Type} {body : (σ → Option ρ) → σ → Option ρ} {s : σ} : lp body fuelC s = body (lp body 999) s := rfl
theorem l0 : (0 : Int32) = nI 0 := by decide +kernel
theorem l1 : (1 : Int32) = nI 1 := by decide +kernel
theorem l2 : (2 : Int32) = nI 2 := by decide +kernel
theorem l3 : (3 : Int32) = nI 3 := by decide +kernel
theorem l4 : (4 : Int32) = nI 4 := by decide +kernel
theorem l5 : (5 : Int32) = nI 5 := by decide +kernel
theorem l6 : (6 : Int32) = nI 6 := by decide +kernel
theorem l7 : (7 : Int32) = nI 7 := by decide +kernel
theorem l8 : (8 : Int32) = nI 8 := by decide +kernel
theorem l9 : (9 : Int32) = nI 9 := by decide +kernel
theorem l10 : (10 : Int32) = nI 10 := by decide +kernel
theorem l11 : (11 : Int32) = nI 11 := by decide +kernel
theorem l12 : (12 : Int32) = nI 12 := by decide +kernel
theorem l13 : (13 : Int32) = nI 13 := by decide +kernel
theorem l14 : (14 : Int32) = nI 14 := by decide +kernel
theorem l15 : (15 : Int32) = nI 15 := by decide +kernel
theorem l16 : (16 : Int32) = nI 16 := by decide +kernel
theorem l17 : (17 : Int32) = nI 17 := by decide +kernel
theorem l18 : (18 : Int32) = nI 18 := by decide +kernel
theorem l19 : (19 : Int32) = nI 19 := by decide +kernel
theorem l20 : (20 : Int32) = nI 20 := by decide +kernel
theorem l21 : (21 : Int32) = nI 21 := by decide +kernel
theorem l22 : (22 : Int32) = nI 22 := by decide +kernel
theorem l23 : (23 : Int32) = nI 23 := by decide +kernel
theorem l24 : (24 : Int32) = nI 24 := by decide +kernel
theorem l25 : (25 : Int32) = nI 25 := by decide +kernel
theorem l26 : (26 : Int32) = nI 26 := by decide +kernel
theorem l27 : (27 : Int32) = nI 27 := by decide +kernel
theorem l28 : (28 : Int32) = nI 28 := by decide +kernel
theorem l29 : (29 : Int32) = nI 29 := by decide +kernel
theorem l30 : (30 : Int32) = nI 30 := by decide +kernel
theorem l32 : (32 : Int32) = nI 32 := by decide +kernel
theorem l33 : (33 : Int32) = nI 33 := by decide +kernel
theorem l37 : (37 : Int32) = nI 37 := by decide +kernel
theorem l38 : (38 : Int32) = nI 38 := by decide +kernel
theorem l40 : (40 : Int32) = nI 40 := by decide +kernel
theorem l41 : (41 : Int32) = nI 41 := by decide +kernel
theorem l42 : (42 : Int32) = nI 42 := by decide +kernel
theorem l43 : (43 : Int32) = nI 43 := by decide +kernel
theorem l45 : (45 : Int32) = nI 45 := by decide +kernel
theorem l47 : (47 : Int32) = nI 47 := by decide +kernel
theorem l48 : (48 : Int32) = nI 48 := by decide +kernel
theorem l57 : (57 : Int32) = nI 57 := by decide +kernel
theorem l58 : (58 : Int32) = nI 58 := by decide +kernel
theorem l60 : (60 : Int32) = nI 60 := by decide +kernel
theorem l61 : (61 : Int32) = nI 61 := by decide +kernel
theorem l62 : (62 : Int32) = nI 62 := by decide +kernel
theorem l63 : (63 : Int32) = nI 63 := by decide +kernel
theorem l64 : (64 : Int32) = nI 64 := by decide +kernel
theorem l69 : (69 : Int32) = nI 69 := by decide +kernel
theorem l70 : (70 : Int32) = nI 70 := by decide +kernel
theorem l74 : (74 : Int32) = nI 74 := by decide +kernel
theorem l88 : (88 : Int32) = nI 88 := by decide +kernel
theorem l91 : (91 : Int32) = nI 91 := by decide +kernel
theorem l96 : (96 : Int32) = nI 96 := by decide +kernel
theorem l97 : (97 : Int32) = nI 97 := by decide +kernel
theorem l98 : (98 : Int32) = nI 98 := by decide +kernel
theorem l99 : (99 : Int32) = nI 99 := by decide +kernel
theorem l100 : (100 : Int32) = nI 100 := by decide +kernel
theorem l102 : (102 : Int32) = nI 102 := by decide +kernel
theorem l115 : (115 : Int32) = nI 115 := by decide +kernel
theorem l116 : (116 : Int32) = nI 116 := by decide +kernel
theorem l121 : (121 : Int32) = nI 121 := by decide +kernel
theorem l124 : (124 : Int32) = nI 124 := by decide +kernel
theorem l134 : (134 : Int32) = nI 134 := by decide +kernel
theorem l158 : (158 : Int32) = nI 158 := by decide +kernel
theorem l279 : (279 : Int32) = nI 279 := by decide +kernel
theorem l255 : (255 : Int32) = nI 255 := by decide +kernel
theorem l400 : (400 : Int32) = nI 400 := by decide +kernel
theorem l728 : (728 : Int32) = nI 728 := by decide +kernel
theorem l729 : (729 : Int32) = nI 729 := by decide +kernel
theorem l9999 : (9999 : Int32) = nI 9999 := by decide +kernel
theorem l99999 : (99999 : Int32) = nI 99999 := by decide +kernel
theorem l12345 : (12345 : Int32) = nI 12345 := by decide +kernel
theorem l1103515245 : (1103515245 : Int32) = nI 1103515245 := by decide +kernel
theorem l1000000000 : (1000000000 : Int32) = nI 1000000000 := by decide +kernel
theorem l1000000001 : (1000000001 : Int32) = nI 1000000001 := by decide +kernel
theorem l1000000002 : (1000000002 : Int32) = nI 1000000002 := by decide +kernel
theorem l1000000003 : (1000000003 : Int32) = nI 1000000003 := by decide +kernel
theorem l1000000004 : (1000000004 : Int32) = nI 1000000004 := by decide +kernel
theorem l1000000005 : (1000000005 : Int32) = nI 1000000005 := by decide +kernel
theorem l1000000006 : (1000000006 : Int32) = nI 1000000006 := by decide +kernel
theorem cP_succ (p : Nat → Bool) (n : Nat) : (List.range (n + 1)).countP p = (List.range n).countP p + (if p n then 1 else 0) := by
  rw [List.range_succ, List.countP_append]
  cases h : p n <;> simp [h]
theorem cP_le (p : Nat → Bool) (n : Nat) : (List.range n).countP p ≤ n := by
  have h := List.countP_le_length (p := p) (l := List.range n)
  rwa [List.length_range] at h
theorem any_succ (p : Nat → Bool) (n : Nat) : (List.range (n + 1)).any p = ((List.range n).any p || p n) := by
  rw [List.range_succ, List.any_append]
  simp
theorem all_succ (p : Nat → Bool) (n : Nat) : (List.range (n + 1)).all p = ((List.range n).all p && p n) := by
  rw [List.range_succ, List.all_append]
  simp
theorem range_map_succ {α : Type} (g : Nat → α) (n : Nat) : (List.range (n + 1)).map g = (List.range n).map g ++ [g n] := by
  rw [List.range_succ, List.map_append]
  rfl
/-! bounds -/
theorem w_Y {j M : Nat} (h : j ≤ M) (hM : M < 2 ^ 31) : F_X7_within (nI j) (nI 0) (nI M) = some (nI 1) := by
  unfold F_X7_within
  simp (disch := omega) only [l0, l1, l2, l3, l4, l5, l6, l7, l8, l9, l10, l11, l12, l13, l14, l15, l16, l17, l18, l19, l20, l21, l22, l23, l24, l25, l26, l27, l28, l29, l30, l32, l33, l37, l38, l40, l41, l42, l43, l45, l47, l48, l57, l58, l60, l61, l62, l63, l64, l69, l70, l74, l88, l91, l96, l97, l98, l99, l100, l102, l115, l116, l121, l124, l134, l158, l279, l255, l400, l728, l729, l9999, l99999, l12345, l1103515245, l1000000000, l1000000001, l1000000002, l1000000003, l1000000004, l1000000005, l1000000006, pk_us, nI_add, pk_mul, pk_sub, pk_div, nI_clamp, nI_ltI, nI_leI, nI_eq, bd_some, Nat.not_lt_zero, false_or, or_false, true_or, or_true, if_pos, if_neg, ite_true, ite_false, if_true, if_false, Nat.add_zero]
theorem w_N {v : Int32} {M : Nat} (h : v < 0 ∨ nI (M + 1) ≤ v) (hM : M + 1 < 2 ^ 31) : F_X7_within v (nI 0) (nI M) = some (nI 0) := by
  unfold F_X7_within
  rcases h with h | h
  · rw [if_pos (show v < nI 0 from h)]; rfl
  · by_cases h2 : v < nI 0
    · rw [if_pos h2]; rfl
    · rw [if_neg h2, if_pos]
      · rfl
      · have h3 := Int32.le_iff_toInt_le.mp h
        rw [nI_toInt hM] at h3
        refine Int32.lt_iff_toInt_lt.mpr ?_
        rw [nI_toInt (by omega)]
        omega
theorem in_eq (v lo hi : Int32) : F_X8_in v lo hi = F_X7_within v lo hi := rfl
theorem isS_Y {j : Nat} (h : j < 64) : F_X7_isSaying (nI j) = some (nI 1) := by
  unfold F_X7_isSaying
  simp only [l0, l1, l2, l3, l4, l5, l6, l7, l8, l9, l10, l11, l12, l13, l14, l15, l16, l17, l18, l19, l20, l21, l22, l23, l24, l25, l26, l27, l28, l29, l30, l32, l33, l37, l38, l40, l41, l42, l43, l45, l47, l48, l57, l58, l60, l61, l62, l63, l64, l69, l70, l74, l88, l91, l96, l97, l98, l99, l100, l102, l115, l116, l121, l124, l134, l158, l279, l255, l400, l728, l729, l9999, l99999, l12345, l1103515245, l1000000000, l1000000001, l1000000002, l1000000003, l1000000004, l1000000005, l1000000006]
  rw [w_Y (by omega) (by omega), bd_some]
theorem isS_N {v : Int32} (h : v < 0 ∨ nI 64 ≤ v) : F_X7_isSaying v = some (nI 0) := by
  unfold F_X7_isSaying
  simp only [l0, l1, l2, l3, l4, l5, l6, l7, l8, l9, l10, l11, l12, l13, l14, l15, l16, l17, l18, l19, l20, l21, l22, l23, l24, l25, l26, l27, l28, l29, l30, l32, l33, l37, l38, l40, l41, l42, l43, l45, l47, l48, l57, l58, l60, l61, l62, l63, l64, l69, l70, l74, l88, l91, l96, l97, l98, l99, l100, l102, l115, l116, l121, l124, l134, l158, l279, l255, l400, l728, l729, l9999, l99999, l12345, l1103515245, l1000000000, l1000000001, l1000000002, l1000000003, l1000000004, l1000000005, l1000000006]
  rw [w_N h (by omega), bd_some]
theorem isS_eq (v : Int32) : F_X8_isSaying v = F_X7_isSaying v := rfl
theorem ix (v : Int32) (n : Nat) (hn : n < 2 ^ 31) : (v < 0 ∨ nI n ≤ v) ∨ ∃ j : Nat, j < n ∧ v = nI j := by
  rcases pk_ix v hn with h | h | h
  · exact Or.inl (Or.inl h)
  · exact Or.inl (Or.inr h)
  · exact Or.inr h
/-! rows -/
theorem x_hasY {n i : Nat} (h : i < n) (hn : n < 2 ^ 31) : F_X1_has (nI n) (nI i) = some (nI 1) := by
  unfold F_X1_has
  simp (disch := omega) only [l0, l1, l2, l3, l4, l5, l6, l7, l8, l9, l10, l11, l12, l13, l14, l15, l16, l17, l18, l19, l20, l21, l22, l23, l24, l25, l26, l27, l28, l29, l30, l32, l33, l37, l38, l40, l41, l42, l43, l45, l47, l48, l57, l58, l60, l61, l62, l63, l64, l69, l70, l74, l88, l91, l96, l97, l98, l99, l100, l102, l115, l116, l121, l124, l134, l158, l279, l255, l400, l728, l729, l9999, l99999, l12345, l1103515245, l1000000000, l1000000001, l1000000002, l1000000003, l1000000004, l1000000005, l1000000006, pk_us, nI_add, pk_mul, pk_sub, pk_div, nI_clamp, nI_ltI, nI_leI, nI_eq, bd_some, Nat.not_lt_zero, false_or, or_false, true_or, or_true, if_pos, if_neg, ite_true, ite_false, if_true, if_false, Nat.add_zero]
theorem x_hasN {n : Nat} {v : Int32} (h : v < 0 ∨ nI n ≤ v) : F_X1_has (nI n) v = some (nI 0) := by
  unfold F_X1_has
  rcases h with h | h
  · rw [if_pos h]; rfl
  · by_cases h2 : v < 0
    · rw [if_pos h2]; rfl
    · rw [if_neg h2, if_pos h]; rfl
theorem isB_Y {n i : Nat} (h : i < n) (hn : n < 2 ^ 31) : F_X7_isBrother (nI n) (nI i) = some (nI 1) := by
  unfold F_X7_isBrother
  rw [x_hasY h hn, bd_some]
theorem isB_N {n : Nat} {v : Int32} (h : v < 0 ∨ nI n ≤ v) : F_X7_isBrother (nI n) v = some (nI 0) := by
  unfold F_X7_isBrother
  rw [x_hasN h, bd_some]
theorem m_inY {n i : Nat} (h : i < n) (hn : n < 2 ^ 30) : F_X8_in (nI i) (nI 0) (nI n - nI 1) = some (nI 1) := by
  rw [pk_sub (by omega), in_eq, w_Y (by omega) (by omega)]
theorem m_inN {n : Nat} {v : Int32} (h : v < 0 ∨ nI n ≤ v) (hn : n < 2 ^ 30) : F_X8_in v (nI 0) (nI n - nI 1) = some (nI 0) := by
  unfold F_X8_in
  rcases h with h | h
  · rw [if_pos (show v < nI 0 from h)]; rfl
  · by_cases h2 : v < nI 0
    · rw [if_pos h2]; rfl
    · rw [if_neg h2, if_pos]
      · rfl
      · have h3 := Int32.le_iff_toInt_le.mp h
        rw [nI_toInt (by omega)] at h3
        refine Int32.lt_iff_toInt_lt.mpr ?_
        rw [pk_sub_toInt hn (by omega)]
        omega
theorem mB_Y {row : Nat → Int32} {n i : Nat} (h2 : row 2 = nI n) (h : i < n) (hn : n < 2 ^ 30) : F_X8_isBrother row (nI i) = some (nI 1) := by
  unfold F_X8_isBrother
  simp (disch := omega) only [l0, l1, l2, l3, l4, l5, l6, l7, l8, l9, l10, l11, l12, l13, l14, l15, l16, l17, l18, l19, l20, l21, l22, l23, l24, l25, l26, l27, l28, l29, l30, l32, l33, l37, l38, l40, l41, l42, l43, l45, l47, l48, l57, l58, l60, l61, l62, l63, l64, l69, l70, l74, l88, l91, l96, l97, l98, l99, l100, l102, l115, l116, l121, l124, l134, l158, l279, l255, l400, l728, l729, l9999, l99999, l12345, l1103515245, l1000000000, l1000000001, l1000000002, l1000000003, l1000000004, l1000000005, l1000000006, nI_clamp, h2]
  rw [m_inY h hn, bd_some]
theorem mB_N {row : Nat → Int32} {n : Nat} {v : Int32} (h2 : row 2 = nI n) (h : v < 0 ∨ nI n ≤ v) (hn : n < 2 ^ 30) : F_X8_isBrother row v = some (nI 0) := by
  unfold F_X8_isBrother
  simp (disch := omega) only [l0, l1, l2, l3, l4, l5, l6, l7, l8, l9, l10, l11, l12, l13, l14, l15, l16, l17, l18, l19, l20, l21, l22, l23, l24, l25, l26, l27, l28, l29, l30, l32, l33, l37, l38, l40, l41, l42, l43, l45, l47, l48, l57, l58, l60, l61, l62, l63, l64, l69, l70, l74, l88, l91, l96, l97, l98, l99, l100, l102, l115, l116, l121, l124, l134, l158, l279, l255, l400, l728, l729, l9999, l99999, l12345, l1103515245, l1000000000, l1000000001, l1000000002, l1000000003, l1000000004, l1000000005, l1000000006, nI_clamp, h2]
  rw [m_inN h hn, bd_some]
theorem x_get {n N i : Nat} (f : Nat → Int32) (hi : i < n) (hn : n ≤ N) (hN : N < 2 ^ 31) : F_X1_get N (nI n) f (nI i) = some (f i) := by
  unfold F_X1_get
  simp (disch := omega) only [l0, l1, l2, l3, l4, l5, l6, l7, l8, l9, l10, l11, l12, l13, l14, l15, l16, l17, l18, l19, l20, l21, l22, l23, l24, l25, l26, l27, l28, l29, l30, l32, l33, l37, l38, l40, l41, l42, l43, l45, l47, l48, l57, l58, l60, l61, l62, l63, l64, l69, l70, l74, l88, l91, l96, l97, l98, l99, l100, l102, l115, l116, l121, l124, l134, l158, l279, l255, l400, l728, l729, l9999, l99999, l12345, l1103515245, l1000000000, l1000000001, l1000000002, l1000000003, l1000000004, l1000000005, l1000000006, pk_us, nI_add, pk_mul, pk_sub, pk_div, nI_clamp, nI_ltI, nI_leI, nI_eq, bd_some, Nat.not_lt_zero, false_or, or_false, true_or, or_true, if_pos, if_neg, ite_true, ite_false, if_true, if_false, Nat.add_zero]
theorem x_set {n N i : Nat} (f : Nat → Int32) (v : Int32) (hi : i < n) (hn : n ≤ N) (hN : N < 2 ^ 31) : F_X1_set N (nI n) f (nI i) v = some (upd f i v) := by
  unfold F_X1_set
  simp (disch := omega) only [l0, l1, l2, l3, l4, l5, l6, l7, l8, l9, l10, l11, l12, l13, l14, l15, l16, l17, l18, l19, l20, l21, l22, l23, l24, l25, l26, l27, l28, l29, l30, l32, l33, l37, l38, l40, l41, l42, l43, l45, l47, l48, l57, l58, l60, l61, l62, l63, l64, l69, l70, l74, l88, l91, l96, l97, l98, l99, l100, l102, l115, l116, l121, l124, l134, l158, l279, l255, l400, l728, l729, l9999, l99999, l12345, l1103515245, l1000000000, l1000000001, l1000000002, l1000000003, l1000000004, l1000000005, l1000000006, pk_us, nI_add, pk_mul, pk_sub, pk_div, nI_clamp, nI_ltI, nI_leI, nI_eq, bd_some, Nat.not_lt_zero, false_or, or_false, true_or, or_true, if_pos, if_neg, ite_true, ite_false, if_true, if_false, Nat.add_zero]
theorem x_add {n N : Nat} (f : Nat → Int32) (v : Int32) (hn : n < N) (hN : N < 2 ^ 31) : F_X1_add N (nI n) f v = some (nI (n + 1), upd f n v) := by
  unfold F_X1_add
  simp (disch := omega) only [l0, l1, l2, l3, l4, l5, l6, l7, l8, l9, l10, l11, l12, l13, l14, l15, l16, l17, l18, l19, l20, l21, l22, l23, l24, l25, l26, l27, l28, l29, l30, l32, l33, l37, l38, l40, l41, l42, l43, l45, l47, l48, l57, l58, l60, l61, l62, l63, l64, l69, l70, l74, l88, l91, l96, l97, l98, l99, l100, l102, l115, l116, l121, l124, l134, l158, l279, l255, l400, l728, l729, l9999, l99999, l12345, l1103515245, l1000000000, l1000000001, l1000000002, l1000000003, l1000000004, l1000000005, l1000000006, pk_us, nI_add, pk_mul, pk_sub, pk_div, nI_clamp, nI_ltI, nI_leI, nI_eq, bd_some, Nat.not_lt_zero, false_or, or_false, true_or, or_true, if_pos, if_neg, ite_true, ite_false, if_true, if_false, Nat.add_zero]
theorem m_of {row : Nat → Int32} {b w : Nat} (hb : b < 24) (hw : w < 3) : F_X8_of row (nI b) (nI w) = some (row (8 + 3 * b + w)) := by
  unfold F_X8_of
  simp (disch := omega) only [l0, l1, l2, l3, l4, l5, l6, l7, l8, l9, l10, l11, l12, l13, l14, l15, l16, l17, l18, l19, l20, l21, l22, l23, l24, l25, l26, l27, l28, l29, l30, l32, l33, l37, l38, l40, l41, l42, l43, l45, l47, l48, l57, l58, l60, l61, l62, l63, l64, l69, l70, l74, l88, l91, l96, l97, l98, l99, l100, l102, l115, l116, l121, l124, l134, l158, l279, l255, l400, l728, l729, l9999, l99999, l12345, l1103515245, l1000000000, l1000000001, l1000000002, l1000000003, l1000000004, l1000000005, l1000000006, pk_us, nI_add, pk_mul, pk_sub, pk_div, nI_clamp, nI_ltI, nI_leI, nI_eq, bd_some, Nat.not_lt_zero, false_or, or_false, true_or, or_true, if_pos, if_neg, ite_true, ite_false, if_true, if_false, Nat.add_zero]
/-! errors -/
theorem x_err1 (e : Nat → Int32) : F_X7_error e (nI 1) = some (-(nI 1000000001), upd e 1 (e 1 + nI 1)) := by
  unfold F_X7_error
  rw [show F_X7_within (nI 1) (1 : Int32) (6 : Int32) = some (nI 1) from by decide +kernel, bd_some, if_neg (by decide +kernel), if_neg (by decide +kernel), if_neg (by decide +kernel), show (nI 1).toNatClampNeg = 1 from by decide +kernel, show (-1000000000 : Int32) - nI 1 = -(nI 1000000001) from by decide +kernel]
  rfl
theorem m_err1 (e : Nat → Int32) : F_X8_error e (-(nI 1000000001)) = some (-(nI 1000000001), upd e 1 (e 1 + nI 1)) := by
  unfold F_X8_error
  rw [if_neg (by decide +kernel), if_neg (by decide +kernel), show ((-1000000000 : Int32) - -(nI 1000000001)).toNatClampNeg = 1 from by decide +kernel]
  rfl
theorem x_err2 (e : Nat → Int32) : F_X7_error e (nI 2) = some (-(nI 1000000002), upd e 2 (e 2 + nI 1)) := by
  unfold F_X7_error
  rw [show F_X7_within (nI 2) (1 : Int32) (6 : Int32) = some (nI 1) from by decide +kernel, bd_some, if_neg (by decide +kernel), if_neg (by decide +kernel), if_neg (by decide +kernel), show (nI 2).toNatClampNeg = 2 from by decide +kernel, show (-1000000000 : Int32) - nI 2 = -(nI 1000000002) from by decide +kernel]
  rfl
theorem m_err2 (e : Nat → Int32) : F_X8_error e (-(nI 1000000002)) = some (-(nI 1000000002), upd e 2 (e 2 + nI 1)) := by
  unfold F_X8_error
  rw [if_neg (by decide +kernel), if_neg (by decide +kernel), show ((-1000000000 : Int32) - -(nI 1000000002)).toNatClampNeg = 2 from by decide +kernel]
  rfl
theorem x_err3 (e : Nat → Int32) : F_X7_error e (nI 3) = some (-(nI 1000000003), upd e 3 (e 3 + nI 1)) := by
  unfold F_X7_error
  rw [show F_X7_within (nI 3) (1 : Int32) (6 : Int32) = some (nI 1) from by decide +kernel, bd_some, if_neg (by decide +kernel), if_neg (by decide +kernel), if_neg (by decide +kernel), show (nI 3).toNatClampNeg = 3 from by decide +kernel, show (-1000000000 : Int32) - nI 3 = -(nI 1000000003) from by decide +kernel]
  rfl
theorem m_err3 (e : Nat → Int32) : F_X8_error e (-(nI 1000000003)) = some (-(nI 1000000003), upd e 3 (e 3 + nI 1)) := by
  unfold F_X8_error
  rw [if_neg (by decide +kernel), if_neg (by decide +kernel), show ((-1000000000 : Int32) - -(nI 1000000003)).toNatClampNeg = 3 from by decide +kernel]
  rfl
theorem x_err4 (e : Nat → Int32) : F_X7_error e (nI 4) = some (-(nI 1000000004), upd e 4 (e 4 + nI 1)) := by
  unfold F_X7_error
  rw [show F_X7_within (nI 4) (1 : Int32) (6 : Int32) = some (nI 1) from by decide +kernel, bd_some, if_neg (by decide +kernel), if_neg (by decide +kernel), if_neg (by decide +kernel), show (nI 4).toNatClampNeg = 4 from by decide +kernel, show (-1000000000 : Int32) - nI 4 = -(nI 1000000004) from by decide +kernel]
  rfl
theorem m_err4 (e : Nat → Int32) : F_X8_error e (-(nI 1000000004)) = some (-(nI 1000000004), upd e 4 (e 4 + nI 1)) := by
  unfold F_X8_error
  rw [if_neg (by decide +kernel), if_neg (by decide +kernel), show ((-1000000000 : Int32) - -(nI 1000000004)).toNatClampNeg = 4 from by decide +kernel]
  rfl
theorem x_err5 (e : Nat → Int32) : F_X7_error e (nI 5) = some (-(nI 1000000005), upd e 5 (e 5 + nI 1)) := by
  unfold F_X7_error
  rw [show F_X7_within (nI 5) (1 : Int32) (6 : Int32) = some (nI 1) from by decide +kernel, bd_some, if_neg (by decide +kernel), if_neg (by decide +kernel), if_neg (by decide +kernel), show (nI 5).toNatClampNeg = 5 from by decide +kernel, show (-1000000000 : Int32) - nI 5 = -(nI 1000000005) from by decide +kernel]
  rfl
theorem m_err5 (e : Nat → Int32) : F_X8_error e (-(nI 1000000005)) = some (-(nI 1000000005), upd e 5 (e 5 + nI 1)) := by
  unfold F_X8_error
  rw [if_neg (by decide +kernel), if_neg (by decide +kernel), show ((-1000000000 : Int32) - -(nI 1000000005)).toNatClampNeg = 5 from by decide +kernel]
  rfl
theorem x_err6 (e : Nat → Int32) : F_X7_error e (nI 6) = some (-(nI 1000000006), upd e 6 (e 6 + nI 1)) := by
  unfold F_X7_error
  rw [show F_X7_within (nI 6) (1 : Int32) (6 : Int32) = some (nI 1) from by decide +kernel, bd_some, if_neg (by decide +kernel), if_neg (by decide +kernel), if_neg (by decide +kernel), show (nI 6).toNatClampNeg = 6 from by decide +kernel, show (-1000000000 : Int32) - nI 6 = -(nI 1000000006) from by decide +kernel]
  rfl
theorem m_err6 (e : Nat → Int32) : F_X8_error e (-(nI 1000000006)) = some (-(nI 1000000006), upd e 6 (e 6 + nI 1)) := by
  unfold F_X8_error
  rw [if_neg (by decide +kernel), if_neg (by decide +kernel), show ((-1000000000 : Int32) - -(nI 1000000006)).toNatClampNeg = 6 from by decide +kernel]
  rfl
