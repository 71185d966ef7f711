/-! PURE: the levels one by one -/
section
variable {n o us : Nat} {tf row : Nat → Int32} {b : Nat → Nat} {R : Nat → Int32 → Int32 → Int32 → (Nat → Int32) → Int32 → (Nat → Int32) → Int32 → Option (Int32 × Int32 × Int32 × (Nat → Int32))} {R1 : Int32 → Int32 → Int32 → Int32 → Int32 → (Nat → Int32) → (Nat → Int32) → (Nat → Int32) → Option (Int32 × Int32 × Int32 × Int32 × (Nat → Int32) × (Nat → Int32))}
theorem to2 (h : Tp n tf row b) : ∀ p, p ≤ n → F_X0_takesOneOf (nI p) (nI 0) (nI n) tf 2 = some (if b p ∈ [60, 61, 62] then (nI (b p), nI (p + 1)) else (nI 0, nI p)) := fun p hp => tp_to (l := [60, 61, 62]) h hp (by decide +kernel) (by decide) (by decide +kernel) (by decide)
theorem tf2 {r : Int32} : F_X0_takesOneOf r (nI 1) (nI n) tf 2 = some (nI 0, r) := tp_tof (l := [60, 61, 62]) (by decide +kernel) (by decide) (by decide +kernel)
theorem to3 (h : Tp n tf row b) : ∀ p, p ≤ n → F_X0_takesOneOf (nI p) (nI 0) (nI n) tf 3 = some (if b p ∈ [43, 45] then (nI (b p), nI (p + 1)) else (nI 0, nI p)) := fun p hp => tp_to (l := [43, 45]) h hp (by decide +kernel) (by decide) (by decide +kernel) (by decide)
theorem tf3 {r : Int32} : F_X0_takesOneOf r (nI 1) (nI n) tf 3 = some (nI 0, r) := tp_tof (l := [43, 45]) (by decide +kernel) (by decide) (by decide +kernel)
theorem to4 (h : Tp n tf row b) : ∀ p, p ≤ n → F_X0_takesOneOf (nI p) (nI 0) (nI n) tf 4 = some (if b p ∈ [42, 47, 37] then (nI (b p), nI (p + 1)) else (nI 0, nI p)) := fun p hp => tp_to (l := [42, 47, 37]) h hp (by decide +kernel) (by decide) (by decide +kernel) (by decide)
theorem tf4 {r : Int32} : F_X0_takesOneOf r (nI 1) (nI n) tf 4 = some (nI 0, r) := tp_tof (l := [42, 47, 37]) (by decide +kernel) (by decide) (by decide +kernel)
theorem mb_prod (h : Tp n tf row b) : MB n o b [42, 47, 37] (fun l h op bad a w => R1 l h op bad (nI us) row a w) (B_X8_times_4 (nI us) row R1) := by
  refine ⟨fun k c p o' a w => ?_, fun k c p a w hp hq => ?_, fun k c p a w hp hq => ?_⟩
  · unfold B_X8_times_4
    simp only [l0, l1, l2, l3, l4, l5, l6, l7, l8, l9, l10, l11, l12, l13, l14, l15, l16, l17, l18, l19, l20, l21, l22, l23, l24, l25, l26, l27, l28, l29, l30, l32, l33, l37, l38, l40, l41, l42, l43, l45, l47, l48, l57, l58, l60, l61, l62, l63, l64, l69, l70, l74, l88, l91, l96, l97, l98, l99, l100, l102, l115, l116, l121, l124, l134, l158, l279, l255, l400, l728, l729, l9999, l99999, l12345, l1103515245, l1000000000, l1000000001, l1000000002, l1000000003, l1000000004, l1000000005, l1000000006]
    rw [if_neg (show ¬ nI 1 = nI 0 by decide)]
  · obtain ⟨v, w1, w2, w3, w4, w5⟩ := tp_look (us := 0) h hp (by omega)
    have n42 : ¬ v = nI 42 := fun e => hq (by rw [(w2 42 (by omega) (by omega)).mp e]; decide)
    have n47 : ¬ v = nI 47 := fun e => hq (by rw [(w2 47 (by omega) (by omega)).mp e]; decide)
    have n37 : ¬ v = nI 37 := fun e => hq (by rw [(w2 37 (by omega) (by omega)).mp e]; decide)
    unfold B_X8_times_4
    simp only [l0, l1, l2, l3, l4, l5, l6, l7, l8, l9, l10, l11, l12, l13, l14, l15, l16, l17, l18, l19, l20, l21, l22, l23, l24, l25, l26, l27, l28, l29, l30, l32, l33, l37, l38, l40, l41, l42, l43, l45, l47, l48, l57, l58, l60, l61, l62, l63, l64, l69, l70, l74, l88, l91, l96, l97, l98, l99, l100, l102, l115, l116, l121, l124, l134, l158, l279, l255, l400, l728, l729, l9999, l99999, l12345, l1103515245, l1000000000, l1000000001, l1000000002, l1000000003, l1000000004, l1000000005, l1000000006]
    rw [if_pos True.intro, w1, bd_some, if_neg n42, bd_some, if_neg n47, bd_some, if_neg n37]
  · obtain ⟨v, w1, w2, w3, w4, w5⟩ := tp_look (us := 0) h hp (by omega)
    simp only [List.mem_cons, List.not_mem_nil, or_false] at hq
    rcases hq with e | e | e
    · have e4 := w4 (by omega)
      rw [e] at e4
      subst e4
      rw [e]
      unfold B_X8_times_4
      simp only [l0, l1, l2, l3, l4, l5, l6, l7, l8, l9, l10, l11, l12, l13, l14, l15, l16, l17, l18, l19, l20, l21, l22, l23, l24, l25, l26, l27, l28, l29, l30, l32, l33, l37, l38, l40, l41, l42, l43, l45, l47, l48, l57, l58, l60, l61, l62, l63, l64, l69, l70, l74, l88, l91, l96, l97, l98, l99, l100, l102, l115, l116, l121, l124, l134, l158, l279, l255, l400, l728, l729, l9999, l99999, l12345, l1103515245, l1000000000, l1000000001, l1000000002, l1000000003, l1000000004, l1000000005, l1000000006]
      rw [if_pos True.intro, w1, bd_some, if_pos rfl, bd_some, nI_add]
    · have e4 := w4 (by omega)
      rw [e] at e4
      subst e4
      rw [e]
      unfold B_X8_times_4
      simp only [l0, l1, l2, l3, l4, l5, l6, l7, l8, l9, l10, l11, l12, l13, l14, l15, l16, l17, l18, l19, l20, l21, l22, l23, l24, l25, l26, l27, l28, l29, l30, l32, l33, l37, l38, l40, l41, l42, l43, l45, l47, l48, l57, l58, l60, l61, l62, l63, l64, l69, l70, l74, l88, l91, l96, l97, l98, l99, l100, l102, l115, l116, l121, l124, l134, l158, l279, l255, l400, l728, l729, l9999, l99999, l12345, l1103515245, l1000000000, l1000000001, l1000000002, l1000000003, l1000000004, l1000000005, l1000000006]
      rw [if_pos True.intro, w1, bd_some, if_neg (show ¬ nI 47 = nI 42 by decide), bd_some, if_pos rfl, bd_some, nI_add]
    · have e4 := w4 (by omega)
      rw [e] at e4
      subst e4
      rw [e]
      unfold B_X8_times_4
      simp only [l0, l1, l2, l3, l4, l5, l6, l7, l8, l9, l10, l11, l12, l13, l14, l15, l16, l17, l18, l19, l20, l21, l22, l23, l24, l25, l26, l27, l28, l29, l30, l32, l33, l37, l38, l40, l41, l42, l43, l45, l47, l48, l57, l58, l60, l61, l62, l63, l64, l69, l70, l74, l88, l91, l96, l97, l98, l99, l100, l102, l115, l116, l121, l124, l134, l158, l279, l255, l400, l728, l729, l9999, l99999, l12345, l1103515245, l1000000000, l1000000001, l1000000002, l1000000003, l1000000004, l1000000005, l1000000006]
      rw [if_pos True.intro, w1, bd_some, if_neg (show ¬ nI 37 = nI 42 by decide), bd_some, if_neg (show ¬ nI 37 = nI 47 by decide), bd_some, if_pos rfl, bd_some, nI_add]
theorem sm_prod (h : Tp n tf row b) (hS : Sm n o (fun rat flt cm cf => R us rat flt (nI n) tf cm cf (nI o)) (fun l h op bad a w => R1 l h op bad (nI us) row a w)) : Sm n o (fun rat flt cm cf => F_X0_readProduct R us rat flt (nI n) tf cm cf (nI o)) (fun l h op bad a w => F_X8_times R1 l h op bad (nI us) row a w) := by
  intro p b0 c D cf act wth hp hc hCR
  show Rs n p b0 (D + 1) o (F_X0_readProduct R us (nI p) (nI 0) (nI n) tf (nI c) cf (nI o)) (F_X8_times R1 (nI c) (nI p) (nI o) (nI 0) (nI us) row act wth)
  rcases hS p b0 c D cf act wth hp hc hCR with ⟨p', c', cf', act', wth', h1, h2, h3, h4, eX, eM⟩ | ⟨p', cx, cm, o', cf', act', wth', h1, h2, h3, eX, eM⟩
  · dsimp only at eX eM
    unfold F_X0_readProduct F_X8_times
    rw [eX, bd_some, eM, bd_some]
    simp only [l0]
    exact (lpO (X := (fun rat flt cm cf => R us rat flt (nI n) tf cm cf (nI o))) (M := (fun l h op bad a w => R1 l h op bad (nI us) row a w)) h (by decide) (to4 h) (fun r => tf4) (mb_prod h) hS p' b0 D c' cf' act' wth' h2 h3 h4).mono h1
  · dsimp only at eX eM
    unfold F_X0_readProduct F_X8_times
    rw [eX, bd_some, eM, bd_some]
    simp only [l0]
    rw [tf4, bd_some]
    refine Or.inr ⟨p', cx, cm, o', cf', act', wth', h1, h2, h3, ?_, ?_⟩
    · rw [lp_one]
      exact gO_end (ks := 4) (m := nI n) (X := (fun rat flt cm cf => R us rat flt (nI n) tf cm cf (nI o)))
    · rw [lp_one]
      exact (mb_prod (o := o) h).1 _ _ _ _ _ _
theorem mb_sum (h : Tp n tf row b) : MB n o b [43, 45] (fun l h op bad a w => F_X8_times R1 l h op bad (nI us) row a w) (B_X8_sum_4 (nI us) row R1) := by
  refine ⟨fun k c p o' a w => ?_, fun k c p a w hp hq => ?_, fun k c p a w hp hq => ?_⟩
  · unfold B_X8_sum_4
    simp only [l0, l1, l2, l3, l4, l5, l6, l7, l8, l9, l10, l11, l12, l13, l14, l15, l16, l17, l18, l19, l20, l21, l22, l23, l24, l25, l26, l27, l28, l29, l30, l32, l33, l37, l38, l40, l41, l42, l43, l45, l47, l48, l57, l58, l60, l61, l62, l63, l64, l69, l70, l74, l88, l91, l96, l97, l98, l99, l100, l102, l115, l116, l121, l124, l134, l158, l279, l255, l400, l728, l729, l9999, l99999, l12345, l1103515245, l1000000000, l1000000001, l1000000002, l1000000003, l1000000004, l1000000005, l1000000006]
    rw [if_neg (show ¬ nI 1 = nI 0 by decide)]
  · obtain ⟨v, w1, w2, w3, w4, w5⟩ := tp_look (us := 0) h hp (by omega)
    have n43 : ¬ v = nI 43 := fun e => hq (by rw [(w2 43 (by omega) (by omega)).mp e]; decide)
    have n45 : ¬ v = nI 45 := fun e => hq (by rw [(w2 45 (by omega) (by omega)).mp e]; decide)
    unfold B_X8_sum_4
    simp only [l0, l1, l2, l3, l4, l5, l6, l7, l8, l9, l10, l11, l12, l13, l14, l15, l16, l17, l18, l19, l20, l21, l22, l23, l24, l25, l26, l27, l28, l29, l30, l32, l33, l37, l38, l40, l41, l42, l43, l45, l47, l48, l57, l58, l60, l61, l62, l63, l64, l69, l70, l74, l88, l91, l96, l97, l98, l99, l100, l102, l115, l116, l121, l124, l134, l158, l279, l255, l400, l728, l729, l9999, l99999, l12345, l1103515245, l1000000000, l1000000001, l1000000002, l1000000003, l1000000004, l1000000005, l1000000006]
    rw [if_pos True.intro, w1, bd_some, if_neg n43, bd_some, if_neg n45]
  · obtain ⟨v, w1, w2, w3, w4, w5⟩ := tp_look (us := 0) h hp (by omega)
    simp only [List.mem_cons, List.not_mem_nil, or_false] at hq
    rcases hq with e | e
    · have e4 := w4 (by omega)
      rw [e] at e4
      subst e4
      rw [e]
      unfold B_X8_sum_4
      simp only [l0, l1, l2, l3, l4, l5, l6, l7, l8, l9, l10, l11, l12, l13, l14, l15, l16, l17, l18, l19, l20, l21, l22, l23, l24, l25, l26, l27, l28, l29, l30, l32, l33, l37, l38, l40, l41, l42, l43, l45, l47, l48, l57, l58, l60, l61, l62, l63, l64, l69, l70, l74, l88, l91, l96, l97, l98, l99, l100, l102, l115, l116, l121, l124, l134, l158, l279, l255, l400, l728, l729, l9999, l99999, l12345, l1103515245, l1000000000, l1000000001, l1000000002, l1000000003, l1000000004, l1000000005, l1000000006]
      rw [if_pos True.intro, w1, bd_some, if_pos rfl, bd_some, nI_add]
    · have e4 := w4 (by omega)
      rw [e] at e4
      subst e4
      rw [e]
      unfold B_X8_sum_4
      simp only [l0, l1, l2, l3, l4, l5, l6, l7, l8, l9, l10, l11, l12, l13, l14, l15, l16, l17, l18, l19, l20, l21, l22, l23, l24, l25, l26, l27, l28, l29, l30, l32, l33, l37, l38, l40, l41, l42, l43, l45, l47, l48, l57, l58, l60, l61, l62, l63, l64, l69, l70, l74, l88, l91, l96, l97, l98, l99, l100, l102, l115, l116, l121, l124, l134, l158, l279, l255, l400, l728, l729, l9999, l99999, l12345, l1103515245, l1000000000, l1000000001, l1000000002, l1000000003, l1000000004, l1000000005, l1000000006]
      rw [if_pos True.intro, w1, bd_some, if_neg (show ¬ nI 45 = nI 43 by decide), bd_some, if_pos rfl, bd_some, nI_add]
theorem sm_sum (h : Tp n tf row b) (hS : Sm n o (fun rat flt cm cf => F_X0_readProduct R us rat flt (nI n) tf cm cf (nI o)) (fun l h op bad a w => F_X8_times R1 l h op bad (nI us) row a w)) : Sm n o (fun rat flt cm cf => F_X0_readSum R us rat flt (nI n) tf cm cf (nI o)) (fun l h op bad a w => F_X8_sum R1 l h op bad (nI us) row a w) := by
  intro p b0 c D cf act wth hp hc hCR
  show Rs n p b0 (D + 1) o (F_X0_readSum R us (nI p) (nI 0) (nI n) tf (nI c) cf (nI o)) (F_X8_sum R1 (nI c) (nI p) (nI o) (nI 0) (nI us) row act wth)
  rcases hS p b0 c D cf act wth hp hc hCR with ⟨p', c', cf', act', wth', h1, h2, h3, h4, eX, eM⟩ | ⟨p', cx, cm, o', cf', act', wth', h1, h2, h3, eX, eM⟩
  · dsimp only at eX eM
    unfold F_X0_readSum F_X8_sum
    rw [eX, bd_some, eM, bd_some]
    simp only [l0]
    exact (lpO (X := (fun rat flt cm cf => F_X0_readProduct R us rat flt (nI n) tf cm cf (nI o))) (M := (fun l h op bad a w => F_X8_times R1 l h op bad (nI us) row a w)) h (by decide) (to3 h) (fun r => tf3) (mb_sum h) hS p' b0 D c' cf' act' wth' h2 h3 h4).mono h1
  · dsimp only at eX eM
    unfold F_X0_readSum F_X8_sum
    rw [eX, bd_some, eM, bd_some]
    simp only [l0]
    rw [tf3, bd_some]
    refine Or.inr ⟨p', cx, cm, o', cf', act', wth', h1, h2, h3, ?_, ?_⟩
    · rw [lp_one]
      exact gO_end (ks := 3) (m := nI n) (X := (fun rat flt cm cf => F_X0_readProduct R us rat flt (nI n) tf cm cf (nI o)))
    · rw [lp_one]
      exact (mb_sum (o := o) h).1 _ _ _ _ _ _
theorem sm_cmp (h : Tp n tf row b) (hS : Sm n o (fun rat flt cm cf => F_X0_readSum R us rat flt (nI n) tf cm cf (nI o)) (fun l h op bad a w => F_X8_sum R1 l h op bad (nI us) row a w)) : Sm n o (fun rat flt cm cf => F_X0_readComparison R us rat flt (nI n) tf cm cf (nI o)) (fun l h op bad a w => F_X8_compares R1 l h op bad (nI us) row a w) := by
  have hn := h.1
  intro p b0 c D cf act wth hp hc hCR
  show Rs n p b0 (D + 1) o (F_X0_readComparison R us (nI p) (nI 0) (nI n) tf (nI c) cf (nI o)) (F_X8_compares R1 (nI c) (nI p) (nI o) (nI 0) (nI us) row act wth)
  rcases hS p b0 c D cf act wth hp hc hCR with ⟨p', c', cf', act', wth', h1, h2, h3, h4, eX, eM⟩ | ⟨p', cx, cm, o', cf', act', wth', h1, h2, h3, eX, eM⟩
  · dsimp only at eX eM
    obtain ⟨v, w1, w2, w3, w4, w5⟩ := tp_look (us := 0) h h2 (by omega)
    unfold F_X0_readComparison F_X8_compares
    rw [eX, bd_some, eM, bd_some]
    simp only [l0, l1, l2, l3, l4, l5, l6, l7, l8, l9, l10, l11, l12, l13, l14, l15, l16, l17, l18, l19, l20, l21, l22, l23, l24, l25, l26, l27, l28, l29, l30, l32, l33, l37, l38, l40, l41, l42, l43, l45, l47, l48, l57, l58, l60, l61, l62, l63, l64, l69, l70, l74, l88, l91, l96, l97, l98, l99, l100, l102, l115, l116, l121, l124, l134, l158, l279, l255, l400, l728, l729, l9999, l99999, l12345, l1103515245, l1000000000, l1000000001, l1000000002, l1000000003, l1000000004, l1000000005, l1000000006]
    rw [to2 h p' h2, bd_some, w1, bd_some, if_pos True.intro]
    by_cases hq : b p' ∈ [60, 61, 62]
    · have hx : 60 ≤ b p' ∧ b p' ≤ 62 ∧ b p' ∈ opsL := by
        simp only [List.mem_cons, List.not_mem_nil, or_false] at hq
        rcases hq with e | e | e <;> rw [e] <;> decide
      have hlt : p' < n := h.lt (by omega)
      have e4 := w4 (by omega)
      subst e4
      rw [if_pos hq]
      dsimp only
      rw [if_neg (show ¬ nI (b p') = nI 0 from fun e => by rw [nI_eq (by omega) (by omega)] at e; omega), nI_add]
      have hm : ∀ (z : Option (Int32 × Int32 × Int32 × Int32 × (Nat → Int32) × (Nat → Int32))) (y : Option (Int32 × Int32 × Int32 × Int32 × (Nat → Int32) × (Nat → Int32))), (if nI (b p') = nI 60 then z else if nI (b p') = nI 61 then z else if nI (b p') = nI 62 then z else y) = z := by
        intro z y
        by_cases e1 : nI (b p') = nI 60
        · rw [if_pos e1]
        · rw [if_neg e1]
          by_cases e2 : nI (b p') = nI 61
          · rw [if_pos e2]
          · rw [if_neg e2, if_pos]
            rw [nI_eq (by omega) (by omega)] at e1 e2 ⊢
            omega
      rw [hm]
      rcases hS (p' + 1) (b0 + 1) c' (D + 1) cf' act' wth' (by omega) (by omega) h4 with ⟨p2, c2, cf2, act2, wth2, g1, g2, g3, g4, fX, fM⟩ | ⟨p2, cx, cm, o', cf2, act2, wth2, g1, g2, g3, fX, fM⟩
      · dsimp only at fX fM
        rw [fX, bd_some, fM, bd_some]
        dsimp only
        rw [x_add cf2 _ (show c2 < 60 by omega) (by omega), bd_some, m_lays (show c2 < 60 by omega), bd_some]
        exact Or.inl ⟨p2, c2 + 1, _, _, _, by omega, g2, by omega, g4.op hx.2.2, rfl, rfl⟩
      · dsimp only at fX fM
        obtain ⟨c3, f3, a1, a2⟩ := x_addB (cf := cf2) (v := -(nI (b p'))) g2
        obtain ⟨c4, a4, w4', a5, a6⟩ := m_laysB (act := act2) (wth := wth2) (w := nI (b p')) (v := nI 0) g3
        rw [fX, bd_some, fM, bd_some]
        dsimp only
        rw [a2, bd_some, a6, bd_some]
        exact Or.inr ⟨p2, c3, c4, o', _, _, _, g1, a1, a5, rfl, rfl⟩
    · rw [if_neg hq]
      dsimp only
      have n60 : ¬ v = nI 60 := fun e => hq (by rw [(w2 60 (by omega) (by omega)).mp e]; decide)
      have n61 : ¬ v = nI 61 := fun e => hq (by rw [(w2 61 (by omega) (by omega)).mp e]; decide)
      have n62 : ¬ v = nI 62 := fun e => hq (by rw [(w2 62 (by omega) (by omega)).mp e]; decide)
      rw [if_pos rfl, if_neg n60, if_neg n61, if_neg n62]
      exact Or.inl ⟨p', c', _, _, _, h1, h2, h3, h4, rfl, rfl⟩
  · dsimp only at eX eM
    obtain ⟨v, w1, w2, w3, w4, w5⟩ := tp_look (us := 0) h h1 (by omega)
    unfold F_X0_readComparison F_X8_compares
    rw [eX, bd_some, eM, bd_some]
    simp only [l0, l1, l2, l3, l4, l5, l6, l7, l8, l9, l10, l11, l12, l13, l14, l15, l16, l17, l18, l19, l20, l21, l22, l23, l24, l25, l26, l27, l28, l29, l30, l32, l33, l37, l38, l40, l41, l42, l43, l45, l47, l48, l57, l58, l60, l61, l62, l63, l64, l69, l70, l74, l88, l91, l96, l97, l98, l99, l100, l102, l115, l116, l121, l124, l134, l158, l279, l255, l400, l728, l729, l9999, l99999, l12345, l1103515245, l1000000000, l1000000001, l1000000002, l1000000003, l1000000004, l1000000005, l1000000006]
    rw [tf2, bd_some, w1, bd_some, if_pos rfl, if_neg (show ¬ nI 1 = nI 0 by decide)]
    exact Or.inr ⟨p', cx, cm, o', cf', act', wth', h1, h2, h3, rfl, rfl⟩
theorem mb_and (h : Tp n tf row b) : MB n o b [38] (fun l h op bad a w => F_X8_compares R1 l h op bad (nI us) row a w) (B_X8_all_4 (nI us) row R1) := by
  refine ⟨fun k c p o' a w => ?_, fun k c p a w hp hq => ?_, fun k c p a w hp hq => ?_⟩
  · unfold B_X8_all_4
    simp only [l0, l1, l2, l3, l4, l5, l6, l7, l8, l9, l10, l11, l12, l13, l14, l15, l16, l17, l18, l19, l20, l21, l22, l23, l24, l25, l26, l27, l28, l29, l30, l32, l33, l37, l38, l40, l41, l42, l43, l45, l47, l48, l57, l58, l60, l61, l62, l63, l64, l69, l70, l74, l88, l91, l96, l97, l98, l99, l100, l102, l115, l116, l121, l124, l134, l158, l279, l255, l400, l728, l729, l9999, l99999, l12345, l1103515245, l1000000000, l1000000001, l1000000002, l1000000003, l1000000004, l1000000005, l1000000006]
    rw [if_neg (show ¬ nI 1 = nI 0 by decide)]
  · obtain ⟨v, w1, w2, w3, w4, w5⟩ := tp_look (us := 0) h hp (by omega)
    have n38 : ¬ v = nI 38 := fun e => hq (by rw [(w2 38 (by omega) (by omega)).mp e]; decide)
    unfold B_X8_all_4
    simp only [l0, l1, l2, l3, l4, l5, l6, l7, l8, l9, l10, l11, l12, l13, l14, l15, l16, l17, l18, l19, l20, l21, l22, l23, l24, l25, l26, l27, l28, l29, l30, l32, l33, l37, l38, l40, l41, l42, l43, l45, l47, l48, l57, l58, l60, l61, l62, l63, l64, l69, l70, l74, l88, l91, l96, l97, l98, l99, l100, l102, l115, l116, l121, l124, l134, l158, l279, l255, l400, l728, l729, l9999, l99999, l12345, l1103515245, l1000000000, l1000000001, l1000000002, l1000000003, l1000000004, l1000000005, l1000000006]
    rw [if_pos True.intro, w1, bd_some, if_neg n38]
  · obtain ⟨v, w1, w2, w3, w4, w5⟩ := tp_look (us := 0) h hp (by omega)
    simp only [List.mem_cons, List.not_mem_nil, or_false] at hq
    have e := hq
    have e4 := w4 (by omega)
    rw [e] at e4
    subst e4
    rw [e]
    unfold B_X8_all_4
    simp only [l0, l1, l2, l3, l4, l5, l6, l7, l8, l9, l10, l11, l12, l13, l14, l15, l16, l17, l18, l19, l20, l21, l22, l23, l24, l25, l26, l27, l28, l29, l30, l32, l33, l37, l38, l40, l41, l42, l43, l45, l47, l48, l57, l58, l60, l61, l62, l63, l64, l69, l70, l74, l88, l91, l96, l97, l98, l99, l100, l102, l115, l116, l121, l124, l134, l158, l279, l255, l400, l728, l729, l9999, l99999, l12345, l1103515245, l1000000000, l1000000001, l1000000002, l1000000003, l1000000004, l1000000005, l1000000006]
    rw [if_pos True.intro, w1, bd_some, if_pos rfl, nI_add]
theorem sm_and (h : Tp n tf row b) (hS : Sm n o (fun rat flt cm cf => F_X0_readComparison R us rat flt (nI n) tf cm cf (nI o)) (fun l h op bad a w => F_X8_compares R1 l h op bad (nI us) row a w)) : Sm n o (fun rat flt cm cf => F_X0_readAnd R us rat flt (nI n) tf cm cf (nI o)) (fun l h op bad a w => F_X8_all R1 l h op bad (nI us) row a w) := by
  intro p b0 c D cf act wth hp hc hCR
  show Rs n p b0 (D + 1) o (F_X0_readAnd R us (nI p) (nI 0) (nI n) tf (nI c) cf (nI o)) (F_X8_all R1 (nI c) (nI p) (nI o) (nI 0) (nI us) row act wth)
  have eB : B_X0_readAnd_7 us (nI n) tf (nI o) R = gA (nI 38) (nI n) tf (fun rat flt cm cf => F_X0_readComparison R us rat flt (nI n) tf cm cf (nI o)) := by
    unfold B_X0_readAnd_7 gA
    simp only [l0, l1, l2, l3, l4, l5, l6, l7, l8, l9, l10, l11, l12, l13, l14, l15, l16, l17, l18, l19, l20, l21, l22, l23, l24, l25, l26, l27, l28, l29, l30, l32, l33, l37, l38, l40, l41, l42, l43, l45, l47, l48, l57, l58, l60, l61, l62, l63, l64, l69, l70, l74, l88, l91, l96, l97, l98, l99, l100, l102, l115, l116, l121, l124, l134, l158, l279, l255, l400, l728, l729, l9999, l99999, l12345, l1103515245, l1000000000, l1000000001, l1000000002, l1000000003, l1000000004, l1000000005, l1000000006]
  rcases hS p b0 c D cf act wth hp hc hCR with ⟨p', c', cf', act', wth', h1, h2, h3, h4, eX, eM⟩ | ⟨p', cx, cm, o', cf', act', wth', h1, h2, h3, eX, eM⟩
  · dsimp only at eX eM
    unfold F_X0_readAnd F_X8_all
    rw [eX, bd_some, eM, bd_some, eB]
    simp only [l0]
    exact (lpA (X := (fun rat flt cm cf => F_X0_readComparison R us rat flt (nI n) tf cm cf (nI o))) (M := (fun l h op bad a w => F_X8_compares R1 l h op bad (nI us) row a w)) h (by decide) (mb_and h) hS p' b0 D c' cf' act' wth' h2 h3 h4).mono h1
  · dsimp only at eX eM
    unfold F_X0_readAnd F_X8_all
    rw [eX, bd_some, eM, bd_some, eB]
    simp only [l0]
    refine Or.inr ⟨p', cx, cm, o', cf', act', wth', h1, h2, h3, ?_, ?_⟩
    · rw [lp_one]
      exact gA_end
    · rw [lp_one]
      exact (mb_and (o := o) h).1 _ _ _ _ _ _
theorem mb_or (h : Tp n tf row b) : MB n o b [124] (fun l h op bad a w => F_X8_all R1 l h op bad (nI us) row a w) (B_X8_any_4 (nI us) row R1) := by
  refine ⟨fun k c p o' a w => ?_, fun k c p a w hp hq => ?_, fun k c p a w hp hq => ?_⟩
  · unfold B_X8_any_4
    simp only [l0, l1, l2, l3, l4, l5, l6, l7, l8, l9, l10, l11, l12, l13, l14, l15, l16, l17, l18, l19, l20, l21, l22, l23, l24, l25, l26, l27, l28, l29, l30, l32, l33, l37, l38, l40, l41, l42, l43, l45, l47, l48, l57, l58, l60, l61, l62, l63, l64, l69, l70, l74, l88, l91, l96, l97, l98, l99, l100, l102, l115, l116, l121, l124, l134, l158, l279, l255, l400, l728, l729, l9999, l99999, l12345, l1103515245, l1000000000, l1000000001, l1000000002, l1000000003, l1000000004, l1000000005, l1000000006]
    rw [if_neg (show ¬ nI 1 = nI 0 by decide)]
  · obtain ⟨v, w1, w2, w3, w4, w5⟩ := tp_look (us := 0) h hp (by omega)
    have n124 : ¬ v = nI 124 := fun e => hq (by rw [(w2 124 (by omega) (by omega)).mp e]; decide)
    unfold B_X8_any_4
    simp only [l0, l1, l2, l3, l4, l5, l6, l7, l8, l9, l10, l11, l12, l13, l14, l15, l16, l17, l18, l19, l20, l21, l22, l23, l24, l25, l26, l27, l28, l29, l30, l32, l33, l37, l38, l40, l41, l42, l43, l45, l47, l48, l57, l58, l60, l61, l62, l63, l64, l69, l70, l74, l88, l91, l96, l97, l98, l99, l100, l102, l115, l116, l121, l124, l134, l158, l279, l255, l400, l728, l729, l9999, l99999, l12345, l1103515245, l1000000000, l1000000001, l1000000002, l1000000003, l1000000004, l1000000005, l1000000006]
    rw [if_pos True.intro, w1, bd_some, if_neg n124]
  · obtain ⟨v, w1, w2, w3, w4, w5⟩ := tp_look (us := 0) h hp (by omega)
    simp only [List.mem_cons, List.not_mem_nil, or_false] at hq
    have e := hq
    have e4 := w4 (by omega)
    rw [e] at e4
    subst e4
    rw [e]
    unfold B_X8_any_4
    simp only [l0, l1, l2, l3, l4, l5, l6, l7, l8, l9, l10, l11, l12, l13, l14, l15, l16, l17, l18, l19, l20, l21, l22, l23, l24, l25, l26, l27, l28, l29, l30, l32, l33, l37, l38, l40, l41, l42, l43, l45, l47, l48, l57, l58, l60, l61, l62, l63, l64, l69, l70, l74, l88, l91, l96, l97, l98, l99, l100, l102, l115, l116, l121, l124, l134, l158, l279, l255, l400, l728, l729, l9999, l99999, l12345, l1103515245, l1000000000, l1000000001, l1000000002, l1000000003, l1000000004, l1000000005, l1000000006]
    rw [if_pos True.intro, w1, bd_some, if_pos rfl, nI_add]
theorem sm_or (h : Tp n tf row b) (hS : Sm n o (fun rat flt cm cf => F_X0_readAnd R us rat flt (nI n) tf cm cf (nI o)) (fun l h op bad a w => F_X8_all R1 l h op bad (nI us) row a w)) : Sm n o (fun rat flt cm cf => F_X0_readOr R us rat flt (nI n) tf cm cf (nI o)) (fun l h op bad a w => F_X8_any R1 l h op bad (nI us) row a w) := by
  intro p b0 c D cf act wth hp hc hCR
  show Rs n p b0 (D + 1) o (F_X0_readOr R us (nI p) (nI 0) (nI n) tf (nI c) cf (nI o)) (F_X8_any R1 (nI c) (nI p) (nI o) (nI 0) (nI us) row act wth)
  have eB : B_X0_readOr_7 us (nI n) tf (nI o) R = gA (nI 124) (nI n) tf (fun rat flt cm cf => F_X0_readAnd R us rat flt (nI n) tf cm cf (nI o)) := by
    unfold B_X0_readOr_7 gA
    simp only [l0, l1, l2, l3, l4, l5, l6, l7, l8, l9, l10, l11, l12, l13, l14, l15, l16, l17, l18, l19, l20, l21, l22, l23, l24, l25, l26, l27, l28, l29, l30, l32, l33, l37, l38, l40, l41, l42, l43, l45, l47, l48, l57, l58, l60, l61, l62, l63, l64, l69, l70, l74, l88, l91, l96, l97, l98, l99, l100, l102, l115, l116, l121, l124, l134, l158, l279, l255, l400, l728, l729, l9999, l99999, l12345, l1103515245, l1000000000, l1000000001, l1000000002, l1000000003, l1000000004, l1000000005, l1000000006]
  rcases hS p b0 c D cf act wth hp hc hCR with ⟨p', c', cf', act', wth', h1, h2, h3, h4, eX, eM⟩ | ⟨p', cx, cm, o', cf', act', wth', h1, h2, h3, eX, eM⟩
  · dsimp only at eX eM
    unfold F_X0_readOr F_X8_any
    rw [eX, bd_some, eM, bd_some, eB]
    simp only [l0]
    exact (lpA (X := (fun rat flt cm cf => F_X0_readAnd R us rat flt (nI n) tf cm cf (nI o))) (M := (fun l h op bad a w => F_X8_all R1 l h op bad (nI us) row a w)) h (by decide) (mb_or h) hS p' b0 D c' cf' act' wth' h2 h3 h4).mono h1
  · dsimp only at eX eM
    unfold F_X0_readOr F_X8_any
    rw [eX, bd_some, eM, bd_some, eB]
    simp only [l0]
    refine Or.inr ⟨p', cx, cm, o', cf', act', wth', h1, h2, h3, ?_, ?_⟩
    · rw [lp_one]
      exact gA_end
    · rw [lp_one]
      exact (mb_or (o := o) h).1 _ _ _ _ _ _
theorem sm_any (h : Tp n tf row b) (hS : Sm n o (fun rat flt cm cf => R us rat flt (nI n) tf cm cf (nI o)) (fun l h op bad a w => R1 l h op bad (nI us) row a w)) : Sm n o (fun rat flt cm cf => F_X0_readOr R us rat flt (nI n) tf cm cf (nI o)) (fun l h op bad a w => F_X8_any R1 l h op bad (nI us) row a w) := sm_or h (sm_and h (sm_cmp h (sm_sum h (sm_prod h hS))))
end
