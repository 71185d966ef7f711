/-! PURE: one factor, the whole text -/
section
variable {n o us : Nat} {tf row : Nat → Int32} {b : Nat → Nat} {R : Nat → Int32 → Int32 → Int32 → (Nat → Int32) → Int32 → (Nat → Int32) → Int32 → Option (Int32 × Int32 × Int32 × (Nat → Int32))} {R1 : Int32 → Int32 → Int32 → Int32 → Int32 → (Nat → Int32) → (Nat → Int32) → (Nat → Int32) → Option (Int32 × Int32 × Int32 × Int32 × (Nat → Int32) × (Nat → Int32))}
theorem m1j : ∀ j, j < 3 → -(nI 1) - nI j = -(nI (j + 1)) := by decide +kernel
theorem nmV_lt {x : Nat} (h : nmJ us x < 3) : nmV us x = nI (nmJ us x) := if_pos h
theorem nmV_ge {x : Nat} (h : ¬ nmJ us x < 3) : nmV us x = -(nI 1) := if_neg h
theorem op_five {l hh bad u sg : Int32} {a w : Nat → Int32} : F_X8_opens R1 l hh (nI 5) bad u row a w sg = some (l, hh, nI 5, nI 1, a, w) := by
  unfold F_X8_opens
  simp only [l0, l1, l2, l3, l4, l5, l6, l7, l8, l9, l10, l11, l12, l13, l14, l15, l16, l17, l18, l19, l20, l21, l22, l23, l24, l25, l26, l27, l28, l29, l30, l32, l33, l37, l38, l40, l41, l42, l43, l45, l47, l48, l57, l58, l60, l61, l62, l63, l64, l69, l70, l74, l88, l91, l96, l97, l98, l99, l100, l102, l115, l116, l121, l124, l134, l158, l279, l255, l400, l728, l729, l9999, l99999, l12345, l1103515245, l1000000000, l1000000001, l1000000002, l1000000003, l1000000004, l1000000005, l1000000006]
  rw [if_pos True.intro]
theorem op_deny {c p : Nat} {a w : Nat → Int32} (ho : o < 5) : F_X8_opens R1 (nI c) (nI p) (nI o) (nI 0) (nI us) row a w (nI 33) = bd (R1 (nI c) (nI (p + 1)) (nI (o + 1)) (nI 0) (nI us) row a w) (fun u1 => bd (F_X8_lays u1.1 u1.2.2.2.2.1 u1.2.2.2.2.2 (nI 3) (nI 0)) (fun u2 => some (u2.1, u1.2.1, (u1.2.2.1 - nI 1), u1.2.2.2.1, u2.2.1, u2.2.2))) := by
  unfold F_X8_opens
  simp only [l0, l1, l2, l3, l4, l5, l6, l7, l8, l9, l10, l11, l12, l13, l14, l15, l16, l17, l18, l19, l20, l21, l22, l23, l24, l25, l26, l27, l28, l29, l30, l32, l33, l37, l38, l40, l41, l42, l43, l45, l47, l48, l57, l58, l60, l61, l62, l63, l64, l69, l70, l74, l88, l91, l96, l97, l98, l99, l100, l102, l115, l116, l121, l124, l134, l158, l279, l255, l400, l728, l729, l9999, l99999, l12345, l1103515245, l1000000000, l1000000001, l1000000002, l1000000003, l1000000004, l1000000005, l1000000006]
  rw [if_neg (show ¬ nI o = nI 5 from fun e => by rw [nI_eq (by omega) (by omega)] at e; omega), if_pos True.intro, nI_add, nI_add]
theorem op_round {c p : Nat} {a w : Nat → Int32} (ho : o < 5) : F_X8_opens R1 (nI c) (nI p) (nI o) (nI 0) (nI us) row a w (nI 40) = bd (F_X8_any R1 (nI c) (nI (p + 1)) (nI (o + 1)) (nI 0) (nI us) row a w) (fun (u1 : (Int32 × Int32 × Int32 × Int32 × (Nat → Int32) × (Nat → Int32))) => if u1.2.2.2.1 = nI 0 then (bd (F_X8_look u1.2.1 row) (fun (u2 : Int32) => if u2 = nI 41 then (some (u1.1, (u1.2.1 + nI 1), (u1.2.2.1 - nI 1), nI 0, u1.2.2.2.2.1, u1.2.2.2.2.2)) else (some (u1.1, (u1.2.1 + nI 0), (u1.2.2.1 - nI 1), nI 1, u1.2.2.2.2.1, u1.2.2.2.2.2)))) else (some (u1.1, (u1.2.1 + nI 0), (u1.2.2.1 - nI 1), nI 1, u1.2.2.2.2.1, u1.2.2.2.2.2))) := by
  unfold F_X8_opens
  simp only [l0, l1, l2, l3, l4, l5, l6, l7, l8, l9, l10, l11, l12, l13, l14, l15, l16, l17, l18, l19, l20, l21, l22, l23, l24, l25, l26, l27, l28, l29, l30, l32, l33, l37, l38, l40, l41, l42, l43, l45, l47, l48, l57, l58, l60, l61, l62, l63, l64, l69, l70, l74, l88, l91, l96, l97, l98, l99, l100, l102, l115, l116, l121, l124, l134, l158, l279, l255, l400, l728, l729, l9999, l99999, l12345, l1103515245, l1000000000, l1000000001, l1000000002, l1000000003, l1000000004, l1000000005, l1000000006]
  rw [if_neg (show ¬ nI o = nI 5 from fun e => by rw [nI_eq (by omega) (by omega)] at e; omega), if_neg (show ¬ nI 40 = nI 33 by decide), nI_add, nI_add]
theorem sm_fac (h : Tp n tf row b) (hu : us < 2) (ho : o ≤ 5) (hS : o < 5 → Sm n (o + 1) (fun rat flt cm cf => R us rat flt (nI n) tf cm cf (nI (o + 1))) (fun l h op bad a w => R1 l h op bad (nI us) row a w)) : Sm n o (fun rat flt cm cf => F_X0_readFactor R us rat flt (nI n) tf cm cf (nI o)) (fun l h op bad a w => F_X8_one R1 l h op bad (nI us) row a w) := by
  have hn := h.1
  intro p b0 c D cf act wth hp hc hCR
  show Rs n p b0 (D + 1) o (F_X0_readFactor R us (nI p) (nI 0) (nI n) tf (nI c) cf (nI o)) (F_X8_one R1 (nI c) (nI p) (nI o) (nI 0) (nI us) row act wth)
  obtain ⟨v, w1, w2, w3, w4, w5⟩ := tp_look (us := us) h hp hu
  have hb := h.2.2.1 p
  have lt0 : -(nI 1) < nI 0 := by decide
  unfold F_X0_readFactor F_X8_one
  simp only [l0, l1, l2, l3, l4, l5, l6, l7, l8, l9, l10, l11, l12, l13, l14, l15, l16, l17, l18, l19, l20, l21, l22, l23, l24, l25, l26, l27, l28, l29, l30, l32, l33, l37, l38, l40, l41, l42, l43, l45, l47, l48, l57, l58, l60, l61, l62, l63, l64, l69, l70, l74, l88, l91, l96, l97, l98, l99, l100, l102, l115, l116, l121, l124, l134, l158, l279, l255, l400, l728, l729, l9999, l99999, l12345, l1103515245, l1000000000, l1000000001, l1000000002, l1000000003, l1000000004, l1000000005, l1000000006]
  rw [if_pos True.intro, tp_next h hp, bd_some, nm_x us hu _ hb, bd_some, tp_dig h hp, bd_some, w1, bd_some, w5, bd_some]
  have w33 := w2 33 (by omega) (by omega)
  have w40 := w2 40 (by omega) (by omega)
  by_cases hd : 48 ≤ b p ∧ b p ≤ 57
  · have hlt : p < n := h.lt (by omega)
    have e5 : nmV us (b p) = -(nI 1) := nmV_ge (fun e => (nm_dig us hu _ hb e).1 hd)
    obtain ⟨p', x, a1, a2, a3, a4, a5⟩ := num_both (cf := cf) (act := act) (wth := wth) h hp (show c < 60 by omega) hd
    rw [if_pos hd, if_neg (show ¬ nI 1 = nI 0 by decide), e5, if_pos lt0, if_neg (fun e => by have := w33.mp e; omega), if_neg (fun e => by have := w40.mp e; omega), a4, bd_some, a5, bd_some]
    exact Or.inl ⟨p', c + 1, _, _, _, by omega, a2, by omega, hCR.num a3, rfl, rfl⟩
  · rw [if_neg hd, if_pos rfl]
    by_cases hj : nmJ us (b p) < 3
    · have hz := (nm_dig us hu _ hb hj).2
      have hlt : p < n := h.lt hz
      rw [nmV_lt hj, if_neg (show ¬ nI (nmJ us (b p)) < nI 0 from nI_nlt (by omega) (by omega)), if_neg (show ¬ nI (nmJ us (b p)) < nI 0 from nI_nlt (by omega) (by omega)), m1j _ hj, x_add cf _ (show c < 60 by omega) (by omega), bd_some, m_lays (show c < 60 by omega), bd_some, nI_add]
      exact Or.inl ⟨p + 1, c + 1, _, _, _, by omega, by omega, by omega, hCR.nam hj, rfl, rfl⟩
    · rw [nmV_ge hj, if_pos lt0, if_pos lt0]
      obtain ⟨c', a', w', b1, b2⟩ := num_bad (act := act) (wth := wth) h hp (show c ≤ 60 by omega) hd
      rcases (show o = 5 ∨ o < 5 by omega) with rfl | ho5
      · rw [if_pos (nI_le (Nat.le_refl 5) (by omega)), if_pos (nI_le (Nat.le_refl 5) (by omega))]
        by_cases h33 : v = nI 33
        · rw [if_pos h33, op_five, bd_some]
          exact Or.inr ⟨p, c, c, _, _, _, _, hp, by omega, by omega, rfl, rfl⟩
        · by_cases h40 : v = nI 40
          · rw [if_neg h33, if_pos h40, op_five, bd_some]
            exact Or.inr ⟨p, c, c, _, _, _, _, hp, by omega, by omega, rfl, rfl⟩
          · rw [if_neg h33, if_neg h40, b2, bd_some]
            exact Or.inr ⟨p, c, c', _, _, _, _, hp, by omega, b1, rfl, rfl⟩
      · have hge : ¬ nI 5 ≤ nI o := nI_ge ho5 (by omega)
        rw [if_neg hge]
        by_cases h33 : b p = 33
        · have hlt : p < n := h.lt (by omega)
          have e4 := w33.mpr h33
          subst e4
          rw [tp_take h hp h33, bd_some, if_neg (show ¬ nI 1 = nI 0 by decide), if_pos rfl, op_deny ho5]
          simp only [nI_add]
          rcases hS ho5 (p + 1) (b0 + 1) c D cf act wth (by omega) (by omega) hCR with ⟨p', c', cf', act', wth', h1, h2, h3, h4, eX, eM⟩ | ⟨p', cx, cm, o', cf', act', wth', h1, h2, h3, eX, eM⟩
          · dsimp only at eX eM
            rw [eX, bd_some, eM, bd_some]
            dsimp only
            rw [x_add cf' _ (show c' < 60 by omega) (by omega), bd_some, m_lays (show c' < 60 by omega), bd_some, bd_some]
            exact Or.inl ⟨p', c' + 1, _, _, _, by omega, h2, by omega, h4.deny, rfl, by dsimp only; rw [pk_sub (by omega), Nat.add_sub_cancel]⟩
          · dsimp only at eX eM
            obtain ⟨c2, f2, a1, a2⟩ := x_addB (cf := cf') (v := -(nI 33)) h2
            obtain ⟨c3, a3, w3', a4, a5⟩ := m_laysB (act := act') (wth := wth') (w := nI 3) (v := nI 0) h3
            rw [eX, bd_some, eM, bd_some]
            dsimp only
            rw [a2, bd_some, a5, bd_some, bd_some]
            exact Or.inr ⟨p', c2, c3, _, _, _, _, h1, a1, a4, rfl, rfl⟩
        · rw [tp_miss h hp (by omega) h33, bd_some, if_pos rfl, if_neg hge, if_neg (fun e => h33 (w33.mp e))]
          by_cases h40 : b p = 40
          · have hlt : p < n := h.lt (by omega)
            have e4 := w40.mpr h40
            subst e4
            rw [tp_take h hp h40, bd_some, if_neg (show ¬ nI 1 = nI 0 by decide), if_pos rfl, op_round ho5]
            simp only [nI_add]
            rcases sm_any h (hS ho5) (p + 1) (b0 + 1) c D cf act wth (by omega) (by omega) hCR with ⟨p', c', cf', act', wth', h1, h2, h3, h4, eX, eM⟩ | ⟨p', cx, cm, o', cf', act', wth', h1, h2, h3, eX, eM⟩
            · dsimp only at eX eM
              obtain ⟨v', g1, g2, g3, g4, g5⟩ := tp_look (us := us) h h2 hu
              rw [eX, bd_some, eM, bd_some]
              dsimp only
              rw [if_pos rfl, g1, bd_some]
              by_cases h41 : b p' = 41
              · have hlt' : p' < n := h.lt (by omega)
                rw [tp_take h h2 h41, bd_some, if_neg (show ¬ nI 1 = nI 0 by decide), if_pos ((g2 41 (by omega) (by omega)).mpr h41), bd_some, nI_add]
                exact Or.inl ⟨p' + 1, c', _, _, _, by omega, by omega, by omega, h4, rfl, by dsimp only; rw [pk_sub (by omega), Nat.add_sub_cancel]⟩
              · rw [tp_miss h h2 (by omega) h41, bd_some, if_pos rfl, if_neg (fun e => h41 ((g2 41 (by omega) (by omega)).mp e)), bd_some, nI_add]
                exact Or.inr ⟨p', c', c', _, _, _, _, h2, by omega, by omega, rfl, rfl⟩
            · dsimp only at eX eM
              rw [eX, bd_some, eM, bd_some]
              dsimp only
              rw [tp_flt, bd_some, if_pos rfl, if_neg (show ¬ nI 1 = nI 0 by decide), bd_some, nI_add]
              exact Or.inr ⟨p', cx, cm, _, _, _, _, h1, h2, h3, rfl, rfl⟩
          · rw [tp_miss h hp (by omega) h40, bd_some, if_pos rfl, if_neg (fun e => h40 (w40.mp e)), b2, bd_some]
            exact Or.inr ⟨p, c, c', _, _, _, _, hp, by omega, b1, rfl, rfl⟩
theorem sm_rs (h : Tp n tf row b) (hu : us < 2) : ∀ (d o : Nat), o ≤ 5 → 5 ≤ o + d → Sm n o (fun rat flt cm cf => RS_rf (d + 1) us rat flt (nI n) tf cm cf (nI o)) (fun l h op bad a w => RS_one (d + 1) l h op bad (nI us) row a w) := by
  intro d
  induction d with
  | zero =>
    intro o ho h5
    exact sm_fac (R := RS_rf 0) (R1 := RS_one 0) h hu ho (fun hlt => absurd hlt (by omega))
  | succ d ih =>
    intro o ho h5
    exact sm_fac (R := RS_rf (d + 1)) (R1 := RS_one (d + 1)) h hu ho (fun hlt => ih (o + 1) (by omega) (by omega))
theorem txt_both (h : Tp n tf row b) (hu : us < 2) (cf act wth : Nat → Int32) : Rs n 0 0 1 0 (F_X0_readOr (RS_rf 8) us (nI 0) (nI 0) (nI n) tf (nI 0) cf (nI 0)) (F_X8_any (RS_one 8) (nI 0) (nI 0) (nI 0) (nI 0) (nI us) row act wth) :=
  sm_any h (sm_rs h hu 7 0 (by omega) (by omega)) 0 0 0 0 cf act wth (by omega) (by omega) ⟨by omega, fun k hk => absurd hk (Nat.not_lt_zero k), fun _ => 0, rfl, rfl, fun k hk => absurd hk (Nat.not_lt_zero k)⟩
end
