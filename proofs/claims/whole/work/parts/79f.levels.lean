/-! PURE: the levels of a text, class and model side by side -/
def Rs (n p b0 D o : Nat) (x : Option (Int32 × Int32 × Int32 × (Nat → Int32))) (m : Option (Int32 × Int32 × Int32 × Int32 × (Nat → Int32) × (Nat → Int32))) : Prop := (∃ (p' c' : Nat) (cf' act' wth' : Nat → Int32), p ≤ p' ∧ p' ≤ n ∧ c' + b0 ≤ p' ∧ CR cf' act' wth' c' D ∧ x = some (nI p', nI 0, nI c', cf') ∧ m = some (nI c', nI p', nI o, nI 0, act', wth')) ∨ ∃ (p' cx cm : Nat) (o' : Int32) (cf' act' wth' : Nat → Int32), p' ≤ n ∧ cx ≤ 60 ∧ cm ≤ 60 ∧ x = some (nI p', nI 1, nI cx, cf') ∧ m = some (nI cm, nI p', o', nI 1, act', wth')
def Sm (n o : Nat) (X : Int32 → Int32 → Int32 → (Nat → Int32) → Option (Int32 × Int32 × Int32 × (Nat → Int32))) (M : Int32 → Int32 → Int32 → Int32 → (Nat → Int32) → (Nat → Int32) → Option (Int32 × Int32 × Int32 × Int32 × (Nat → Int32) × (Nat → Int32))) : Prop := ∀ (p b0 c D : Nat) (cf act wth : Nat → Int32), p ≤ n → c + b0 ≤ p → CR cf act wth c D → Rs n p b0 (D + 1) o (X (nI p) (nI 0) (nI c) cf) (M (nI c) (nI p) (nI o) (nI 0) act wth)
def gO (ks : Nat) (m : Int32) (tf : Nat → Int32) (X : Int32 → Int32 → Int32 → (Nat → Int32) → Option (Int32 × Int32 × Int32 × (Nat → Int32))) (k : (Int32 × Int32 × Int32 × Int32 × Int32 × (Nat → Int32)) → Option (Int32 × Int32 × Int32 × (Nat → Int32))) (v : (Int32 × Int32 × Int32 × Int32 × Int32 × (Nat → Int32))) : Option (Int32 × Int32 × Int32 × (Nat → Int32)) := if (60 : Int32) ≤ v.2.1 then (some (v.2.2.1, v.2.2.2.1, v.2.2.2.2.1, v.2.2.2.2.2)) else (if v.1 = 0 then (some (v.2.2.1, v.2.2.2.1, v.2.2.2.2.1, v.2.2.2.2.2)) else (bd (X v.2.2.1 v.2.2.2.1 v.2.2.2.2.1 v.2.2.2.2.2) (fun (u3 : (Int32 × Int32 × Int32 × (Nat → Int32))) => bd (F_X1_add 60 u3.2.2.1 u3.2.2.2 (-v.1)) (fun (u4 : (Int32 × (Nat → Int32))) => bd (F_X0_takesOneOf u3.1 u3.2.1 m tf ks) (fun (u5 : (Int32 × Int32)) => k (u5.1, (v.2.1 + (1 : Int32)), u5.2, u3.2.1, u4.1, u4.2))))))
def gA (ch : Int32) (m : Int32) (tf : Nat → Int32) (X : Int32 → Int32 → Int32 → (Nat → Int32) → Option (Int32 × Int32 × Int32 × (Nat → Int32))) (k : (Int32 × Int32 × Int32 × Int32 × (Nat → Int32)) → Option (Int32 × Int32 × Int32 × (Nat → Int32))) (v : (Int32 × Int32 × Int32 × Int32 × (Nat → Int32))) : Option (Int32 × Int32 × Int32 × (Nat → Int32)) := if (60 : Int32) ≤ v.1 then (some (v.2.1, v.2.2.1, v.2.2.2.1, v.2.2.2.2)) else (bd (F_X0_takes v.2.1 v.2.2.1 m tf ch) (fun (u2 : (Int32 × Int32)) => if u2.1 = 0 then (some (u2.2, v.2.2.1, v.2.2.2.1, v.2.2.2.2)) else (bd (X u2.2 v.2.2.1 v.2.2.2.1 v.2.2.2.2) (fun (u3 : (Int32 × Int32 × Int32 × (Nat → Int32))) => bd (F_X1_add 60 u3.2.2.1 u3.2.2.2 (-ch)) (fun (u4 : (Int32 × (Nat → Int32))) => k ((v.1 + (1 : Int32)), u3.1, u3.2.1, u4.1, u4.2))))))
theorem Rs.mono {n p q b0 D o : Nat} {x : Option (Int32 × Int32 × Int32 × (Nat → Int32))} {m : Option (Int32 × Int32 × Int32 × Int32 × (Nat → Int32) × (Nat → Int32))} (h : Rs n q b0 D o x m) (hp : p ≤ q) : Rs n p b0 D o x m := by
  rcases h with ⟨p', c', cf', act', wth', h1, h2⟩ | h
  · exact Or.inl ⟨p', c', cf', act', wth', by omega, h2⟩
  · exact Or.inr h
section
variable {n o us : Nat} {tf row : Nat → Int32} {b : Nat → Nat} {X : Int32 → Int32 → Int32 → (Nat → Int32) → Option (Int32 × Int32 × Int32 × (Nat → Int32))} {M : Int32 → Int32 → Int32 → Int32 → (Nat → Int32) → (Nat → Int32) → Option (Int32 × Int32 × Int32 × Int32 × (Nat → Int32) × (Nat → Int32))} {R : Nat → Int32 → Int32 → Int32 → (Nat → Int32) → Int32 → (Nat → Int32) → Int32 → Option (Int32 × Int32 × Int32 × (Nat → Int32))} {R1 : Int32 → Int32 → Int32 → Int32 → Int32 → (Nat → Int32) → (Nat → Int32) → (Nat → Int32) → Option (Int32 × Int32 × Int32 × Int32 × (Nat → Int32) × (Nat → Int32))}
/-- what a loop of the model does -/
def MB (n o : Nat) (b : Nat → Nat) (l : List Nat) (M : Int32 → Int32 → Int32 → Int32 → (Nat → Int32) → (Nat → Int32) → Option (Int32 × Int32 × Int32 × Int32 × (Nat → Int32) × (Nat → Int32))) (BM : ((Int32 × Int32 × Int32 × Int32 × (Nat → Int32) × (Nat → Int32)) → Option (Int32 × Int32 × Int32 × Int32 × (Nat → Int32) × (Nat → Int32))) → (Int32 × Int32 × Int32 × Int32 × (Nat → Int32) × (Nat → Int32)) → Option (Int32 × Int32 × Int32 × Int32 × (Nat → Int32) × (Nat → Int32))) : Prop := (∀ k c p o' a w, BM k (c, p, o', nI 1, a, w) = some (c, p, o', nI 1, a, w)) ∧ (∀ k (c p : Nat) a w, p ≤ n → ¬ b p ∈ l → BM k (nI c, nI p, nI o, nI 0, a, w) = some (nI c, nI p, nI o, nI 0, a, w)) ∧ ∀ k (c p : Nat) a w, p ≤ n → b p ∈ l → BM k (nI c, nI p, nI o, nI 0, a, w) = bd (M (nI c) (nI (p + 1)) (nI o) (nI 0) a w) (fun u4 => bd (F_X8_lays u4.1 u4.2.2.2.2.1 u4.2.2.2.2.2 (nI (b p)) (nI 0)) (fun u5 => k (u5.1, u4.2.1, u4.2.2.1, u4.2.2.2.1, u5.2.1, u5.2.2)))
theorem ops_pos : ∀ x, x ∈ opsL → 1 ≤ x ∧ x < 256 := by decide +kernel
theorem gO_end {ks : Nat} {m : Int32} {k : (Int32 × Int32 × Int32 × Int32 × Int32 × (Nat → Int32)) → Option (Int32 × Int32 × Int32 × (Nat → Int32))} {i r f c : Int32} {cf : Nat → Int32} : gO ks m tf X k (nI 0, i, r, f, c, cf) = some (r, f, c, cf) := by
  unfold gO
  simp only [l0, l1, l2, l3, l4, l5, l6, l7, l8, l9, l10, l11, l12, l13, l14, l15, l16, l17, l18, l19, l20, l21, l22, l23, l24, l25, l26, l27, l28, l29, l30, l32, l33, l37, l38, l40, l41, l42, l43, l45, l47, l48, l57, l58, l60, l61, l62, l63, l64, l69, l70, l74, l88, l91, l96, l97, l98, l99, l100, l102, l115, l116, l121, l124, l134, l158, l279, l255, l400, l728, l729, l9999, l99999, l12345, l1103515245, l1000000000, l1000000001, l1000000002, l1000000003, l1000000004, l1000000005, l1000000006]
  by_cases h : nI 60 ≤ i
  · rw [if_pos h]
  · rw [if_neg h, if_pos True.intro]
theorem lpO {ks : Nat} {l : List Nat} {BM : ((Int32 × Int32 × Int32 × Int32 × (Nat → Int32) × (Nat → Int32)) → Option (Int32 × Int32 × Int32 × Int32 × (Nat → Int32) × (Nat → Int32))) → (Int32 × Int32 × Int32 × Int32 × (Nat → Int32) × (Nat → Int32)) → Option (Int32 × Int32 × Int32 × Int32 × (Nat → Int32) × (Nat → Int32))} (h : Tp n tf row b) (hl : ∀ x, x ∈ l → x ∈ opsL) (hTO : ∀ p, p ≤ n → F_X0_takesOneOf (nI p) (nI 0) (nI n) tf ks = some (if b p ∈ l then (nI (b p), nI (p + 1)) else (nI 0, nI p))) (hTF : ∀ r, F_X0_takesOneOf r (nI 1) (nI n) tf ks = some (nI 0, r)) (hM : MB n o b l M BM) (hS : Sm n o X M) (p0 b0 D c : Nat) (cf act wth : Nat → Int32) (hp : p0 ≤ n) (hc : c + b0 ≤ p0) (hCR : CR cf act wth c (D + 1)) : Rs n p0 b0 (D + 1) o (bd (F_X0_takesOneOf (nI p0) (nI 0) (nI n) tf ks) (fun u2 => lp (gO ks (nI n) tf X) fuelC (u2.1, nI 0, u2.2, nI 0, nI c, cf))) (lp BM fuelC (nI c, nI p0, nI o, nI 0, act, wth)) := by
  have hn := h.1
  obtain ⟨m0, mn, my⟩ := hM
  rw [hTO p0 hp, bd_some]
  refine lp_two (body := gO ks (nI n) tf X) (body' := BM) (fun j s t => (∃ (p c : Nat) (cf act wth : Nat → Int32), p0 + j ≤ p ∧ p ≤ n ∧ c + b0 ≤ p ∧ CR cf act wth c (D + 1) ∧ s = ((if b p ∈ l then nI (b p) else nI 0), nI j, (if b p ∈ l then nI (p + 1) else nI p), nI 0, nI c, cf) ∧ t = (nI c, nI p, nI o, nI 0, act, wth)) ∨ ∃ (p cx cm : Nat) (o' : Int32) (cf act wth : Nat → Int32), p ≤ n ∧ cx ≤ 60 ∧ cm ≤ 60 ∧ s = (nI 0, nI j, nI p, nI 1, nI cx, cf) ∧ t = (nI cm, nI p, o', nI 1, act, wth)) (fun x m => Rs n p0 b0 (D + 1) o x m) 61 (by omega) ?_ ?_ ?_
  · refine Or.inl ⟨p0, c, cf, act, wth, by omega, hp, hc, hCR, ?_, rfl⟩
    by_cases hq : b p0 ∈ l
    · simp only [if_pos hq]
    · simp only [if_neg hq]
  · rintro j s t hj (⟨p, c, cf, act, wth, q1, q2, q3, q4, rfl, rfl⟩ | ⟨p, cx, cm, o', cf, act, wth, q1, q2, q3, rfl, rfl⟩)
    · by_cases hq : b p ∈ l
      · have hx := ops_pos _ (hl _ hq)
        have hlt : p < n := h.lt (by omega)
        have hne : ¬ nI (b p) = nI 0 := fun e => by rw [nI_eq (by omega) (by omega)] at e; omega
        rw [if_pos hq, if_pos hq]
        rcases hS (p + 1) (b0 + 1) c (D + 1) cf act wth (by omega) (by omega) q4 with ⟨p', c', cf', act', wth', h1, h2, h3, h4, eX, eM⟩ | ⟨p', cx, cm, o', cf', act', wth', h1, h2, h3, eX, eM⟩
        · refine Or.inr ⟨((if b p' ∈ l then nI (b p') else nI 0), nI (j + 1), (if b p' ∈ l then nI (p' + 1) else nI p'), nI 0, nI (c' + 1), upd cf' c' (-(nI (b p)))), (nI (c' + 1), nI p', nI o, nI 0, upd act' c' (nI (b p)), upd wth' c' (nI 0)), Or.inl ⟨p', c' + 1, _, _, _, by omega, h2, by omega, h4.op (hl _ hq), rfl, rfl⟩, fun k => ?_, fun k => ?_⟩
          · unfold gO
            simp only [l0, l1, l2, l3, l4, l5, l6, l7, l8, l9, l10, l11, l12, l13, l14, l15, l16, l17, l18, l19, l20, l21, l22, l23, l24, l25, l26, l27, l28, l29, l30, l32, l33, l37, l38, l40, l41, l42, l43, l45, l47, l48, l57, l58, l60, l61, l62, l63, l64, l69, l70, l74, l88, l91, l96, l97, l98, l99, l100, l102, l115, l116, l121, l124, l134, l158, l279, l255, l400, l728, l729, l9999, l99999, l12345, l1103515245, l1000000000, l1000000001, l1000000002, l1000000003, l1000000004, l1000000005, l1000000006]
            rw [if_neg (nI_ge (show j < 60 by omega) (by omega)), if_neg hne, eX, bd_some]
            dsimp only
            rw [x_add cf' _ (show c' < 60 by omega) (by omega), bd_some, hTO p' h2, bd_some, nI_add]
            by_cases hr : b p' ∈ l
            · simp only [if_pos hr]
            · simp only [if_neg hr]
          · rw [my k c p act wth q2 hq, eM, bd_some]
            dsimp only
            rw [m_lays (show c' < 60 by omega), bd_some]
        · obtain ⟨c2, f2, a1, a2⟩ := x_addB (cf := cf') (v := -(nI (b p))) h2
          obtain ⟨c3, a3, w3, a4, a5⟩ := m_laysB (act := act') (wth := wth') (w := nI (b p)) (v := nI 0) h3
          refine Or.inr ⟨(nI 0, nI (j + 1), nI p', nI 1, nI c2, f2), (nI c3, nI p', o', nI 1, a3, w3), Or.inr ⟨p', c2, c3, o', _, _, _, h1, a1, a4, rfl, rfl⟩, fun k => ?_, fun k => ?_⟩
          · unfold gO
            simp only [l0, l1, l2, l3, l4, l5, l6, l7, l8, l9, l10, l11, l12, l13, l14, l15, l16, l17, l18, l19, l20, l21, l22, l23, l24, l25, l26, l27, l28, l29, l30, l32, l33, l37, l38, l40, l41, l42, l43, l45, l47, l48, l57, l58, l60, l61, l62, l63, l64, l69, l70, l74, l88, l91, l96, l97, l98, l99, l100, l102, l115, l116, l121, l124, l134, l158, l279, l255, l400, l728, l729, l9999, l99999, l12345, l1103515245, l1000000000, l1000000001, l1000000002, l1000000003, l1000000004, l1000000005, l1000000006]
            rw [if_neg (nI_ge (show j < 60 by omega) (by omega)), if_neg hne, eX, bd_some]
            dsimp only
            rw [a2, bd_some, hTF, bd_some, nI_add]
          · rw [my k c p act wth q2 hq, eM, bd_some]
            dsimp only
            rw [a5, bd_some]
      · rw [if_neg hq, if_neg hq]
        refine Or.inl (fun k k' => ?_)
        rw [gO_end, mn k' c p act wth q2 hq]
        exact Or.inl ⟨p, c, cf, act, wth, by omega, q2, q3, q4, rfl, rfl⟩
    · refine Or.inl (fun k k' => ?_)
      rw [gO_end, m0]
      exact Or.inr ⟨p, cx, cm, o', cf, act, wth, q1, q2, q3, rfl, rfl⟩
  · rintro s t (⟨p, c, cf, act, wth, q1, q2, q3, q4, rfl, rfl⟩ | ⟨p, cx, cm, o', cf, act, wth, q1, q2, q3, rfl, rfl⟩) k k'
    · omega
    · rw [gO_end, m0]
      exact Or.inr ⟨p, cx, cm, o', cf, act, wth, q1, q2, q3, rfl, rfl⟩
theorem gA_end {ch : Nat} {m : Int32} {k : (Int32 × Int32 × Int32 × Int32 × (Nat → Int32)) → Option (Int32 × Int32 × Int32 × (Nat → Int32))} {i r c : Int32} {cf : Nat → Int32} : gA (nI ch) m tf X k (i, r, nI 1, c, cf) = some (r, nI 1, c, cf) := by
  unfold gA
  simp only [l0, l1, l2, l3, l4, l5, l6, l7, l8, l9, l10, l11, l12, l13, l14, l15, l16, l17, l18, l19, l20, l21, l22, l23, l24, l25, l26, l27, l28, l29, l30, l32, l33, l37, l38, l40, l41, l42, l43, l45, l47, l48, l57, l58, l60, l61, l62, l63, l64, l69, l70, l74, l88, l91, l96, l97, l98, l99, l100, l102, l115, l116, l121, l124, l134, l158, l279, l255, l400, l728, l729, l9999, l99999, l12345, l1103515245, l1000000000, l1000000001, l1000000002, l1000000003, l1000000004, l1000000005, l1000000006]
  by_cases h : nI 60 ≤ i
  · rw [if_pos h]
  · rw [if_neg h, tp_flt, bd_some, if_pos rfl]
theorem lpA {ch : Nat} {BM : ((Int32 × Int32 × Int32 × Int32 × (Nat → Int32) × (Nat → Int32)) → Option (Int32 × Int32 × Int32 × Int32 × (Nat → Int32) × (Nat → Int32))) → (Int32 × Int32 × Int32 × Int32 × (Nat → Int32) × (Nat → Int32)) → Option (Int32 × Int32 × Int32 × Int32 × (Nat → Int32) × (Nat → Int32))} (h : Tp n tf row b) (hl : ch ∈ opsL) (hM : MB n o b [ch] M BM) (hS : Sm n o X M) (p0 b0 D c : Nat) (cf act wth : Nat → Int32) (hp : p0 ≤ n) (hc : c + b0 ≤ p0) (hCR : CR cf act wth c (D + 1)) : Rs n p0 b0 (D + 1) o (lp (gA (nI ch) (nI n) tf X) fuelC (nI 0, nI p0, nI 0, nI c, cf)) (lp BM fuelC (nI c, nI p0, nI o, nI 0, act, wth)) := by
  have hn := h.1
  have hx := ops_pos _ hl
  obtain ⟨m0, mn, my⟩ := hM
  refine lp_two (body := gA (nI ch) (nI n) tf X) (body' := BM) (fun j s t => (∃ (p c : Nat) (cf act wth : Nat → Int32), p0 + j ≤ p ∧ p ≤ n ∧ c + b0 ≤ p ∧ CR cf act wth c (D + 1) ∧ s = (nI j, nI p, nI 0, nI c, cf) ∧ t = (nI c, nI p, nI o, nI 0, act, wth)) ∨ ∃ (p cx cm : Nat) (o' : Int32) (cf act wth : Nat → Int32), p ≤ n ∧ cx ≤ 60 ∧ cm ≤ 60 ∧ s = (nI j, nI p, nI 1, nI cx, cf) ∧ t = (nI cm, nI p, o', nI 1, act, wth)) (fun x m => Rs n p0 b0 (D + 1) o x m) 61 (by omega) ?_ ?_ ?_
  · exact Or.inl ⟨p0, c, cf, act, wth, by omega, hp, hc, hCR, rfl, rfl⟩
  · rintro j s t hj (⟨p, c, cf, act, wth, q1, q2, q3, q4, rfl, rfl⟩ | ⟨p, cx, cm, o', cf, act, wth, q1, q2, q3, rfl, rfl⟩)
    · by_cases hq : b p = ch
      · have hq' : b p ∈ [ch] := by rw [hq]; exact List.mem_singleton.mpr rfl
        have hlt : p < n := h.lt (by omega)
        rcases hS (p + 1) (b0 + 1) c (D + 1) cf act wth (by omega) (by omega) q4 with ⟨p', c', cf', act', wth', h1, h2, h3, h4, eX, eM⟩ | ⟨p', cx, cm, o', cf', act', wth', h1, h2, h3, eX, eM⟩
        · refine Or.inr ⟨(nI (j + 1), nI p', nI 0, nI (c' + 1), upd cf' c' (-(nI ch))), (nI (c' + 1), nI p', nI o, nI 0, upd act' c' (nI ch), upd wth' c' (nI 0)), Or.inl ⟨p', c' + 1, _, _, _, by omega, h2, by omega, h4.op hl, rfl, rfl⟩, fun k => ?_, fun k => ?_⟩
          · unfold gA
            simp only [l0, l1, l2, l3, l4, l5, l6, l7, l8, l9, l10, l11, l12, l13, l14, l15, l16, l17, l18, l19, l20, l21, l22, l23, l24, l25, l26, l27, l28, l29, l30, l32, l33, l37, l38, l40, l41, l42, l43, l45, l47, l48, l57, l58, l60, l61, l62, l63, l64, l69, l70, l74, l88, l91, l96, l97, l98, l99, l100, l102, l115, l116, l121, l124, l134, l158, l279, l255, l400, l728, l729, l9999, l99999, l12345, l1103515245, l1000000000, l1000000001, l1000000002, l1000000003, l1000000004, l1000000005, l1000000006]
            rw [if_neg (nI_ge (show j < 60 by omega) (by omega)), tp_take h q2 hq, bd_some, if_neg (show ¬ nI 1 = nI 0 by decide), eX, bd_some]
            dsimp only
            rw [x_add cf' _ (show c' < 60 by omega) (by omega), bd_some, nI_add]
          · rw [my k c p act wth q2 hq', eM, bd_some]
            dsimp only
            rw [m_lays (show c' < 60 by omega), bd_some, hq]
        · obtain ⟨c2, f2, a1, a2⟩ := x_addB (cf := cf') (v := -(nI ch)) h2
          obtain ⟨c3, a3, w3, a4, a5⟩ := m_laysB (act := act') (wth := wth') (w := nI ch) (v := nI 0) h3
          refine Or.inr ⟨(nI (j + 1), nI p', nI 1, nI c2, f2), (nI c3, nI p', o', nI 1, a3, w3), Or.inr ⟨p', c2, c3, o', _, _, _, h1, a1, a4, rfl, rfl⟩, fun k => ?_, fun k => ?_⟩
          · unfold gA
            simp only [l0, l1, l2, l3, l4, l5, l6, l7, l8, l9, l10, l11, l12, l13, l14, l15, l16, l17, l18, l19, l20, l21, l22, l23, l24, l25, l26, l27, l28, l29, l30, l32, l33, l37, l38, l40, l41, l42, l43, l45, l47, l48, l57, l58, l60, l61, l62, l63, l64, l69, l70, l74, l88, l91, l96, l97, l98, l99, l100, l102, l115, l116, l121, l124, l134, l158, l279, l255, l400, l728, l729, l9999, l99999, l12345, l1103515245, l1000000000, l1000000001, l1000000002, l1000000003, l1000000004, l1000000005, l1000000006]
            rw [if_neg (nI_ge (show j < 60 by omega) (by omega)), tp_take h q2 hq, bd_some, if_neg (show ¬ nI 1 = nI 0 by decide), eX, bd_some]
            dsimp only
            rw [a2, bd_some, nI_add]
          · rw [my k c p act wth q2 hq', eM, bd_some]
            dsimp only
            rw [hq, a5, bd_some]
      · refine Or.inl (fun k k' => ?_)
        rw [mn k' c p act wth q2 (fun e => hq (List.mem_singleton.mp e))]
        refine Or.inl ⟨p, c, cf, act, wth, by omega, q2, q3, q4, ?_, rfl⟩
        unfold gA
        simp only [l0, l1, l2, l3, l4, l5, l6, l7, l8, l9, l10, l11, l12, l13, l14, l15, l16, l17, l18, l19, l20, l21, l22, l23, l24, l25, l26, l27, l28, l29, l30, l32, l33, l37, l38, l40, l41, l42, l43, l45, l47, l48, l57, l58, l60, l61, l62, l63, l64, l69, l70, l74, l88, l91, l96, l97, l98, l99, l100, l102, l115, l116, l121, l124, l134, l158, l279, l255, l400, l728, l729, l9999, l99999, l12345, l1103515245, l1000000000, l1000000001, l1000000002, l1000000003, l1000000004, l1000000005, l1000000006]
        by_cases h60 : nI 60 ≤ nI j
        · rw [if_pos h60]
        · rw [if_neg h60, tp_miss h q2 (by omega) hq, bd_some, if_pos rfl]
    · refine Or.inl (fun k k' => ?_)
      rw [gA_end, m0]
      exact Or.inr ⟨p, cx, cm, o', cf, act, wth, q1, q2, q3, rfl, rfl⟩
  · rintro s t (⟨p, c, cf, act, wth, q1, q2, q3, q4, rfl, rfl⟩ | ⟨p, cx, cm, o', cf, act, wth, q1, q2, q3, rfl, rfl⟩) k k'
    · omega
    · rw [gA_end, m0]
      exact Or.inr ⟨p, cx, cm, o', cf, act, wth, q1, q2, q3, rfl, rfl⟩
end
