/-! PURE: texts at work, shunning, telling -/
theorem lp_two_run {σ ρ σ' ρ' : Type} {body : (σ → Option ρ) → σ → Option ρ} {body' : (σ' → Option ρ') → σ' → Option ρ'} (P : Nat → σ → σ' → Prop) (Q : Option ρ → Option ρ' → Prop) (n : Nat) (step : ∀ (j : Nat) (s : σ) (t : σ'), j < n → P j s t → (∀ k k', Q (body k s) (body' k' t)) ∨ ∃ s' t', P (j + 1) s' t' ∧ (∀ k, body k s = k s') ∧ ∀ k, body' k t = k t') (fin : ∀ s t, P n s t → ∀ k k', Q (body k s) (body' k' t)) : ∀ (f j : Nat) (s : σ) (t : σ'), j ≤ n → n < f + j → P j s t → Q (lp body f s) (lp body' f t) := by
  intro f
  induction f with
  | zero => intro j s t h1 h2 _; omega
  | succ f ih =>
    intro j s t h1 h2 hP
    show Q (body (lp body f) s) (body' (lp body' f) t)
    rcases Nat.lt_or_ge j n with h | h
    · rcases step j s t h hP with h3 | ⟨s', t', h3, h4, h5⟩
      · exact h3 _ _
      · rw [h4, h5]
        exact ih (j + 1) s' t' h (by omega) h3
    · have e : j = n := by omega
      subst e
      exact fin s t hP _ _
theorem lp_two {σ ρ σ' ρ' : Type} {body : (σ → Option ρ) → σ → Option ρ} {body' : (σ' → Option ρ') → σ' → Option ρ'} {s : σ} {t : σ'} (P : Nat → σ → σ' → Prop) (Q : Option ρ → Option ρ' → Prop) (n : Nat) (hn : n < 1000) (h : P 0 s t) (step : ∀ (j : Nat) (s : σ) (t : σ'), j < n → P j s t → (∀ k k', Q (body k s) (body' k' t)) ∨ ∃ s' t', P (j + 1) s' t' ∧ (∀ k, body k s = k s') ∧ ∀ k, body' k t = k t') (fin : ∀ s t, P n s t → ∀ k k', Q (body k s) (body' k' t)) : Q (lp body fuelC s) (lp body' fuelC t) :=
  lp_two_run P Q n step fin fuelC 0 s t (Nat.zero_le n) hn h
theorem uni {S P V : Type} {A : S → V → Prop} {B : P → V → Prop} (s0 : S) (p0 : P) (hA : ∀ s v w, A s v → A s w → v = w) (hB : ∀ p v w, B p v → B p w → v = w) (h : ∀ s p, ∃ v, A s v ∧ B p v) : ∃ v, (∀ s, A s v) ∧ ∀ p, B p v := by
  obtain ⟨v0, a0, b0⟩ := h s0 p0
  refine ⟨v0, fun s => ?_, fun p => ?_⟩
  · obtain ⟨v, a, b⟩ := h s p0
    rw [hB p0 v0 v b0 b]
    exact a
  · obtain ⟨v, a, b⟩ := h s0 p
    rw [hA s0 v0 v a0 a]
    exact b
theorem addm1 {a : Nat} (h : 1 ≤ a) : nI a + -(nI 1) = nI (a - 1) := by
  obtain ⟨b, rfl⟩ : ∃ b, a = b + 1 := ⟨a - 1, by omega⟩
  exact pk_m1 b
theorem held_both (v : Int32) (M : Nat) (hM : M + 1 < 2 ^ 31) : ∃ w : Nat, w ≤ M ∧ F_X7_held v (nI 0) (nI M) = some (nI w) ∧ F_X8_held v (nI 0) (nI M) = some (nI w) := by
  unfold F_X7_held F_X8_held
  rcases ix v (M + 1) hM with (h | h) | ⟨j, hj, rfl⟩
  · have h1 := Int32.lt_iff_toInt_lt.mp h
    have h0 : (0 : Int32).toInt = 0 := rfl
    rw [h0] at h1
    refine ⟨0, Nat.zero_le _, ?_, ?_⟩
    · rw [if_pos (show v < nI M from Int32.lt_iff_toInt_lt.mpr (by rw [nI_toInt (by omega)]; omega)), if_neg]
      intro h2
      have h3 := Int32.lt_iff_toInt_lt.mp h2
      rw [nI_toInt (by omega)] at h3
      omega
    · rw [if_neg]
      intro h2
      have h3 := Int32.le_iff_toInt_le.mp h2
      rw [nI_toInt (by omega)] at h3
      omega
  · have h1 := Int32.le_iff_toInt_le.mp h
    rw [nI_toInt (by omega)] at h1
    refine ⟨M, Nat.le_refl _, ?_, ?_⟩
    · rw [if_neg (show ¬ v < nI M from fun h2 => by
        have h3 := Int32.lt_iff_toInt_lt.mp h2
        rw [nI_toInt (by omega)] at h3
        omega)]
      by_cases h0 : M = 0
      · subst h0
        rw [if_neg (by decide)]
      · rw [if_pos ((nI_ltI (by omega) (by omega)).mpr (by omega))]
    · rw [if_pos (show nI 0 ≤ v from Int32.le_iff_toInt_le.mpr (by rw [nI_toInt (by omega)]; omega)), if_neg]
      intro h2
      have h3 := Int32.le_iff_toInt_le.mp h2
      rw [nI_toInt (by omega)] at h3
      omega
  · refine ⟨j, by omega, ?_, ?_⟩
    · by_cases h : j < M
      · by_cases h0 : 0 < j
        · simp (disch := omega) only [nI_ltI, if_pos]
        · have : j = 0 := by omega
          subst this
          simp (disch := omega) only [nI_ltI, if_pos, if_neg]
      · have : j = M := by omega
        subst this
        by_cases h0 : 0 < j
        · simp (disch := omega) only [nI_ltI, if_pos, if_neg]
        · have : j = 0 := by omega
          subst this
          simp (disch := omega) only [nI_ltI, if_pos, if_neg]
    · simp (disch := omega) only [nI_leI, if_pos]
def opsL : List Nat := [37, 38, 42, 43, 45, 47, 60, 61, 62, 124]
/-- one code of the class, one step of the model -/
def IvK (code act wth : Int32) : Prop := (∃ v : Nat, v ≤ 9999 ∧ code = nI v ∧ act = nI 1 ∧ wth = nI v) ∨ (∃ j : Nat, j < 3 ∧ code = -(nI (j + 1)) ∧ act = nI 2 ∧ wth = nI j) ∨ (code = -(nI 33) ∧ act = nI 3) ∨ (∃ o : Nat, o ∈ opsL ∧ code = -(nI o) ∧ act = nI o)
/-- the pile's depth: d k behind k steps -/
def IvD (n : Nat) (act : Nat → Int32) (d : Nat → Nat) : Prop := d 0 = 0 ∧ d n = 1 ∧ ∀ k, k < n → d k ≤ k ∧ ((act k = nI 1 ∨ act k = nI 2) → d (k + 1) = d k + 1) ∧ (act k = nI 3 → 1 ≤ d k ∧ d (k + 1) = d k) ∧ (¬ (act k = nI 1 ∨ act k = nI 2 ∨ act k = nI 3) → 2 ≤ d k ∧ d (k + 1) + 1 = d k)
def IvC (at_ : Nat) (cm : Int32) (cf : Nat → Int32) (row : Nat → Int32) : Prop := ∃ n : Nat, n ≤ 60 ∧ cm = nI n ∧ row at_ = nI n ∧ (∀ k, k < n → IvK (cf k) (row (at_ + 1 + k)) (row (at_ + 61 + k))) ∧ (n = 0 ∨ ∃ d, IvD n (fun k => row (at_ + 1 + k)) d)
theorem neg_lt0 : ∀ o, o ∈ [1, 2, 3, 33, 37, 38, 42, 43, 45, 47, 60, 61, 62, 124] → -(nI o) < nI 0 := by decide +kernel
theorem ops_no : ∀ o, o ∈ opsL → (¬ nI o = nI 1 ∧ ¬ nI o = nI 2 ∧ ¬ nI o = nI 3) ∧ (¬ -(nI o) = -(nI 1) ∧ ¬ -(nI o) = -(nI 2) ∧ ¬ -(nI o) = -(nI 3) ∧ ¬ -(nI o) = -(nI 33)) ∧ -(nI o) < nI 0 ∧ -(-(nI o)) = nI o := by decide +kernel
theorem xm_op {o : Nat} (ho : o ∈ opsL) (a b : Int32) : ∃ v : Int32, F_X6_joined (nI o) a b = some v ∧ F_X8_twoOf (nI o) a b = some v := by
  unfold F_X6_joined F_X8_twoOf F_X6_isTrue
  simp only [l0, l1, l2, l3, l4, l5, l6, l7, l8, l9, l10, l11, l12, l13, l14, l15, l16, l17, l18, l19, l20, l21, l22, l23, l24, l25, l26, l27, l28, l29, l30, l32, l33, l37, l38, l40, l41, l42, l43, l45, l47, l48, l57, l58, l60, l61, l62, l63, l64, l69, l70, l74, l88, l91, l96, l97, l98, l99, l100, l102, l115, l116, l121, l124, l134, l158, l279, l255, l400, l728, l729, l9999, l99999, l12345, l1103515245, l1000000000, l1000000001, l1000000002, l1000000003, l1000000004, l1000000005, l1000000006]
  simp only [opsL, List.mem_cons, List.not_mem_nil, or_false] at ho
  rcases ho with rfl | rfl | rfl | rfl | rfl | rfl | rfl | rfl | rfl | rfl
  · simp (disch := omega) only [nI_eq, if_pos, if_neg, ite_true, ite_false]
    by_cases h : b = nI 0
    · exact ⟨nI 0, by rw [if_pos h], by rw [if_pos h]⟩
    · exact ⟨_, by rw [if_neg h], by rw [if_neg h]⟩
  · simp (disch := omega) only [nI_eq, if_pos, if_neg, ite_true, ite_false]
    by_cases h : a = nI 0
    · exact ⟨nI 0, by rw [if_pos h, bd_some, if_pos rfl], by rw [if_pos h]⟩
    · by_cases h2 : b = nI 0
      · exact ⟨nI 0, by rw [if_neg h, if_pos h2, bd_some, if_pos rfl], by rw [if_neg h, if_pos h2]⟩
      · exact ⟨nI 1, by rw [if_neg h, if_neg h2, bd_some, if_neg (by decide)], by rw [if_neg h, if_neg h2]⟩
  · simp (disch := omega) only [nI_eq, if_pos, if_neg, ite_true, ite_false]
    exact ⟨_, rfl, rfl⟩
  · simp (disch := omega) only [nI_eq, if_pos, if_neg, ite_true, ite_false]
    exact ⟨_, rfl, rfl⟩
  · simp (disch := omega) only [nI_eq, if_pos, if_neg, ite_true, ite_false]
    exact ⟨_, rfl, rfl⟩
  · simp (disch := omega) only [nI_eq, if_pos, if_neg, ite_true, ite_false]
    by_cases h : b = nI 0
    · exact ⟨nI 0, by rw [if_pos h], by rw [if_pos h]⟩
    · exact ⟨_, by rw [if_neg h], by rw [if_neg h]⟩
  · simp (disch := omega) only [nI_eq, if_pos, if_neg, ite_true, ite_false]
    by_cases h : b ≤ a
    · exact ⟨nI 0, by rw [if_pos h, bd_some, if_pos rfl], by rw [if_pos h]⟩
    · exact ⟨nI 1, by rw [if_neg h, bd_some, if_neg (by decide)], by rw [if_neg h]⟩
  · simp (disch := omega) only [nI_eq, if_pos, if_neg, ite_true, ite_false]
    by_cases h : a = b
    · exact ⟨nI 1, by rw [if_pos h, bd_some, if_neg (by decide)], by rw [if_pos h]⟩
    · exact ⟨nI 0, by rw [if_neg h, bd_some, if_pos rfl], by rw [if_neg h]⟩
  · simp (disch := omega) only [nI_eq, if_pos, if_neg, ite_true, ite_false]
    by_cases h : a ≤ b
    · exact ⟨nI 0, by rw [if_pos h, bd_some, if_pos rfl], by rw [if_pos h]⟩
    · exact ⟨nI 1, by rw [if_neg h, bd_some, if_neg (by decide)], by rw [if_neg h]⟩
  · simp (disch := omega) only [nI_eq, if_pos, if_neg, ite_true, ite_false]
    by_cases h : a = nI 0
    · by_cases h2 : b = nI 0
      · exact ⟨nI 0, by rw [if_pos h, if_pos h2, bd_some, if_pos rfl], by rw [if_pos h, if_pos h2]⟩
      · exact ⟨nI 1, by rw [if_pos h, if_neg h2, bd_some, if_neg (by decide)], by rw [if_pos h, if_neg h2]⟩
    · exact ⟨nI 1, by rw [if_neg h, bd_some, if_neg (by decide)], by rw [if_neg h]⟩
theorem x_pop {d : Nat} (f : Nat → Int32) (h : 1 ≤ d) (hd : d ≤ 60) : F_X1_pop 60 (nI d) f = some (f (d - 1), nI (d - 1)) := by
  unfold F_X1_pop
  simp (disch := omega) only [l0, l1, l2, l3, l4, l5, l6, l7, l8, l9, l10, l11, l12, l13, l14, l15, l16, l17, l18, l19, l20, l21, l22, l23, l24, l25, l26, l27, l28, l29, l30, l32, l33, l37, l38, l40, l41, l42, l43, l45, l47, l48, l57, l58, l60, l61, l62, l63, l64, l69, l70, l74, l88, l91, l96, l97, l98, l99, l100, l102, l115, l116, l121, l124, l134, l158, l279, l255, l400, l728, l729, l9999, l99999, l12345, l1103515245, l1000000000, l1000000001, l1000000002, l1000000003, l1000000004, l1000000005, l1000000006, pk_sub]
  rw [x_get f (show d - 1 < d by omega) hd (by omega), bd_some]
  by_cases h2 : 0 < d - 1
  · rw [if_pos ((nI_ltI (by omega) (by omega)).mpr h2)]
  · have e : d - 1 = 0 := by omega
    rw [e, if_neg (by decide)]
theorem neg33 : -(nI 33) < nI 0 ∧ ¬ -(nI 33) = -(nI 1) ∧ ¬ -(nI 33) = -(nI 2) ∧ ¬ -(nI 33) = -(nI 3) := by decide +kernel
theorem neg1 : -(nI 1) < nI 0 := by decide +kernel
theorem neg2 : -(nI 2) < nI 0 ∧ ¬ -(nI 2) = -(nI 1) := by decide +kernel
theorem neg3 : -(nI 3) < nI 0 ∧ ¬ -(nI 3) = -(nI 1) ∧ ¬ -(nI 3) = -(nI 2) := by decide +kernel
section WK
variable {row facts cf s3 t3 : Nat → Int32} {a b c : Int32} {n at_ k dk : Nat}
theorem xw_push {kk : Int32 × Int32 × (Nat → Int32) → Option (Int32 × Int32 × (Nat → Int32))} (hk : k < n) (hn : n ≤ 60) (hdk : dk < 60) {v : Nat} (hv : v ≤ 9999) (e1 : cf k = nI v) : B_X6_work_10 60 (nI n) cf a b c kk (nI k, nI dk, s3) = kk (nI (k + 1), nI (dk + 1), upd s3 dk (nI v)) := by
  unfold B_X6_work_10
  simp (disch := omega) only [F_X1_many, l0, l1, l2, l3, l4, l5, l6, l7, l8, l9, l10, l11, l12, l13, l14, l15, l16, l17, l18, l19, l20, l21, l22, l23, l24, l25, l26, l27, l28, l29, l30, l32, l33, l37, l38, l40, l41, l42, l43, l45, l47, l48, l57, l58, l60, l61, l62, l63, l64, l69, l70, l74, l88, l91, l96, l97, l98, l99, l100, l102, l115, l116, l121, l124, l134, l158, l279, l255, l400, l728, l729, l9999, l99999, l12345, l1103515245, l1000000000, l1000000001, l1000000002, l1000000003, l1000000004, l1000000005, l1000000006, pk_us, nI_add, pk_mul, pk_sub, pk_div, nI_clamp, nI_ltI, nI_leI, nI_eq, bd_some, Nat.not_lt_zero, false_or, or_false, true_or, or_true, if_pos, if_neg, ite_true, ite_false, if_true, if_false, Nat.add_zero, x_get cf hk hn, e1, x_add]
theorem xw_n0 {kk : Int32 × Int32 × (Nat → Int32) → Option (Int32 × Int32 × (Nat → Int32))} (hk : k < n) (hn : n ≤ 60) (hdk : dk < 60) (e1 : cf k = -(nI 1)) : B_X6_work_10 60 (nI n) cf a b c kk (nI k, nI dk, s3) = kk (nI (k + 1), nI (dk + 1), upd s3 dk a) := by
  unfold B_X6_work_10
  simp (disch := omega) only [F_X1_many, l0, l1, l2, l3, l4, l5, l6, l7, l8, l9, l10, l11, l12, l13, l14, l15, l16, l17, l18, l19, l20, l21, l22, l23, l24, l25, l26, l27, l28, l29, l30, l32, l33, l37, l38, l40, l41, l42, l43, l45, l47, l48, l57, l58, l60, l61, l62, l63, l64, l69, l70, l74, l88, l91, l96, l97, l98, l99, l100, l102, l115, l116, l121, l124, l134, l158, l279, l255, l400, l728, l729, l9999, l99999, l12345, l1103515245, l1000000000, l1000000001, l1000000002, l1000000003, l1000000004, l1000000005, l1000000006, nI_leI, nI_add, if_neg, bd_some, x_get cf hk hn, e1, x_add]
  simp only [if_pos neg1, ite_true]
theorem xw_n1 {kk : Int32 × Int32 × (Nat → Int32) → Option (Int32 × Int32 × (Nat → Int32))} (hk : k < n) (hn : n ≤ 60) (hdk : dk < 60) (e1 : cf k = -(nI 2)) : B_X6_work_10 60 (nI n) cf a b c kk (nI k, nI dk, s3) = kk (nI (k + 1), nI (dk + 1), upd s3 dk b) := by
  unfold B_X6_work_10
  simp (disch := omega) only [F_X1_many, l0, l1, l2, l3, l4, l5, l6, l7, l8, l9, l10, l11, l12, l13, l14, l15, l16, l17, l18, l19, l20, l21, l22, l23, l24, l25, l26, l27, l28, l29, l30, l32, l33, l37, l38, l40, l41, l42, l43, l45, l47, l48, l57, l58, l60, l61, l62, l63, l64, l69, l70, l74, l88, l91, l96, l97, l98, l99, l100, l102, l115, l116, l121, l124, l134, l158, l279, l255, l400, l728, l729, l9999, l99999, l12345, l1103515245, l1000000000, l1000000001, l1000000002, l1000000003, l1000000004, l1000000005, l1000000006, nI_leI, nI_add, bd_some, x_get cf hk hn, e1, x_add]
  rw [if_neg (by omega), if_pos neg2.1, if_neg neg2.2]
  simp only [ite_true]
theorem xw_n2 {kk : Int32 × Int32 × (Nat → Int32) → Option (Int32 × Int32 × (Nat → Int32))} (hk : k < n) (hn : n ≤ 60) (hdk : dk < 60) (e1 : cf k = -(nI 3)) : B_X6_work_10 60 (nI n) cf a b c kk (nI k, nI dk, s3) = kk (nI (k + 1), nI (dk + 1), upd s3 dk c) := by
  unfold B_X6_work_10
  simp (disch := omega) only [F_X1_many, l0, l1, l2, l3, l4, l5, l6, l7, l8, l9, l10, l11, l12, l13, l14, l15, l16, l17, l18, l19, l20, l21, l22, l23, l24, l25, l26, l27, l28, l29, l30, l32, l33, l37, l38, l40, l41, l42, l43, l45, l47, l48, l57, l58, l60, l61, l62, l63, l64, l69, l70, l74, l88, l91, l96, l97, l98, l99, l100, l102, l115, l116, l121, l124, l134, l158, l279, l255, l400, l728, l729, l9999, l99999, l12345, l1103515245, l1000000000, l1000000001, l1000000002, l1000000003, l1000000004, l1000000005, l1000000006, nI_leI, nI_add, bd_some, x_get cf hk hn, e1, x_add]
  rw [if_neg (by omega), if_pos neg3.1, if_neg neg3.2.1, if_neg neg3.2.2]
  simp only [ite_true]
theorem xw_deny {kk : Int32 × Int32 × (Nat → Int32) → Option (Int32 × Int32 × (Nat → Int32))} (hk : k < n) (hn : n ≤ 60) (h1 : 1 ≤ dk) (hdk : dk < 60) (e1 : cf k = -(nI 33)) : B_X6_work_10 60 (nI n) cf a b c kk (nI k, nI dk, s3) = kk (nI (k + 1), nI (dk - 1 + 1), upd s3 (dk - 1) (if s3 (dk - 1) = nI 0 then nI 1 else nI 0)) := by
  unfold B_X6_work_10
  simp (disch := omega) only [F_X1_many, l0, l1, l2, l3, l4, l5, l6, l7, l8, l9, l10, l11, l12, l13, l14, l15, l16, l17, l18, l19, l20, l21, l22, l23, l24, l25, l26, l27, l28, l29, l30, l32, l33, l37, l38, l40, l41, l42, l43, l45, l47, l48, l57, l58, l60, l61, l62, l63, l64, l69, l70, l74, l88, l91, l96, l97, l98, l99, l100, l102, l115, l116, l121, l124, l134, l158, l279, l255, l400, l728, l729, l9999, l99999, l12345, l1103515245, l1000000000, l1000000001, l1000000002, l1000000003, l1000000004, l1000000005, l1000000006, nI_leI, nI_add, bd_some, x_get cf hk hn, e1, x_add, x_pop]
  rw [if_neg (by omega), if_pos neg33.1, if_neg neg33.2.1, if_neg neg33.2.2.1, if_neg neg33.2.2.2]
  simp only [ite_true]
  by_cases h0 : s3 (dk - 1) = nI 0
  · rw [if_pos h0, if_pos h0]
  · rw [if_neg h0, if_neg h0]
theorem xw_op {kk : Int32 × Int32 × (Nat → Int32) → Option (Int32 × Int32 × (Nat → Int32))} (hk : k < n) (hn : n ≤ 60) (h1 : 2 ≤ dk) (hdk : dk < 60) {o : Nat} (ho : o ∈ opsL) (e1 : cf k = -(nI o)) {v : Int32} (hv : F_X6_joined (nI o) (s3 (dk - 1 - 1)) (s3 (dk - 1)) = some v) : B_X6_work_10 60 (nI n) cf a b c kk (nI k, nI dk, s3) = kk (nI (k + 1), nI (dk - 1 - 1 + 1), upd s3 (dk - 1 - 1) v) := by
  obtain ⟨⟨n1, n2, n3⟩, ⟨m1, m2, m3, m4⟩, hlt, hnn⟩ := ops_no o ho
  unfold B_X6_work_10
  simp (disch := omega) only [F_X1_many, l0, l1, l2, l3, l4, l5, l6, l7, l8, l9, l10, l11, l12, l13, l14, l15, l16, l17, l18, l19, l20, l21, l22, l23, l24, l25, l26, l27, l28, l29, l30, l32, l33, l37, l38, l40, l41, l42, l43, l45, l47, l48, l57, l58, l60, l61, l62, l63, l64, l69, l70, l74, l88, l91, l96, l97, l98, l99, l100, l102, l115, l116, l121, l124, l134, l158, l279, l255, l400, l728, l729, l9999, l99999, l12345, l1103515245, l1000000000, l1000000001, l1000000002, l1000000003, l1000000004, l1000000005, l1000000006, nI_leI, nI_add, bd_some, x_get cf hk hn, e1, x_add, x_pop]
  rw [if_neg (by omega), if_pos hlt, if_neg m1, if_neg m2, if_neg m3, if_neg m4, hnn, hv, bd_some]
theorem mw_push {kk : Int32 × Int32 × (Nat → Int32) → Option (Int32 × (Nat → Int32))} (hat : at_ + 121 ≤ 400) (hr : row at_ = nI n) (hk : k < n) (hn : n ≤ 60) (hdk : dk < 60) {v : Nat} (e2 : row (at_ + 1 + k) = nI 1) (e3 : row (at_ + 61 + k) = nI v) : B_X8_works_4 row facts (nI at_) kk (nI dk, nI k, t3) = kk (nI (dk + 1), nI (k + 1), upd t3 dk (nI v)) := by
  unfold B_X8_works_4
  simp (disch := omega) only [l0, l1, l2, l3, l4, l5, l6, l7, l8, l9, l10, l11, l12, l13, l14, l15, l16, l17, l18, l19, l20, l21, l22, l23, l24, l25, l26, l27, l28, l29, l30, l32, l33, l37, l38, l40, l41, l42, l43, l45, l47, l48, l57, l58, l60, l61, l62, l63, l64, l69, l70, l74, l88, l91, l96, l97, l98, l99, l100, l102, l115, l116, l121, l124, l134, l158, l279, l255, l400, l728, l729, l9999, l99999, l12345, l1103515245, l1000000000, l1000000001, l1000000002, l1000000003, l1000000004, l1000000005, l1000000006, pk_us, nI_add, pk_mul, pk_sub, pk_div, nI_clamp, nI_ltI, nI_leI, nI_eq, bd_some, Nat.not_lt_zero, false_or, or_false, true_or, or_true, if_pos, if_neg, ite_true, ite_false, if_true, if_false, Nat.add_zero, hr, e2, e3]
theorem mw_name {kk : Int32 × Int32 × (Nat → Int32) → Option (Int32 × (Nat → Int32))} (hat : at_ + 121 ≤ 400) (hr : row at_ = nI n) (hk : k < n) (hn : n ≤ 60) (hdk : dk < 60) {j : Nat} (hj : j < 3) (e2 : row (at_ + 1 + k) = nI 2) (e3 : row (at_ + 61 + k) = nI j) : B_X8_works_4 row facts (nI at_) kk (nI dk, nI k, t3) = kk (nI (dk + 1), nI (k + 1), upd t3 dk (facts j)) := by
  unfold B_X8_works_4
  simp (disch := omega) only [l0, l1, l2, l3, l4, l5, l6, l7, l8, l9, l10, l11, l12, l13, l14, l15, l16, l17, l18, l19, l20, l21, l22, l23, l24, l25, l26, l27, l28, l29, l30, l32, l33, l37, l38, l40, l41, l42, l43, l45, l47, l48, l57, l58, l60, l61, l62, l63, l64, l69, l70, l74, l88, l91, l96, l97, l98, l99, l100, l102, l115, l116, l121, l124, l134, l158, l279, l255, l400, l728, l729, l9999, l99999, l12345, l1103515245, l1000000000, l1000000001, l1000000002, l1000000003, l1000000004, l1000000005, l1000000006, pk_us, nI_add, pk_mul, pk_sub, pk_div, nI_clamp, nI_ltI, nI_leI, nI_eq, bd_some, Nat.not_lt_zero, false_or, or_false, true_or, or_true, if_pos, if_neg, ite_true, ite_false, if_true, if_false, Nat.add_zero, hr, e2, e3]
theorem mw_deny {kk : Int32 × Int32 × (Nat → Int32) → Option (Int32 × (Nat → Int32))} (hat : at_ + 121 ≤ 400) (hr : row at_ = nI n) (hk : k < n) (hn : n ≤ 60) (h1 : 1 ≤ dk) (hdk : dk < 60) (e2 : row (at_ + 1 + k) = nI 3) : B_X8_works_4 row facts (nI at_) kk (nI dk, nI k, t3) = kk (nI dk, nI (k + 1), upd t3 (dk - 1) (if t3 (dk - 1) = nI 0 then nI 1 else nI 0)) := by
  unfold B_X8_works_4
  by_cases h0 : t3 (dk - 1) = nI 0
  · simp (disch := omega) only [l0, l1, l2, l3, l4, l5, l6, l7, l8, l9, l10, l11, l12, l13, l14, l15, l16, l17, l18, l19, l20, l21, l22, l23, l24, l25, l26, l27, l28, l29, l30, l32, l33, l37, l38, l40, l41, l42, l43, l45, l47, l48, l57, l58, l60, l61, l62, l63, l64, l69, l70, l74, l88, l91, l96, l97, l98, l99, l100, l102, l115, l116, l121, l124, l134, l158, l279, l255, l400, l728, l729, l9999, l99999, l12345, l1103515245, l1000000000, l1000000001, l1000000002, l1000000003, l1000000004, l1000000005, l1000000006, pk_us, nI_add, pk_mul, pk_sub, pk_div, nI_clamp, nI_ltI, nI_leI, nI_eq, bd_some, Nat.not_lt_zero, false_or, or_false, true_or, or_true, if_pos, if_neg, ite_true, ite_false, if_true, if_false, Nat.add_zero, hr, e2, h0]
  · simp (disch := omega) only [l0, l1, l2, l3, l4, l5, l6, l7, l8, l9, l10, l11, l12, l13, l14, l15, l16, l17, l18, l19, l20, l21, l22, l23, l24, l25, l26, l27, l28, l29, l30, l32, l33, l37, l38, l40, l41, l42, l43, l45, l47, l48, l57, l58, l60, l61, l62, l63, l64, l69, l70, l74, l88, l91, l96, l97, l98, l99, l100, l102, l115, l116, l121, l124, l134, l158, l279, l255, l400, l728, l729, l9999, l99999, l12345, l1103515245, l1000000000, l1000000001, l1000000002, l1000000003, l1000000004, l1000000005, l1000000006, pk_us, nI_add, pk_mul, pk_sub, pk_div, nI_clamp, nI_ltI, nI_leI, nI_eq, bd_some, Nat.not_lt_zero, false_or, or_false, true_or, or_true, if_pos, if_neg, ite_true, ite_false, if_true, if_false, Nat.add_zero, hr, e2, h0]
theorem mw_op {kk : Int32 × Int32 × (Nat → Int32) → Option (Int32 × (Nat → Int32))} (hat : at_ + 121 ≤ 400) (hr : row at_ = nI n) (hk : k < n) (hn : n ≤ 60) (h1 : 2 ≤ dk) (hdk : dk < 60) {o : Nat} (ho : o ∈ opsL) (e2 : row (at_ + 1 + k) = nI o) {v : Int32} (hv : F_X8_twoOf (nI o) (t3 (dk - 1 - 1)) (t3 (dk - 1)) = some v) : B_X8_works_4 row facts (nI at_) kk (nI dk, nI k, t3) = kk (nI (dk - 1), nI (k + 1), upd t3 (dk - 1 - 1) v) := by
  obtain ⟨⟨n1, n2, n3⟩, -, -, -⟩ := ops_no o ho
  unfold B_X8_works_4
  simp (disch := omega) only [l0, l1, l2, l3, l4, l5, l6, l7, l8, l9, l10, l11, l12, l13, l14, l15, l16, l17, l18, l19, l20, l21, l22, l23, l24, l25, l26, l27, l28, l29, l30, l32, l33, l37, l38, l40, l41, l42, l43, l45, l47, l48, l57, l58, l60, l61, l62, l63, l64, l69, l70, l74, l88, l91, l96, l97, l98, l99, l100, l102, l115, l116, l121, l124, l134, l158, l279, l255, l400, l728, l729, l9999, l99999, l12345, l1103515245, l1000000000, l1000000001, l1000000002, l1000000003, l1000000004, l1000000005, l1000000006, hr, e2, addm1, pk_sub, nI_add, nI_clamp, nI_ltI, nI_leI, Nat.not_lt_zero, false_or, if_neg n1, if_neg n2, if_neg n3, if_neg, hv, bd_some]
end WK
theorem xm_work {row stack facts pile cf : Nat → Int32} {a b c : Int32} {n at_ : Nat} {d : Nat → Nat} (hn0 : 1 ≤ n) (hn : n ≤ 60) (hat : at_ + 121 ≤ 400) (hr : row at_ = nI n) (hK : ∀ k, k < n → IvK (cf k) (row (at_ + 1 + k)) (row (at_ + 61 + k))) (hD : IvD n (fun k => row (at_ + 1 + k)) d) (f0 : facts 0 = a) (f1 : facts 1 = b) (f2 : facts 2 = c) : ∃ (v sm : Int32) (sf pf : Nat → Int32), F_X6_work 60 stack (nI n) cf a b c = some (v, sm, sf) ∧ F_X8_works row facts pile (nI at_) = some (v, pf) := by
  unfold F_X6_work F_X8_works F_X1_clear
  rw [bd_some]
  obtain ⟨d0, dn, hd⟩ := hD
  refine lp_two (body := B_X6_work_10 60 (nI n) cf a b c) (body' := B_X8_works_4 row facts (nI at_)) (fun k s t => s.1 = nI k ∧ s.2.1 = nI (d k) ∧ t.1 = nI (d k) ∧ t.2.1 = nI k ∧ ∀ x, x < d k → s.2.2 x = t.2.2 x) (fun o o' => ∃ (v sm : Int32) (sf pf : Nat → Int32), o = some (v, sm, sf) ∧ o' = some (v, pf)) n (by omega) ⟨rfl, by rw [d0]; rfl, by rw [d0]; rfl, rfl, fun x hx => by rw [d0] at hx; omega⟩ ?_ ?_
  · rintro k ⟨s1, s2, s3⟩ ⟨t1, t2, t3⟩ hk ⟨h1, h2, h3, h4, h5⟩
    simp only at h1 h2 h3 h4 h5
    subst h1 h2 h3 h4
    obtain ⟨hdk, hp, hdn, hop⟩ := hd k hk
    have hup : ∀ (m e : Nat) (v : Int32), m ≤ d k → e ≤ m + 1 → ∀ x, x < e → upd s3 m v x = upd t3 m v x := by
      intro m e v hm he x hx
      by_cases hxx : x = m
      · subst hxx; rw [pk_us, pk_us]
      · rw [pk_un hxx, pk_un hxx]; exact h5 x (by omega)
    refine Or.inr ?_
    rcases hK k hk with ⟨v, hv, e1, e2, e3⟩ | ⟨j, hj, e1, e2, e3⟩ | ⟨e1, e2⟩ | ⟨o, ho, e1, e2⟩
    · have e4 := hp (Or.inl e2)
      exact ⟨(nI (k + 1), nI (d k + 1), upd s3 (d k) (nI v)), (nI (d k + 1), nI (k + 1), upd t3 (d k) (nI v)), ⟨rfl, by rw [e4], by rw [e4], rfl, hup _ _ _ (Nat.le_refl _) (by omega)⟩, fun kk => xw_push hk hn (by omega) hv e1, fun kk => mw_push hat hr hk hn (by omega) e2 e3⟩
    · have e4 := hp (Or.inr e2)
      rcases (show j = 0 ∨ j = 1 ∨ j = 2 by omega) with rfl | rfl | rfl
      · exact ⟨(nI (k + 1), nI (d k + 1), upd s3 (d k) a), (nI (d k + 1), nI (k + 1), upd t3 (d k) a), ⟨rfl, by rw [e4], by rw [e4], rfl, hup _ _ _ (Nat.le_refl _) (by omega)⟩, fun kk => xw_n0 hk hn (by omega) e1, fun kk => by rw [← f0]; exact mw_name hat hr hk hn (by omega) (by omega) e2 e3⟩
      · exact ⟨(nI (k + 1), nI (d k + 1), upd s3 (d k) b), (nI (d k + 1), nI (k + 1), upd t3 (d k) b), ⟨rfl, by rw [e4], by rw [e4], rfl, hup _ _ _ (Nat.le_refl _) (by omega)⟩, fun kk => xw_n1 hk hn (by omega) e1, fun kk => by rw [← f1]; exact mw_name hat hr hk hn (by omega) (by omega) e2 e3⟩
      · exact ⟨(nI (k + 1), nI (d k + 1), upd s3 (d k) c), (nI (d k + 1), nI (k + 1), upd t3 (d k) c), ⟨rfl, by rw [e4], by rw [e4], rfl, hup _ _ _ (Nat.le_refl _) (by omega)⟩, fun kk => xw_n2 hk hn (by omega) e1, fun kk => by rw [← f2]; exact mw_name hat hr hk hn (by omega) (by omega) e2 e3⟩
    · obtain ⟨e3, e4⟩ := hdn e2
      have hv : s3 (d k - 1) = t3 (d k - 1) := h5 _ (by omega)
      exact ⟨(nI (k + 1), nI (d k - 1 + 1), upd s3 (d k - 1) (if t3 (d k - 1) = nI 0 then nI 1 else nI 0)), (nI (d k), nI (k + 1), upd t3 (d k - 1) (if t3 (d k - 1) = nI 0 then nI 1 else nI 0)), ⟨rfl, by rw [e4, Nat.sub_add_cancel e3], by rw [e4], rfl, hup _ _ _ (by omega) (by omega)⟩, fun kk => by rw [← hv]; exact xw_deny hk hn e3 (by omega) e1, fun kk => mw_deny hat hr hk hn e3 (by omega) e2⟩
    · obtain ⟨⟨n1, n2, n3⟩, -, -, -⟩ := ops_no o ho
      obtain ⟨e3, e4⟩ := hop (by show ¬ (row (at_ + 1 + k) = nI 1 ∨ row (at_ + 1 + k) = nI 2 ∨ row (at_ + 1 + k) = nI 3); rw [e2]; rintro (h | h | h); exact n1 h; exact n2 h; exact n3 h)
      obtain ⟨v, hv1, hv2⟩ := xm_op ho (t3 (d k - 1 - 1)) (t3 (d k - 1))
      have hva : s3 (d k - 1) = t3 (d k - 1) := h5 _ (by omega)
      have hvb : s3 (d k - 1 - 1) = t3 (d k - 1 - 1) := h5 _ (by omega)
      exact ⟨(nI (k + 1), nI (d k - 1 - 1 + 1), upd s3 (d k - 1 - 1) v), (nI (d k - 1), nI (k + 1), upd t3 (d k - 1 - 1) v), ⟨rfl, by rw [show d k - 1 - 1 + 1 = d (k + 1) by omega], by rw [show d k - 1 = d (k + 1) by omega], rfl, hup _ _ _ (by omega) (by omega)⟩, fun kk => xw_op hk hn e3 (by omega) ho e1 (by rw [hva, hvb]; exact hv1), fun kk => mw_op hat hr hk hn e3 (by omega) ho e2 hv2⟩
  · rintro ⟨s1, s2, s3⟩ ⟨t1, t2, t3⟩ ⟨h1, h2, h3, h4, h5⟩ kk kk'
    simp only at h1 h2 h3 h4 h5
    subst h1 h2 h3 h4
    rw [dn] at h5 ⊢
    refine ⟨s3 0, nI 0, s3, t3, ?_, ?_⟩
    · unfold B_X6_work_10
      simp (disch := omega) only [F_X1_many, l0, l1, l2, l3, l4, l5, l6, l7, l8, l9, l10, l11, l12, l13, l14, l15, l16, l17, l18, l19, l20, l21, l22, l23, l24, l25, l26, l27, l28, l29, l30, l32, l33, l37, l38, l40, l41, l42, l43, l45, l47, l48, l57, l58, l60, l61, l62, l63, l64, l69, l70, l74, l88, l91, l96, l97, l98, l99, l100, l102, l115, l116, l121, l124, l134, l158, l279, l255, l400, l728, l729, l9999, l99999, l12345, l1103515245, l1000000000, l1000000001, l1000000002, l1000000003, l1000000004, l1000000005, l1000000006, pk_us, nI_add, pk_mul, pk_sub, pk_div, nI_clamp, nI_ltI, nI_leI, nI_eq, bd_some, Nat.not_lt_zero, false_or, or_false, true_or, or_true, if_pos, if_neg, ite_true, ite_false, if_true, if_false, Nat.add_zero, x_pop]
    · unfold B_X8_works_4
      simp (disch := omega) only [l0, l1, l2, l3, l4, l5, l6, l7, l8, l9, l10, l11, l12, l13, l14, l15, l16, l17, l18, l19, l20, l21, l22, l23, l24, l25, l26, l27, l28, l29, l30, l32, l33, l37, l38, l40, l41, l42, l43, l45, l47, l48, l57, l58, l60, l61, l62, l63, l64, l69, l70, l74, l88, l91, l96, l97, l98, l99, l100, l102, l115, l116, l121, l124, l134, l158, l279, l255, l400, l728, l729, l9999, l99999, l12345, l1103515245, l1000000000, l1000000001, l1000000002, l1000000003, l1000000004, l1000000005, l1000000006, pk_us, nI_add, pk_mul, pk_sub, pk_div, nI_clamp, nI_ltI, nI_leI, nI_eq, bd_some, Nat.not_lt_zero, false_or, or_false, true_or, or_true, if_pos, if_neg, ite_true, ite_false, if_true, if_false, Nat.add_zero, hr]
      rw [h5 0 (by omega)]
theorem xm_given0 {row cf : Nat → Int32} {cm : Int32} (hC : IvC 158 cm cf row) (a b c : Int32) : ∃ w : Nat, w ≤ 1 ∧ (∀ (sm : Int32) (sf : Nat → Int32), ∃ (sm' : Int32) (sf' : Nat → Int32), F_X7_given_0 cm cf sm sf a b c = some (nI w, sm', sf')) ∧ ∀ facts pile : Nat → Int32, ∃ facts' pile' : Nat → Int32, F_X8_gives row facts pile (nI 0) a b c = some (nI w, facts', pile') := by
  obtain ⟨n, hn, rfl, hr, hK, hD⟩ := hC
  have key : ∀ (st : Int32 × (Nat → Int32)) (fp : (Nat → Int32) × (Nat → Int32)), ∃ v : Int32, ((∃ w : Nat, w ≤ 1 ∧ v = nI w) ∧ ∃ (sm' : Int32) (sf' : Nat → Int32), F_X7_given_0 (nI n) cf st.1 st.2 a b c = some (v, sm', sf')) ∧ ∃ facts' pile' : Nat → Int32, F_X8_gives row fp.1 fp.2 (nI 0) a b c = some (v, facts', pile') := by
    rintro ⟨sm, sf⟩ ⟨facts, pile⟩
    unfold F_X7_given_0 F_X8_gives F_X3_codesOf_0 F_X1_many
    rcases Nat.eq_zero_or_pos n with rfl | h0
    · obtain ⟨w, hw, e1, e2⟩ := held_both a 1 (by omega)
      refine ⟨nI w, ⟨⟨w, hw, rfl⟩, sm, sf, ?_⟩, upd (upd (upd facts 0 a) 1 b) 2 c, pile, ?_⟩
      · simp (disch := omega) only [l0, l1, l2, l3, l4, l5, l6, l7, l8, l9, l10, l11, l12, l13, l14, l15, l16, l17, l18, l19, l20, l21, l22, l23, l24, l25, l26, l27, l28, l29, l30, l32, l33, l37, l38, l40, l41, l42, l43, l45, l47, l48, l57, l58, l60, l61, l62, l63, l64, l69, l70, l74, l88, l91, l96, l97, l98, l99, l100, l102, l115, l116, l121, l124, l134, l158, l279, l255, l400, l728, l729, l9999, l99999, l12345, l1103515245, l1000000000, l1000000001, l1000000002, l1000000003, l1000000004, l1000000005, l1000000006, pk_us, nI_add, pk_mul, pk_sub, pk_div, nI_clamp, nI_ltI, nI_leI, nI_eq, bd_some, Nat.not_lt_zero, false_or, or_false, true_or, or_true, if_pos, if_neg, ite_true, ite_false, if_true, if_false, Nat.add_zero, e1]
      · simp (disch := omega) only [l0, l1, l2, l3, l4, l5, l6, l7, l8, l9, l10, l11, l12, l13, l14, l15, l16, l17, l18, l19, l20, l21, l22, l23, l24, l25, l26, l27, l28, l29, l30, l32, l33, l37, l38, l40, l41, l42, l43, l45, l47, l48, l57, l58, l60, l61, l62, l63, l64, l69, l70, l74, l88, l91, l96, l97, l98, l99, l100, l102, l115, l116, l121, l124, l134, l158, l279, l255, l400, l728, l729, l9999, l99999, l12345, l1103515245, l1000000000, l1000000001, l1000000002, l1000000003, l1000000004, l1000000005, l1000000006, pk_us, nI_add, pk_mul, pk_sub, pk_div, nI_clamp, nI_ltI, nI_leI, nI_eq, bd_some, Nat.not_lt_zero, false_or, or_false, true_or, or_true, if_pos, if_neg, ite_true, ite_false, if_true, if_false, Nat.add_zero, Nat.mul_zero, hr, e2]
    · obtain ⟨d, hd⟩ := hD.resolve_left (by omega)
      obtain ⟨v, sm', sf', pf, e1, e2⟩ := xm_work (stack := sf) (facts := upd (upd (upd facts 0 a) 1 b) 2 c) (pile := pile) (a := a) (b := b) (c := c) h0 hn (by omega) hr hK hd (by rw [pk_un (by omega), pk_un (by omega), pk_us]) (by rw [pk_un (by omega), pk_us]) pk_us
      obtain ⟨w, hw, g1, g2⟩ := held_both v 1 (by omega)
      refine ⟨nI w, ⟨⟨w, hw, rfl⟩, sm', sf', ?_⟩, upd (upd (upd facts 0 a) 1 b) 2 c, pf, ?_⟩
      · simp (disch := omega) only [l0, l1, l2, l3, l4, l5, l6, l7, l8, l9, l10, l11, l12, l13, l14, l15, l16, l17, l18, l19, l20, l21, l22, l23, l24, l25, l26, l27, l28, l29, l30, l32, l33, l37, l38, l40, l41, l42, l43, l45, l47, l48, l57, l58, l60, l61, l62, l63, l64, l69, l70, l74, l88, l91, l96, l97, l98, l99, l100, l102, l115, l116, l121, l124, l134, l158, l279, l255, l400, l728, l729, l9999, l99999, l12345, l1103515245, l1000000000, l1000000001, l1000000002, l1000000003, l1000000004, l1000000005, l1000000006, pk_us, nI_add, pk_mul, pk_sub, pk_div, nI_clamp, nI_ltI, nI_leI, nI_eq, bd_some, Nat.not_lt_zero, false_or, or_false, true_or, or_true, if_pos, if_neg, ite_true, ite_false, if_true, if_false, Nat.add_zero, e1, g1]
      · simp (disch := omega) only [l0, l1, l2, l3, l4, l5, l6, l7, l8, l9, l10, l11, l12, l13, l14, l15, l16, l17, l18, l19, l20, l21, l22, l23, l24, l25, l26, l27, l28, l29, l30, l32, l33, l37, l38, l40, l41, l42, l43, l45, l47, l48, l57, l58, l60, l61, l62, l63, l64, l69, l70, l74, l88, l91, l96, l97, l98, l99, l100, l102, l115, l116, l121, l124, l134, l158, l279, l255, l400, l728, l729, l9999, l99999, l12345, l1103515245, l1000000000, l1000000001, l1000000002, l1000000003, l1000000004, l1000000005, l1000000006, pk_us, nI_add, pk_mul, pk_sub, pk_div, nI_clamp, nI_ltI, nI_leI, nI_eq, bd_some, Nat.not_lt_zero, false_or, or_false, true_or, or_true, if_pos, if_neg, ite_true, ite_false, if_true, if_false, Nat.add_zero, Nat.mul_zero, hr, e2, g2]
  obtain ⟨v, h1, h2⟩ := uni (S := Int32 × (Nat → Int32)) (P := (Nat → Int32) × (Nat → Int32)) (A := fun st v => (∃ w : Nat, w ≤ 1 ∧ v = nI w) ∧ ∃ (sm' : Int32) (sf' : Nat → Int32), F_X7_given_0 (nI n) cf st.1 st.2 a b c = some (v, sm', sf')) (B := fun fp v => ∃ facts' pile' : Nat → Int32, F_X8_gives row fp.1 fp.2 (nI 0) a b c = some (v, facts', pile')) (nI 0, fun _ => nI 0) (fun _ => nI 0, fun _ => nI 0) (fun s v w h1 h2 => by
    obtain ⟨_, a1, a2, h1⟩ := h1
    obtain ⟨_, b1, b2, h2⟩ := h2
    rw [h1] at h2
    exact congrArg (fun o => o.1) (Option.some.inj h2)) (fun s v w h1 h2 => by
    obtain ⟨a1, a2, h1⟩ := h1
    obtain ⟨b1, b2, h2⟩ := h2
    rw [h1] at h2
    exact congrArg (fun o => o.1) (Option.some.inj h2)) key
  obtain ⟨⟨w, hw, rfl⟩, _⟩ := h1 (nI 0, fun _ => nI 0)
  exact ⟨w, hw, fun sm sf => (h1 (sm, sf)).2, fun f p => h2 (f, p)⟩
theorem xm_given1 {row cf : Nat → Int32} {cm : Int32} (hC : IvC 279 cm cf row) (a b c : Int32) : ∃ w : Nat, w ≤ 99 ∧ (∀ (sm : Int32) (sf : Nat → Int32), ∃ (sm' : Int32) (sf' : Nat → Int32), F_X7_given_1 cm cf sm sf a b c = some (nI w, sm', sf')) ∧ ∀ facts pile : Nat → Int32, ∃ facts' pile' : Nat → Int32, F_X8_gives row facts pile (nI 1) a b c = some (nI w, facts', pile') := by
  obtain ⟨n, hn, rfl, hr, hK, hD⟩ := hC
  have key : ∀ (st : Int32 × (Nat → Int32)) (fp : (Nat → Int32) × (Nat → Int32)), ∃ v : Int32, ((∃ w : Nat, w ≤ 99 ∧ v = nI w) ∧ ∃ (sm' : Int32) (sf' : Nat → Int32), F_X7_given_1 (nI n) cf st.1 st.2 a b c = some (v, sm', sf')) ∧ ∃ facts' pile' : Nat → Int32, F_X8_gives row fp.1 fp.2 (nI 1) a b c = some (v, facts', pile') := by
    rintro ⟨sm, sf⟩ ⟨facts, pile⟩
    unfold F_X7_given_1 F_X8_gives F_X3_codesOf_1 F_X1_many
    rcases Nat.eq_zero_or_pos n with rfl | h0
    · obtain ⟨w, hw, e1, e2⟩ := held_both a 99 (by omega)
      refine ⟨nI w, ⟨⟨w, hw, rfl⟩, sm, sf, ?_⟩, upd (upd (upd facts 0 a) 1 b) 2 c, pile, ?_⟩
      · simp (disch := omega) only [l0, l1, l2, l3, l4, l5, l6, l7, l8, l9, l10, l11, l12, l13, l14, l15, l16, l17, l18, l19, l20, l21, l22, l23, l24, l25, l26, l27, l28, l29, l30, l32, l33, l37, l38, l40, l41, l42, l43, l45, l47, l48, l57, l58, l60, l61, l62, l63, l64, l69, l70, l74, l88, l91, l96, l97, l98, l99, l100, l102, l115, l116, l121, l124, l134, l158, l279, l255, l400, l728, l729, l9999, l99999, l12345, l1103515245, l1000000000, l1000000001, l1000000002, l1000000003, l1000000004, l1000000005, l1000000006, pk_us, nI_add, pk_mul, pk_sub, pk_div, nI_clamp, nI_ltI, nI_leI, nI_eq, bd_some, Nat.not_lt_zero, false_or, or_false, true_or, or_true, if_pos, if_neg, ite_true, ite_false, if_true, if_false, Nat.add_zero, e1]
      · simp (disch := omega) only [l0, l1, l2, l3, l4, l5, l6, l7, l8, l9, l10, l11, l12, l13, l14, l15, l16, l17, l18, l19, l20, l21, l22, l23, l24, l25, l26, l27, l28, l29, l30, l32, l33, l37, l38, l40, l41, l42, l43, l45, l47, l48, l57, l58, l60, l61, l62, l63, l64, l69, l70, l74, l88, l91, l96, l97, l98, l99, l100, l102, l115, l116, l121, l124, l134, l158, l279, l255, l400, l728, l729, l9999, l99999, l12345, l1103515245, l1000000000, l1000000001, l1000000002, l1000000003, l1000000004, l1000000005, l1000000006, pk_us, nI_add, pk_mul, pk_sub, pk_div, nI_clamp, nI_ltI, nI_leI, nI_eq, bd_some, Nat.not_lt_zero, false_or, or_false, true_or, or_true, if_pos, if_neg, ite_true, ite_false, if_true, if_false, Nat.add_zero, Nat.mul_one, Nat.reduceAdd, hr, e2]
    · obtain ⟨d, hd⟩ := hD.resolve_left (by omega)
      obtain ⟨v, sm', sf', pf, e1, e2⟩ := xm_work (stack := sf) (facts := upd (upd (upd facts 0 a) 1 b) 2 c) (pile := pile) (a := a) (b := b) (c := c) h0 hn (by omega) hr hK hd (by rw [pk_un (by omega), pk_un (by omega), pk_us]) (by rw [pk_un (by omega), pk_us]) pk_us
      obtain ⟨w, hw, g1, g2⟩ := held_both v 99 (by omega)
      refine ⟨nI w, ⟨⟨w, hw, rfl⟩, sm', sf', ?_⟩, upd (upd (upd facts 0 a) 1 b) 2 c, pf, ?_⟩
      · simp (disch := omega) only [l0, l1, l2, l3, l4, l5, l6, l7, l8, l9, l10, l11, l12, l13, l14, l15, l16, l17, l18, l19, l20, l21, l22, l23, l24, l25, l26, l27, l28, l29, l30, l32, l33, l37, l38, l40, l41, l42, l43, l45, l47, l48, l57, l58, l60, l61, l62, l63, l64, l69, l70, l74, l88, l91, l96, l97, l98, l99, l100, l102, l115, l116, l121, l124, l134, l158, l279, l255, l400, l728, l729, l9999, l99999, l12345, l1103515245, l1000000000, l1000000001, l1000000002, l1000000003, l1000000004, l1000000005, l1000000006, pk_us, nI_add, pk_mul, pk_sub, pk_div, nI_clamp, nI_ltI, nI_leI, nI_eq, bd_some, Nat.not_lt_zero, false_or, or_false, true_or, or_true, if_pos, if_neg, ite_true, ite_false, if_true, if_false, Nat.add_zero, e1, g1]
      · simp (disch := omega) only [l0, l1, l2, l3, l4, l5, l6, l7, l8, l9, l10, l11, l12, l13, l14, l15, l16, l17, l18, l19, l20, l21, l22, l23, l24, l25, l26, l27, l28, l29, l30, l32, l33, l37, l38, l40, l41, l42, l43, l45, l47, l48, l57, l58, l60, l61, l62, l63, l64, l69, l70, l74, l88, l91, l96, l97, l98, l99, l100, l102, l115, l116, l121, l124, l134, l158, l279, l255, l400, l728, l729, l9999, l99999, l12345, l1103515245, l1000000000, l1000000001, l1000000002, l1000000003, l1000000004, l1000000005, l1000000006, pk_us, nI_add, pk_mul, pk_sub, pk_div, nI_clamp, nI_ltI, nI_leI, nI_eq, bd_some, Nat.not_lt_zero, false_or, or_false, true_or, or_true, if_pos, if_neg, ite_true, ite_false, if_true, if_false, Nat.add_zero, Nat.mul_one, Nat.reduceAdd, hr, e2, g2]
  obtain ⟨v, h1, h2⟩ := uni (S := Int32 × (Nat → Int32)) (P := (Nat → Int32) × (Nat → Int32)) (A := fun st v => (∃ w : Nat, w ≤ 99 ∧ v = nI w) ∧ ∃ (sm' : Int32) (sf' : Nat → Int32), F_X7_given_1 (nI n) cf st.1 st.2 a b c = some (v, sm', sf')) (B := fun fp v => ∃ facts' pile' : Nat → Int32, F_X8_gives row fp.1 fp.2 (nI 1) a b c = some (v, facts', pile')) (nI 0, fun _ => nI 0) (fun _ => nI 0, fun _ => nI 0) (fun s v w h1 h2 => by
    obtain ⟨_, a1, a2, h1⟩ := h1
    obtain ⟨_, b1, b2, h2⟩ := h2
    rw [h1] at h2
    exact congrArg (fun o => o.1) (Option.some.inj h2)) (fun s v w h1 h2 => by
    obtain ⟨a1, a2, h1⟩ := h1
    obtain ⟨b1, b2, h2⟩ := h2
    rw [h1] at h2
    exact congrArg (fun o => o.1) (Option.some.inj h2)) key
  obtain ⟨⟨w, hw, rfl⟩, _⟩ := h1 (nI 0, fun _ => nI 0)
  exact ⟨w, hw, fun sm sf => (h1 (sm, sf)).2, fun f p => h2 (f, p)⟩
