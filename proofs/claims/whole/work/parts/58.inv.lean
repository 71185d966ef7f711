/-! THE RELATION between class and model. The model's row is the state; the class's rows say the same. -/
def IvB (km : Int32) (kf : Nat → Int32) (mm : Int32) (mf : Nat → Int32) (sm : Int32) (sf : Nat → Int32) (row : Nat → Int32) : Prop := ∃ n : Nat, n ≤ 6 ∧ km = nI n ∧ mm = nI n ∧ sm = nI n ∧ row 2 = nI n ∧ ∀ i, i < n → kf i = row (8 + 3 * i) ∧ mf i = row (8 + 3 * i + 1) ∧ sf i = row (8 + 3 * i + 2) ∧ ∃ k v d : Nat, k ≤ 6 ∧ v ≤ 9 ∧ d ≤ 99999 ∧ row (8 + 3 * i) = nI k ∧ row (8 + 3 * i + 1) = nI v ∧ row (8 + 3 * i + 2) = nI d
def IvG (gm : Int32) (gf : Nat → Int32) (row : Nat → Int32) : Prop := ∃ n : Nat, n ≤ 24 ∧ gm = nI n ∧ row 3 = nI n ∧ ∀ i, i < n → ∃ s f : Nat, s < 64 ∧ f < 2 ∧ gf i = nI (2 * s + f) ∧ row (26 + 2 * i) = nI s ∧ row (26 + 2 * i + 1) = nI f
def IvT (tm : Int32) (tf : Nat → Int32) (row : Nat → Int32) : Prop := ∃ n : Nat, n ≤ 60 ∧ tm = nI n ∧ row 6 = nI n ∧ ∀ i, i < n → ∃ y : Nat, y < 256 ∧ tf i = nI y ∧ row (74 + i) = nI y
def IvW (wm : Int32) (wf : Nat → Int32) (row : Nat → Int32) : Prop := ∃ n : Nat, n ≤ 24 ∧ wm = nI n ∧ row 7 = nI n ∧ ∀ i, i < n → wf i = row (134 + i)
def IvN (vow day worth z : Int32) (row : Nat → Int32) : Prop := row 5 = vow ∧ row 0 = day ∧ row 4 = worth ∧ row 1 = z ∧ ∃ v d w : Nat, v ≤ 728 ∧ d ≤ 9999 ∧ w ≤ 99999 ∧ vow = nI v ∧ day = nI d ∧ worth = nI w
/-- what an image keeps -/
def IvS (vow day worth z km : Int32) (kf : Nat → Int32) (mm : Int32) (mf : Nat → Int32) (sm : Int32) (sf : Nat → Int32) (gm : Int32) (gf : Nat → Int32) (tm : Int32) (tf : Nat → Int32) (am : Int32) (af : Nat → Int32) (lm : Int32) (lf : Nat → Int32) (wm : Int32) (wf : Nat → Int32) (row : Nat → Int32) : Prop := IvN vow day worth z row ∧ IvB km kf mm mf sm sf row ∧ IvG gm gf row ∧ IvT tm tf row ∧ IvC 158 am af row ∧ IvC 279 lm lf row ∧ IvW wm wf row
/-- the tables of vows -/
def IvV (spread : Nat → Int32) (breakers broken : Nat → Int64) : Prop := SpV spread ∧ BrV breakers ∧ BrV broken
def IvF (row : Nat → Int32) (fitting : Int32) (fit counted : Nat → Int32) (mfit known : Int32) (isFit breaks : Nat → Int32) : Prop := FtV row fit ∧ fitting = nI (cntF row) ∧ CtV row counted ∧ KnV row mfit known isFit breaks
def IvR (tm : Int32) (tf : Nat → Int32) (trcd : Int32) (trc : Nat → Int32) : Prop := ∃ n : Nat, n ≤ 30 ∧ tm = nI n ∧ trcd = nI n ∧ ∀ i, i < n → tf i = trc i
def IvE (er errs : Nat → Int32) : Prop := ∀ k, 1 ≤ k → k ≤ 6 → er k = errs k
def IvH (k : Nat) (bits nm : Int32) (nf : Nat → Int32) (bitsOf sizeOf cels : Nat → Int32) : Prop := (bits = nI 0 ∨ bits = nI 8 ∨ bits = nI 16 ∨ bits = nI 32) ∧ bitsOf k = bits ∧ ∃ n : Nat, n ≤ 24 ∧ (bits = nI 0 → n = 0) ∧ nm = nI n ∧ sizeOf k = nI n ∧ ∀ i, i < n → nf i = cels (24 * k + i)
/-! what a change of the row leaves -/
def Far (row row' : Nat → Int32) (lo hi : Nat) : Prop := ∀ j, (j < lo ∨ hi ≤ j) → row' j = row j
theorem far_upd (row : Nat → Int32) (i : Nat) (v : Int32) : Far row (upd row i v) i (i + 1) := fun j h => pk_un (by omega)
theorem IvN.far {vow day worth z : Int32} {row row' : Nat → Int32} {lo hi : Nat} (h : IvN vow day worth z row) (hf : Far row row' lo hi) (h1 : 6 ≤ lo ∨ (2 ≤ lo ∧ hi ≤ 4)) : IvN vow day worth z row' := by
  obtain ⟨a, b, c, d, e⟩ := h
  exact ⟨by rw [hf 5 (by omega), a], by rw [hf 0 (by omega), b], by rw [hf 4 (by omega), c], by rw [hf 1 (by omega), d], e⟩
theorem IvB.far {km mm sm : Int32} {kf mf sf row row' : Nat → Int32} {lo hi : Nat} (h : IvB km kf mm mf sm sf row) (hf : Far row row' lo hi) (h1 : hi ≤ 2 ∨ (3 ≤ lo ∧ hi ≤ 8) ∨ 26 ≤ lo) : IvB km kf mm mf sm sf row' := by
  obtain ⟨n, hn, a, b, c, d, e⟩ := h
  refine ⟨n, hn, a, b, c, by rw [hf 2 (by omega), d], fun i hi2 => ?_⟩
  rw [hf (8 + 3 * i) (by omega), hf (8 + 3 * i + 1) (by omega), hf (8 + 3 * i + 2) (by omega)]
  exact e i hi2
theorem IvG.far {gm : Int32} {gf row row' : Nat → Int32} {lo hi : Nat} (h : IvG gm gf row) (hf : Far row row' lo hi) (h1 : hi ≤ 3 ∨ (4 ≤ lo ∧ hi ≤ 26) ∨ 74 ≤ lo) : IvG gm gf row' := by
  obtain ⟨n, hn, a, d, e⟩ := h
  refine ⟨n, hn, a, by rw [hf 3 (by omega), d], fun i hi2 => ?_⟩
  rw [hf (26 + 2 * i) (by omega), hf (26 + 2 * i + 1) (by omega)]
  exact e i hi2
theorem IvT.far {gm : Int32} {gf row row' : Nat → Int32} {lo hi : Nat} (h : IvT gm gf row) (hf : Far row row' lo hi) (h1 : hi ≤ 6 ∨ (7 ≤ lo ∧ hi ≤ 74) ∨ 134 ≤ lo) : IvT gm gf row' := by
  obtain ⟨n, hn, a, d, e⟩ := h
  refine ⟨n, hn, a, by rw [hf 6 (by omega), d], fun i hi2 => ?_⟩
  rw [hf (74 + i) (by omega)]
  exact e i hi2
theorem IvW.far {gm : Int32} {gf row row' : Nat → Int32} {lo hi : Nat} (h : IvW gm gf row) (hf : Far row row' lo hi) (h1 : hi ≤ 7 ∨ (8 ≤ lo ∧ hi ≤ 134) ∨ 158 ≤ lo) : IvW gm gf row' := by
  obtain ⟨n, hn, a, d, e⟩ := h
  refine ⟨n, hn, a, by rw [hf 7 (by omega), d], fun i hi2 => ?_⟩
  rw [hf (134 + i) (by omega)]
  exact e i hi2
theorem IvC.cong {a : Nat} {gm : Int32} {gf row row' : Nat → Int32} (h : IvC a gm gf row) (hf : ∀ j, a ≤ j → j < a + 121 → row' j = row j) : IvC a gm gf row' := by
  obtain ⟨n, hn, b, d, e, g⟩ := h
  refine ⟨n, hn, b, by rw [hf a (by omega) (by omega), d], fun i hi2 => ?_, ?_⟩
  · rw [hf (a + 1 + i) (by omega) (by omega), hf (a + 61 + i) (by omega) (by omega)]
    exact e i hi2
  · rcases g with g | ⟨d, g1, g2, g3⟩
    · exact Or.inl g
    · refine Or.inr ⟨d, g1, g2, fun k hk => ?_⟩
      have h3 := g3 k hk
      show d k ≤ k ∧ ((row' (a + 1 + k) = nI 1 ∨ row' (a + 1 + k) = nI 2) → _) ∧ (row' (a + 1 + k) = nI 3 → _) ∧ (¬ (row' (a + 1 + k) = nI 1 ∨ row' (a + 1 + k) = nI 2 ∨ row' (a + 1 + k) = nI 3) → _)
      rw [hf (a + 1 + k) (by omega) (by omega)]
      exact h3
theorem IvC.far {a : Nat} {gm : Int32} {gf row row' : Nat → Int32} {lo hi : Nat} (h : IvC a gm gf row) (hf : Far row row' lo hi) (h1 : hi ≤ a ∨ a + 121 ≤ lo) : IvC a gm gf row' :=
  h.cong (fun j h2 h3 => hf j (by omega))
theorem fitP_cong {row row' : Nat → Int32} (h3 : row' 3 = row 3) (hn : ∃ n : Nat, n ≤ 24 ∧ row 3 = nI n) (hf : ∀ j, 26 ≤ j → j < 74 → row' j = row j) : fitP row' = fitP row := by
  obtain ⟨n, hn, e⟩ := hn
  funext v
  unfold fitP
  rw [h3, e, nI_clamp (by omega)]
  rw [Bool.eq_iff_iff, List.all_eq_true, List.all_eq_true]
  constructor <;> intro h i hi
  · have h1 := h i hi
    have h2 := List.mem_range.mp hi
    rw [hf (26 + 2 * i) (by omega) (by omega), hf (26 + 2 * i + 1) (by omega) (by omega)] at h1
    exact h1
  · have h1 := h i hi
    have h2 := List.mem_range.mp hi
    rw [hf (26 + 2 * i) (by omega) (by omega), hf (26 + 2 * i + 1) (by omega) (by omega)]
    exact h1
theorem IvG.n {gm : Int32} {gf row : Nat → Int32} (h : IvG gm gf row) : ∃ n : Nat, n ≤ 24 ∧ row 3 = nI n := by
  obtain ⟨n, hn, a, d, e⟩ := h
  exact ⟨n, hn, d⟩
theorem IvG.sg {gm : Int32} {gf row : Nat → Int32} (h : IvG gm gf row) : SgV row := by
  obtain ⟨n, hn, a, d, e⟩ := h
  refine ⟨n, hn, d, fun i hi => ?_⟩
  obtain ⟨s, f, a1, a2, a3, a4, a5⟩ := e i hi
  exact ⟨s, f, a1, a2, a4, a5⟩
theorem IvF.cong {row row' : Nat → Int32} {fitting mfit known : Int32} {fit counted isFit breaks : Nat → Int32} (h : IvF row fitting fit counted mfit known isFit breaks) (he : fitP row' = fitP row) : IvF row' fitting fit counted mfit known isFit breaks := by
  have h1 : cntF row' = cntF row := by unfold cntF; rw [he]
  have h2 : ∀ s, cntB row' s = cntB row s := fun s => by unfold cntB; rw [he]
  obtain ⟨a, b, c, d⟩ := h
  refine ⟨fun v hv => by rw [he]; exact a v hv, by rw [h1]; exact b, fun s hs => by rw [h2]; exact c s hs, ?_⟩
  rcases d with d | ⟨d, e, f, g⟩
  · exact Or.inl d
  · exact Or.inr ⟨d, fun v hv => by rw [he]; exact e v hv, by rw [h1]; exact f, fun s hs => by rw [h2]; exact g s hs⟩
theorem IvF.far {row row' : Nat → Int32} {fitting mfit known gm : Int32} {fit counted isFit breaks gf : Nat → Int32} {lo hi : Nat} (h : IvF row fitting fit counted mfit known isFit breaks) (hg : IvG gm gf row) (hf : Far row row' lo hi) (h1 : hi ≤ 3 ∨ (4 ≤ lo ∧ hi ≤ 26) ∨ 74 ≤ lo) : IvF row' fitting fit counted mfit known isFit breaks :=
  h.cong (fitP_cong (hf 3 (by omega)) hg.n (fun j h2 h3 => hf j (by omega)))
theorem IvE.err {er errs : Nat → Int32} (h : IvE er errs) (k : Nat) : IvE (upd er k (er k + nI 1)) (upd errs k (errs k + nI 1)) := by
  intro j h1 h2
  by_cases e : j = k
  · subst e
    rw [pk_us, pk_us, h j h1 h2]
  · rw [pk_un e, pk_un e, h j h1 h2]
def Inv (c : Nat) (x_hasI : Int32) (x_imgs : Int32) (x_vow : Int32) (x_day : Int32) (x_worth : Int32) (x_z : Int32) (x_kinds_m : Int32) (x_kinds_f : Nat → Int32) (x_ms_m : Int32) (x_ms_f : Nat → Int32) (x_said_m : Int32) (x_said_f : Nat → Int32) (x_signs_m : Int32) (x_signs_f : Nat → Int32) (x_tape_m : Int32) (x_tape_f : Nat → Int32) (x_avo_m : Int32) (x_avo_f : Nat → Int32) (x_tal_m : Int32) (x_tal_f : Nat → Int32) (x_wai_m : Int32) (x_wai_f : Nat → Int32) (x_kp_vow : Int32) (x_kp_day : Int32) (x_kp_worth : Int32) (x_kp_z : Int32) (x_kp_kinds_m : Int32) (x_kp_kinds_f : Nat → Int32) (x_kp_ms_m : Int32) (x_kp_ms_f : Nat → Int32) (x_kp_said_m : Int32) (x_kp_said_f : Nat → Int32) (x_kp_signs_m : Int32) (x_kp_signs_f : Nat → Int32) (x_kp_tape_m : Int32) (x_kp_tape_f : Nat → Int32) (x_kp_avo_m : Int32) (x_kp_avo_f : Nat → Int32) (x_kp_tal_m : Int32) (x_kp_tal_f : Nat → Int32) (x_kp_wai_m : Int32) (x_kp_wai_f : Nat → Int32) (x_fitting : Int32) (x_spread_f : Nat → Int32) (x_breakers_f : Nat → Int64) (x_fit_f : Nat → Int32) (x_counted_f : Nat → Int32) (x_kk : Nat) (x_rat : Int32) (x_flt : Int32) (x_codes_m : Int32) (x_codes_f : Nat → Int32) (x_stack_m : Int32) (x_stack_f : Nat → Int32) (x_parted : Int32) (x_vkk : Int32) (x_vkd : Int32) (x_vmm : Int32) (x_trace_m : Int32) (x_trace_f : Nat → Int32) (x_er_f : Nat → Int32) (x_bits0 : Int32) (x_num0_m : Int32) (x_num0_f : Nat → Int32) (x_bits1 : Int32) (x_num1_m : Int32) (x_num1_f : Nat → Int32) (x_bits2 : Int32) (x_num2_m : Int32) (x_num2_f : Nat → Int32) (x_bits3 : Int32) (x_num3_m : Int32) (x_num3_f : Nat → Int32) (m_images : Int32) (m_mfit : Int32) (m_known : Int32) (m_laid : Int32) (m_hre : Int32) (m_opnd : Int32) (m_bad : Int32) (m_usg : Int32) (m_trcd : Int32) (m_isP : Int32) (m_row_f : Nat → Int32) (m_kpt_f : Nat → Int32) (m_errs_f : Nat → Int32) (m_bitsOf_f : Nat → Int32) (m_sizeOf_f : Nat → Int32) (m_cels_f : Nat → Int32) (m_broken_f : Nat → Int64) (m_isFit_f : Nat → Int32) (m_breaks_f : Nat → Int32) (m_act_f : Nat → Int32) (m_wth_f : Nat → Int32) (m_facts_f : Nat → Int32) (m_pile_f : Nat → Int32) (m_trc_f : Nat → Int32) : Prop := IvS x_vow x_day x_worth x_z x_kinds_m x_kinds_f x_ms_m x_ms_f x_said_m x_said_f x_signs_m x_signs_f x_tape_m x_tape_f x_avo_m x_avo_f x_tal_m x_tal_f x_wai_m x_wai_f m_row_f ∧ IvV x_spread_f x_breakers_f m_broken_f ∧ IvF m_row_f x_fitting x_fit_f x_counted_f m_mfit m_known m_isFit_f m_breaks_f ∧ IvR x_trace_m x_trace_f m_trcd m_trc_f ∧ IvE x_er_f m_errs_f ∧ IvH 0 x_bits0 x_num0_m x_num0_f m_bitsOf_f m_sizeOf_f m_cels_f ∧ IvH 1 x_bits1 x_num1_m x_num1_f m_bitsOf_f m_sizeOf_f m_cels_f ∧ IvH 2 x_bits2 x_num2_m x_num2_f m_bitsOf_f m_sizeOf_f m_cels_f ∧ IvH 3 x_bits3 x_num3_m x_num3_f m_bitsOf_f m_sizeOf_f m_cels_f ∧ ∃ k : Nat, k ≤ c ∧ x_imgs = nI k ∧ m_images = nI k ∧ (x_hasI = if k = 0 then nI 0 else nI 1) ∧ (k ≠ 0 → IvS x_kp_vow x_kp_day x_kp_worth x_kp_z x_kp_kinds_m x_kp_kinds_f x_kp_ms_m x_kp_ms_f x_kp_said_m x_kp_said_f x_kp_signs_m x_kp_signs_f x_kp_tape_m x_kp_tape_f x_kp_avo_m x_kp_avo_f x_kp_tal_m x_kp_tal_f x_kp_wai_m x_kp_wai_f m_kpt_f)
