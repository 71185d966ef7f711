/-! PURE: the start -/
theorem sp_bit : ∀ j, j < 64 → ∀ i, i < 6 → (((nI j).toUInt32 >>> ((nI i).toUInt32 &&& Int32.toUInt32 31)).toInt32) &&& (1 : Int32) = nI (j / 2 ^ i % 2) := by decide +kernel
theorem sh_bit : ∀ s, s < 64 → ∀ k, k < 6 → ((nI s >>> (nI k &&& 31)) &&& (1 : Int32)) = nI (s / 2 ^ k % 2) := by decide +kernel
def spI (j i : Nat) : Nat := ((List.range i).map fun k => j / 2 ^ k % 2 * 3 ^ k).sum
theorem spI_succ (j i : Nat) : spI j (i + 1) = spI j i + j / 2 ^ i % 2 * 3 ^ i := by
  unfold spI
  rw [range_map_succ, List.sum_append]
  simp
theorem up_twice (f : Nat → Int32) (i : Nat) (x y : Int32) : upd (upd f i x) i y = upd f i y := by
  funext k
  by_cases h : k = i
  · subst h; rw [pk_us, pk_us]
  · rw [pk_un h, pk_un h, pk_un h]
theorem upL_twice (f : Nat → Int64) (i : Nat) (x y : Int64) : vp_updL (vp_updL f i x) i y = vp_updL f i y := by
  funext k
  by_cases h : k = i
  · subst h; rw [pk_uLs, pk_uLs]
  · rw [pk_uLn h, pk_uLn h, pk_uLn h]
theorem up_same {f : Nat → Int32} {i : Nat} {x : Int32} (h : f i = x) : upd f i x = f := by
  funext k
  by_cases e : k = i
  · subst e; rw [pk_us, h]
  · rw [pk_un e]
theorem or_idem (x c : Int64) : (x ||| c) ||| c = x ||| c := by
  apply Int64.toBitVec_inj.mp
  rw [Int64.toBitVec_or, Int64.toBitVec_or, BitVec.or_assoc, BitVec.or_self]
def hitB (s e v : Nat) : Bool := (List.range e).any fun x => vo s x == v
theorem hit_64 {s v : Nat} (hs : s < 64) (hv : v < 729) : hitB s 64 v = brk v s := by
  have h := brk_vo s hs
  have h1 : v ∈ (List.range 729).filter (fun v => brk v s) ↔ v ∈ (List.range 64).map (vo s) := by rw [h]
  rw [List.mem_filter, List.mem_map] at h1
  unfold hitB
  cases hb : brk v s with
  | true =>
    rw [List.any_eq_true]
    obtain ⟨x, hx, e⟩ := h1.mp ⟨List.mem_range.mpr hv, hb⟩
    exact ⟨x, hx, by simp [e]⟩
  | false =>
    rw [List.any_eq_false]
    intro x hx e
    have e2 : vo s x = v := by simpa using e
    have := (h1.mpr ⟨x, hx, e2⟩).2
    rw [hb] at this
    cases this
theorem ini_x : ∃ (sp : Nat → Int32) (br : Nat → Int64), F_X5_init = some (sp, br) ∧ SpV sp ∧ BrV br := by
  unfold F_X5_init
  refine lp_go (fun j (st : Int32 × (Nat → Int32)) => st.1 = nI j ∧ (∀ s, s < j → st.2 s = nI (spN s)) ∧ ∀ s, j ≤ s → st.2 s = nI 0) (fun o => ∃ (sp : Nat → Int32) (br : Nat → Int64), o = some (sp, br) ∧ SpV sp ∧ BrV br) 64 (by omega) ⟨rfl, fun s hs => absurd hs (Nat.not_lt_zero s), fun s _ => rfl⟩ ?_ ?_
  · rintro j ⟨a, f⟩ hj ⟨h1, h2, h3⟩
    dsimp only at h1 h2 h3
    subst h1
    have g : ¬ (nI j < 0 ∨ 64 ≤ (nI j).toNatClampNeg) := nI_in hj (by omega)
    refine Or.inr ⟨(nI (j + 1), upd f j (nI (spI j 6))), ⟨rfl, fun s hs => ?_, fun s hs => ?_⟩, fun k => ?_⟩
    · dsimp only
      by_cases e : s = j
      · subst e; rw [pk_us]; rfl
      · rw [pk_un e]; exact h2 s (by omega)
    · dsimp only
      rw [pk_un (by omega)]; exact h3 s (by omega)
    · unfold B_X5_init_45
      rw [if_neg (show ¬ (64 : Int32) ≤ nI j from by rw [l64]; exact nI_ge hj (by omega))]
      have hf : f = upd f j (nI (spI j 0)) := (up_same (h3 j (Nat.le_refl _))).symm
      refine (congrArg (fun z => lp (B_X5_init_55 k (nI j)) fuelC ((1 : Int32), (0 : Int32), z)) hf).trans ?_
      refine lp_det (body := B_X5_init_55 k (nI j)) (fun i => (nI (3 ^ i), nI i, upd f j (nI (spI j i)))) _ 6 (by omega) (fun i hi k2 => ?_) (fun k2 => ?_)
      · unfold B_X5_init_55
        rw [if_neg (show ¬ (6 : Int32) ≤ nI i from by rw [l6]; exact nI_ge hi (by omega)), if_neg g, if_neg g]
        dsimp only
        rw [nI_clamp (by omega), pk_us, sp_bit j hj i hi, up_twice, pk_mul, nI_add, l3, pk_mul, l1, nI_add, ← spI_succ, ← Nat.pow_succ]
      · unfold B_X5_init_55
        rw [if_pos (show (6 : Int32) ≤ nI 6 from by decide)]
        dsimp only
        rw [l1, nI_add]
  · rintro ⟨a, f⟩ ⟨h1, h2, h3⟩ k
    dsimp only at h1 h2 h3
    subst h1
    unfold B_X5_init_45
    rw [if_pos (show (64 : Int32) ≤ nI 64 from by decide)]
    have hsp : SpV f := fun s hs => h2 s hs
    refine lp_go (fun s (st : Int32 × (Nat → Int64)) => st.1 = nI s ∧ ∀ v, v < 729 → ∀ b, b < 64 → (st.2 v).toBitVec.getLsbD b = (decide (b < s) && brk v b)) (fun o => ∃ (sp : Nat → Int32) (br : Nat → Int64), o = some (sp, br) ∧ SpV sp ∧ BrV br) 64 (by omega) ⟨rfl, fun v _ b _ => by show (0#64).getLsbD b = _; simp⟩ ?_ ?_
    · rintro s ⟨a, br⟩ hs ⟨h4, h5⟩
      dsimp only at h4 h5
      subst h4
      refine Or.inr ⟨(nI (s + 1), fun v => if hitB s 64 v then br v ||| ((1 : Int64) <<< ((nI s).toInt64 &&& 63)) else br v), ⟨rfl, fun v hv b hb => ?_⟩, fun k2 => ?_⟩
      · dsimp only
        rw [hit_64 hs hv]
        cases hbk : brk v s with
        | true =>
          rw [if_pos rfl, bit_or1 hs, h5 v hv b hb]
          by_cases e : b = s
          · subst e; simp [hbk]
          · rw [show decide (b < s + 1) = decide (b < s) from by rw [decide_eq_decide]; omega]
            simp [e]
        | false =>
          rw [if_neg (by decide), h5 v hv b hb]
          by_cases e : b = s
          · subst e; simp [hbk]
          · rw [show decide (b < s + 1) = decide (b < s) from by rw [decide_eq_decide]; omega]
      · unfold B_X5_init_95
        rw [if_neg (show ¬ (64 : Int32) ≤ nI s from by rw [l64]; exact nI_ge hs (by omega))]
        refine lp_det (body := B_X5_init_103 f k2 (nI s)) (fun e => (nI e, fun v => if hitB s e v then br v ||| ((1 : Int64) <<< ((nI s).toInt64 &&& 63)) else br v)) _ 64 (by omega) (fun e he k3 => ?_) (fun k3 => ?_)
        · have hv := vo_lt s hs e he
          have g : ¬ (nI (vo s e) < 0 ∨ 729 ≤ (nI (vo s e)).toNatClampNeg) := nI_in hv (by omega)
          have hfun : vp_updL (fun v => if hitB s e v then br v ||| ((1 : Int64) <<< ((nI s).toInt64 &&& 63)) else br v) (vo s e) ((if hitB s e (vo s e) then br (vo s e) ||| ((1 : Int64) <<< ((nI s).toInt64 &&& 63)) else br (vo s e)) ||| ((1 : Int64) <<< ((nI s).toInt64 &&& 63))) = fun v => if hitB s (e + 1) v then br v ||| ((1 : Int64) <<< ((nI s).toInt64 &&& 63)) else br v := by
            funext v
            have hsu : hitB s (e + 1) v = (hitB s e v || vo s e == v) := any_succ _ _
            rw [hsu]
            by_cases ev : v = vo s e
            · subst ev
              rw [pk_uLs]
              cases hitB s e (vo s e) with
              | true => simp [or_idem]
              | false => simp
            · rw [pk_uLn ev]
              have : (vo s e == v) = false := by simp; exact fun h => ev h.symm
              rw [this, Bool.or_false]
          unfold B_X5_init_103
          rw [if_neg (show ¬ (64 : Int32) ≤ nI e from by rw [l64]; exact nI_ge he (by omega))]
          dsimp only
          rw [x_vowOf hsp hs he, bd_some, if_neg (show ¬ nI (vo s e) < 0 from nI_pos (by omega)), if_neg (show ¬ (729 : Int32) ≤ nI (vo s e) from by rw [l729]; exact nI_ge hv (by omega)), if_neg g, if_neg g, nI_clamp (by omega), hfun, l1, nI_add]
        · unfold B_X5_init_103
          rw [if_pos (show (64 : Int32) ≤ nI 64 from by decide)]
          dsimp only
          rw [l1, nI_add]
    · rintro ⟨a, br⟩ ⟨h4, h5⟩ k2
      dsimp only at h4 h5
      subst h4
      refine ⟨f, br, ?_, hsp, fun v hv s hs => ?_⟩
      · unfold B_X5_init_95
        rw [if_pos (show (64 : Int32) ≤ nI 64 from by decide)]
      · rw [h5 v hv s hs, decide_eq_true hs, Bool.true_and]
theorem m_isBroken {v s : Nat} (hv : v < 729) (hs : s < 64) : F_X8_isBroken (nI v) (nI s) = some (if brk v s then nI 1 else nI 0) := by
  unfold F_X8_isBroken
  have h := lp_det (body := B_X8_isBroken_7 (nI s)) (fun j => (nI (v / 3 ^ j), (if (List.range j).all (fun k => v / 3 ^ k % 3 == 2 || v / 3 ^ k % 3 == s / 2 ^ k % 2) then nI 1 else nI 0), nI j)) (some (if brk v s then nI 1 else nI 0)) 6 (by omega) (fun j hj k => ?_) (fun k => ?_)
  · refine Eq.trans ?_ h
    show lp _ _ (nI v, nI 1, nI 0) = lp _ _ (nI (v / 3 ^ 0), nI 1, nI 0)
    rw [Nat.pow_zero, Nat.div_one]
  · have hle : v / 3 ^ j ≤ v := Nat.div_le_self _ _
    have e1 : nI (v / 3 ^ j) - nI (v / 3 ^ j) / (3 : Int32) * (3 : Int32) = nI (v / 3 ^ j % 3) := by rw [l3]; exact pk_rem (by omega) (by omega) (by omega)
    have e2 : nI (v / 3 ^ j) / (3 : Int32) = nI (v / 3 ^ (j + 1)) := by rw [l3, pk_div (by omega) (by omega) (by omega), pow3_div]
    unfold B_X8_isBroken_7
    rw [if_neg (show ¬ (6 : Int32) ≤ nI j from by rw [l6]; exact nI_ge hj (by omega)), all_succ]
    dsimp only
    rw [e1, e2, sh_bit s hs j hj, l1, nI_add]
    cases (List.range j).all (fun k => v / 3 ^ k % 3 == 2 || v / 3 ^ k % 3 == s / 2 ^ k % 2) with
    | false =>
      rw [if_pos (show (if false = true then nI 1 else nI 0) = 0 from rfl), Bool.false_and]
      rfl
    | true =>
      rw [if_neg (show ¬ (if true = true then nI 1 else nI 0) = 0 from by decide), Bool.true_and]
      by_cases c1 : v / 3 ^ j % 3 = 2
      · rw [if_pos (show nI (v / 3 ^ j % 3) = (2 : Int32) from by rw [c1]; rfl)]
        simp [c1]
      · rw [if_neg (show ¬ nI (v / 3 ^ j % 3) = (2 : Int32) from by rw [l2, nI_eq (by omega) (by omega)]; exact c1)]
        by_cases c2 : v / 3 ^ j % 3 = s / 2 ^ j % 2
        · rw [if_pos (show nI (v / 3 ^ j % 3) = nI (s / 2 ^ j % 2) from by rw [c2])]
          simp [c2]
        · rw [if_neg (show ¬ nI (v / 3 ^ j % 3) = nI (s / 2 ^ j % 2) from by rw [nI_eq (by omega) (by omega)]; exact c2)]
          simp [c1, c2]
          rfl
  · unfold B_X8_isBroken_7
    rw [if_pos (show (6 : Int32) ≤ nI 6 from by decide)]
    dsimp only
    unfold brk
    cases (List.range 6).all (fun k => v / 3 ^ k % 3 == 2 || v / 3 ^ k % 3 == s / 2 ^ k % 2) with
    | false => exact if_pos (by decide +kernel)
    | true => exact if_pos (by decide +kernel)
def Wb (v : Nat) : Nat → Int64
  | 0 => 0
  | s + 1 => Wb v s ||| (if brk v s then (1 : Int64) <<< ((nI s).toInt64 &&& 63) else 0)
theorem Wb_bit (v : Nat) : ∀ s, s ≤ 64 → ∀ b, (Wb v s).toBitVec.getLsbD b = (decide (b < s) && brk v b)
  | 0, _, b => by show (0#64).getLsbD b = _; simp
  | s + 1, h, b => by
    have ih := Wb_bit v s (by omega) b
    unfold Wb
    cases hb : brk v s with
    | true =>
      rw [if_pos rfl, bit_or1 (by omega), ih]
      by_cases e : b = s
      · subst e; simp [hb]
      · rw [show decide (b < s + 1) = decide (b < s) from by rw [decide_eq_decide]; omega]
        simp [e]
    | false =>
      rw [if_neg (by decide), or0, ih]
      by_cases e : b = s
      · subst e; simp [hb]
      · rw [show decide (b < s + 1) = decide (b < s) from by rw [decide_eq_decide]; omega]
theorem ini_m : ∃ bk : Nat → Int64, F_X8_init = some (upd (upd (fun _ => nI 0) 1 (nI 1)) 5 (nI 728), bk) ∧ BrV bk := by
  unfold F_X8_init
  refine lp_go (fun j (st : Int32 × (Nat → Int64)) => st.1 = nI j ∧ ∀ v, v < j → ∀ s, s < 64 → (st.2 v).toBitVec.getLsbD s = brk v s) (fun o => ∃ bk : Nat → Int64, o = some (upd (upd (fun _ => nI 0) 1 (nI 1)) 5 (nI 728), bk) ∧ BrV bk) 729 (by omega) ⟨rfl, fun s hs => absurd hs (Nat.not_lt_zero s)⟩ ?_ ?_
  · rintro j ⟨a, bk⟩ hj ⟨h1, h2⟩
    dsimp only at h1 h2
    subst h1
    have g : ¬ (nI j < 0 ∨ 729 ≤ (nI j).toNatClampNeg) := nI_in hj (by omega)
    refine Or.inr ⟨(nI (j + 1), vp_updL bk j (Wb j 64)), ⟨rfl, fun v hv s hs => ?_⟩, fun k => ?_⟩
    · dsimp only
      by_cases e : v = j
      · subst e
        rw [pk_uLs, Wb_bit v 64 (Nat.le_refl _), decide_eq_true hs, Bool.true_and]
      · rw [pk_uLn e]; exact h2 v (by omega) s hs
    · unfold B_X8_init_135
      rw [if_neg (show ¬ (729 : Int32) ≤ nI j from by rw [l729]; exact nI_ge hj (by omega)), if_neg g]
      dsimp only
      rw [nI_clamp (by omega)]
      refine lp_det (body := B_X8_init_151 k (nI j)) (fun s => (nI s, vp_updL bk j (Wb j s))) _ 64 (by omega) (fun s hs k2 => ?_) (fun k2 => ?_)
      · unfold B_X8_init_151
        rw [if_neg (show ¬ (64 : Int32) ≤ nI s from by rw [l64]; exact nI_ge hs (by omega)), if_neg g]
        dsimp only
        rw [m_isBroken hj hs, bd_some]
        cases hb : brk j s with
        | true =>
          rw [if_neg (show ¬ (if true = true then nI 1 else nI 0) = 0 from by decide), if_neg g, nI_clamp (by omega), pk_uLs, upL_twice, l1, nI_add]
          show k2 (nI (s + 1), vp_updL bk j (Wb j s ||| _)) = k2 (nI (s + 1), vp_updL bk j (Wb j s ||| (if brk j s then _ else _)))
          rw [hb, if_pos rfl]
        | false =>
          rw [if_pos (show (if false = true then nI 1 else nI 0) = 0 from rfl), if_neg g, nI_clamp (by omega), pk_uLs, upL_twice, l1, nI_add]
          show k2 (nI (s + 1), vp_updL bk j (Wb j s ||| _)) = k2 (nI (s + 1), vp_updL bk j (Wb j s ||| (if brk j s then _ else _)))
          rw [hb, if_neg (by decide)]
      · unfold B_X8_init_151
        rw [if_pos (show (64 : Int32) ≤ nI 64 from by decide)]
        dsimp only
        rw [l1, nI_add]
  · rintro ⟨a, bk⟩ ⟨h1, h2⟩ k
    dsimp only at h1 h2
    subst h1
    refine ⟨bk, ?_, h2⟩
    unfold B_X8_init_135
    rw [if_pos (show (729 : Int32) ≤ nI 729 from by decide), show (1 : Int32).toNatClampNeg = 1 from by decide +kernel, show (5 : Int32).toNatClampNeg = 5 from by decide +kernel]
    rfl
theorem inv0 : ∃ (u0 : ((Nat → Int32) × (Nat → Int64) × Int32 × (Nat → Int32) × (Nat → Int32))) (u1 : ((Nat → Int32) × (Nat → Int64))), F_X7_init = some u0 ∧ F_X8_init = some u1 ∧ Inv 0 (0 : Int32) (0 : Int32) (728 : Int32) (0 : Int32) (0 : Int32) (1 : Int32) (0 : Int32) (fun _ => (0 : Int32)) (0 : Int32) (fun _ => (0 : Int32)) (0 : Int32) (fun _ => (0 : Int32)) (0 : Int32) (fun _ => (0 : Int32)) (0 : Int32) (fun _ => (0 : Int32)) (0 : Int32) (fun _ => (0 : Int32)) (0 : Int32) (fun _ => (0 : Int32)) (0 : Int32) (fun _ => (0 : Int32)) (728 : Int32) (0 : Int32) (0 : Int32) (1 : Int32) (0 : Int32) (fun _ => (0 : Int32)) (0 : Int32) (fun _ => (0 : Int32)) (0 : Int32) (fun _ => (0 : Int32)) (0 : Int32) (fun _ => (0 : Int32)) (0 : Int32) (fun _ => (0 : Int32)) (0 : Int32) (fun _ => (0 : Int32)) (0 : Int32) (fun _ => (0 : Int32)) (0 : Int32) (fun _ => (0 : Int32)) u0.2.2.1 u0.1 u0.2.1 u0.2.2.2.1 u0.2.2.2.2 5 (0 : Int32) (0 : Int32) (0 : Int32) (fun _ => (0 : Int32)) (0 : Int32) (fun _ => (0 : Int32)) (0 : Int32) (0 : Int32) (0 : Int32) (0 : Int32) (0 : Int32) (fun _ => (0 : Int32)) (fun _ => (0 : Int32)) (0 : Int32) (0 : Int32) (fun _ => (0 : Int32)) (0 : Int32) (0 : Int32) (fun _ => (0 : Int32)) (0 : Int32) (0 : Int32) (fun _ => (0 : Int32)) (0 : Int32) (0 : Int32) (fun _ => (0 : Int32)) (0 : Int32) (0 : Int32) (0 : Int32) (0 : Int32) (0 : Int32) (0 : Int32) (0 : Int32) (0 : Int32) (0 : Int32) (0 : Int32) u1.1 (fun _ => (0 : Int32)) (fun _ => (0 : Int32)) (fun _ => (0 : Int32)) (fun _ => (0 : Int32)) (fun _ => (0 : Int32)) u1.2 (fun _ => (0 : Int32)) (fun _ => (0 : Int32)) (fun _ => (0 : Int32)) (fun _ => (0 : Int32)) (fun _ => (0 : Int32)) (fun _ => (0 : Int32)) (fun _ => (0 : Int32)) := by
  obtain ⟨sp, br, e1, hsp, hbr⟩ := ini_x
  obtain ⟨bk, e2, hbk⟩ := ini_m
  obtain ⟨row, hrow⟩ : ∃ row : Nat → Int32, row = upd (upd (fun _ => nI 0) 1 (nI 1)) 5 (nI 728) := ⟨_, rfl⟩
  rw [← hrow] at e2
  have hz : ∀ j, j ≠ 1 → j ≠ 5 → row j = nI 0 := fun j h1 h2 => by rw [hrow, pk_un h2, pk_un h1]
  have h5 : row 5 = nI 728 := by rw [hrow, pk_us]
  have h1 : row 1 = nI 1 := by rw [hrow, pk_un (by omega), pk_us]
  obtain ⟨f1, c1, r1, r2, r3⟩ := x_refit (fit := fun _ => nI 0) (counted := fun _ => nI 0) (gf := fun _ => nI 0) (row := row) (n := 0) hbr (by omega) (hz 3 (by omega) (by omega)) (fun i hi => absurd hi (Nat.not_lt_zero i))
  refine ⟨(sp, br, nI (cntF row), f1, c1), (row, bk), ?_, e2, ?_⟩
  · unfold F_X7_init
    rw [e1, bd_some]
    exact (congrArg (fun o => bd o _) r1).trans rfl
  · have hC : ∀ a, a ≠ 1 → a ≠ 5 → IvC a (nI 0) (fun _ => nI 0) row := fun a q1 q2 => ⟨0, by omega, rfl, hz a q1 q2, fun k hk => absurd hk (Nat.not_lt_zero k), Or.inl rfl⟩
    exact ⟨⟨⟨h5, hz 0 (by omega) (by omega), hz 4 (by omega) (by omega), h1, 728, 0, 0, by omega, by omega, by omega, rfl, rfl, rfl⟩, ⟨0, by omega, rfl, rfl, rfl, hz 2 (by omega) (by omega), fun i hi => absurd hi (Nat.not_lt_zero i)⟩, ⟨0, by omega, rfl, hz 3 (by omega) (by omega), fun i hi => absurd hi (Nat.not_lt_zero i)⟩, ⟨0, by omega, rfl, hz 6 (by omega) (by omega), fun i hi => absurd hi (Nat.not_lt_zero i)⟩, hC 158 (by omega) (by omega), hC 279 (by omega) (by omega), ⟨0, by omega, rfl, hz 7 (by omega) (by omega), fun i hi => absurd hi (Nat.not_lt_zero i)⟩⟩, ⟨hsp, hbr, hbk⟩, ⟨r2, rfl, fun s hs => Or.inl (r3 s hs), Or.inl rfl⟩, ⟨0, by omega, rfl, rfl, fun i hi => absurd hi (Nat.not_lt_zero i)⟩, fun k _ _ => rfl, ⟨Or.inl rfl, rfl, 0, by omega, fun _ => rfl, rfl, rfl, fun i hi => absurd hi (Nat.not_lt_zero i)⟩, ⟨Or.inl rfl, rfl, 0, by omega, fun _ => rfl, rfl, rfl, fun i hi => absurd hi (Nat.not_lt_zero i)⟩, ⟨Or.inl rfl, rfl, 0, by omega, fun _ => rfl, rfl, rfl, fun i hi => absurd hi (Nat.not_lt_zero i)⟩, ⟨Or.inl rfl, rfl, 0, by omega, fun _ => rfl, rfl, rfl, fun i hi => absurd hi (Nat.not_lt_zero i)⟩, 0, Nat.le_refl _, rfl, rfl, rfl, fun h => absurd rfl h⟩
