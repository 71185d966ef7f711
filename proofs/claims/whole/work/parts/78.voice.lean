/-! PURE: voices -/
def ap (f : Nat → Int32) (t : Nat) : List Int32 → (Nat → Int32)
  | [] => f
  | v :: l => ap (upd f t v) (t + 1) l
theorem ap_ok (l : List Int32) : ∀ (f g : Nat → Int32) (t : Nat), (∀ i, i < t → f i = g i) → ∀ i, i < t + l.length → ap f t l i = ap g t l i := by
  induction l with
  | nil => intro f g t h i hi; exact h i hi
  | cons v l ih =>
    intro f g t h i hi
    refine ih (upd f t v) (upd g t v) (t + 1) (fun j hj => ?_) i (by simp only [List.length_cons] at hi; omega)
    by_cases e : j = t
    · subst e; rw [pk_us, pk_us]
    · rw [pk_un e, pk_un e]; exact h j (by omega)
theorem bd_eta {α β γ δ : Type} (o : Option (α × β × γ × δ)) : bd o (fun u => some (u.1, u.2.1, u.2.2.1, u.2.2.2)) = o := by
  cases o <;> rfl
abbrev SpkR : Type := Int32 → Int32 → Int32 → Int32 → Int32 → (Nat → Int32) → Int32 → Int32 → Int32 → Int32 → Option (Int32 × Int32 × Int32 × (Nat → Int32))
theorem bodyV : ∀ K, K < 7 → ∀ V, V < 4 → F_X4_bodyOf (nI K) (nI V) = some (xBodies (4 * K + V)) := by decide +kernel
theorem aboveV : ∀ K, K < 7 → F_X7_kindAbove (nI K) = some (xAbove K) := by decide +kernel
abbrev resd (K V A N : Nat) : Prop := A < 7 ∧ K < 7 ∧ V < 4 ∧ xBodies (4 * A + V) = nI N ∧ 0 < N ∧ N < 100 ∧ (K = A ∨ (xBodies (4 * K + V) = nI 0 ∧ xAbove K = nI A) ∨ ∃ K2, K2 < 7 ∧ xBodies (4 * K + V) = nI 0 ∧ xAbove K = nI K2 ∧ xBodies (4 * K2 + V) = nI 0 ∧ xAbove K2 = nI A)
section VO
variable {R : SpkR} {k kd m x : Int32} {t d : Nat} {tr : Nat → Int32}
theorem spk_miss {p : Int32} {K V i : Nat} (hK : K < 7) (hV : V < 4) (hi : i < 7) (h0 : xBodies (4 * K + V) = nI 0) (kk : (Int32 × Int32) → Option (Int32 × Int32 × Int32 × (Nat → Int32))) : B_X4_speak_6 p k kd m (nI t) tr (nI V) x (nI d) R kk (nI K, nI i) = kk (xAbove K, nI (i + 1)) := by
  unfold B_X4_speak_6
  rw [if_neg (show ¬ (7 : Int32) ≤ nI i from by rw [l7]; exact nI_ge hi (by omega)), if_neg (show ¬ nI K < 0 from nI_pos (by omega))]
  dsimp only
  rw [bodyV K hK V hV, h0, bd_some, if_pos (show nI 0 = 0 from rfl), aboveV K hK, bd_some, l1, nI_add]
theorem spk_hit {K V N i : Nat} (hK : K < 7) (hV : V < 4) (hi : i < 7) (hN : xBodies (4 * K + V) = nI N) (h0 : 0 < N) (hN2 : N < 100) (ht : t < 30) (hd : d ≤ 40) (kk : (Int32 × Int32) → Option (Int32 × Int32 × Int32 × (Nat → Int32))) : B_X4_speak_6 (nI 0) k kd m (nI t) tr (nI V) x (nI d) R kk (nI K, nI i) = (if 20 ≤ N then F_X4_lower R (nI 0) k kd m (nI (t + 1)) (upd tr t (nI N)) (nI N) (xAbove K) x (nI (d + 1)) else F_X4_topmost R (nI 0) k kd m (nI (t + 1)) (upd tr t (nI N)) (nI N) x (nI (d + 1))) := by
  have hne : ¬ nI N = 0 := nI_ne0 h0 (by omega)
  unfold B_X4_speak_6
  rw [if_neg (show ¬ (7 : Int32) ≤ nI i from by rw [l7]; exact nI_ge hi (by omega)), if_neg (show ¬ nI K < 0 from nI_pos (by omega))]
  dsimp only
  rw [bodyV K hK V hV, hN, bd_some, if_neg hne, bd_some, if_pos (show nI 0 = 0 from rfl), if_neg hne, if_pos (show nI d ≤ (40 : Int32) from by rw [l40]; exact nI_le hd (by omega)), x_add tr (nI N) ht (by omega), bd_some, aboveV K hK, bd_some]
  dsimp only
  rw [bd_eta, bd_eta, l1, nI_add]
  by_cases h20 : 20 ≤ N
  · rw [if_pos h20, if_pos (show (20 : Int32) ≤ nI N from by rw [l20]; exact nI_le h20 (by omega))]
  · rw [if_neg h20, if_neg (show ¬ (20 : Int32) ≤ nI N from by rw [l20]; exact nI_ge (by omega) (by omega))]
theorem spk_part {K V N i : Nat} (hK : K < 7) (hV : V < 4) (hi : i < 7) (hN : xBodies (4 * K + V) = nI N) (h0 : 0 < N) (hN2 : N < 100) (kk : (Int32 × Int32) → Option (Int32 × Int32 × Int32 × (Nat → Int32))) : B_X4_speak_6 (nI 1) k kd m (nI t) tr (nI V) x (nI d) R kk (nI K, nI i) = some (nI 0, nI 1, nI t, tr) := by
  have hne : ¬ nI N = 0 := nI_ne0 h0 (by omega)
  unfold B_X4_speak_6
  rw [if_neg (show ¬ (7 : Int32) ≤ nI i from by rw [l7]; exact nI_ge hi (by omega)), if_neg (show ¬ nI K < 0 from nI_pos (by omega))]
  dsimp only
  rw [bodyV K hK V hV, hN, bd_some, if_neg hne, bd_some, if_neg (show ¬ nI 1 = 0 from by decide)]
  rfl
theorem spk {K V A N : Nat} (h : resd K V A N) (ht : t < 30) (hd : d ≤ 40) : F_X4_speak R (nI 0) k kd m (nI t) tr (nI K) (nI V) x (nI d) = (if 20 ≤ N then F_X4_lower R (nI 0) k kd m (nI (t + 1)) (upd tr t (nI N)) (nI N) (xAbove A) x (nI (d + 1)) else F_X4_topmost R (nI 0) k kd m (nI (t + 1)) (upd tr t (nI N)) (nI N) x (nI (d + 1))) := by
  obtain ⟨hA, hK, hV, hN, hN0, hN1, h⟩ := h
  unfold F_X4_speak
  show lp _ 1000 (nI K, nI 0) = _
  rcases h with rfl | ⟨h0, ha⟩ | ⟨K2, hK2, h0, ha, h02, ha2⟩
  · exact spk_hit hK hV (by omega) hN hN0 hN1 ht hd _
  · refine (spk_miss hK hV (by omega) h0 _).trans ?_
    rw [ha]
    exact spk_hit hA hV (by omega) hN hN0 hN1 ht hd _
  · refine (spk_miss hK hV (by omega) h0 _).trans ?_
    rw [ha]
    refine (spk_miss hK2 hV (by omega) h02 _).trans ?_
    rw [ha2]
    exact spk_hit hA hV (by omega) hN hN0 hN1 ht hd _
theorem spkP {K V A N : Nat} (h : resd K V A N) : F_X4_speak R (nI 1) k kd m (nI t) tr (nI K) (nI V) x (nI d) = some (nI 0, nI 1, nI t, tr) := by
  obtain ⟨hA, hK, hV, hN, hN0, hN1, h⟩ := h
  unfold F_X4_speak
  show lp _ 1000 (nI K, nI 0) = _
  rcases h with rfl | ⟨h0, ha⟩ | ⟨K2, hK2, h0, ha, h02, ha2⟩
  · exact spk_part hK hV (by omega) hN hN0 hN1 _
  · refine (spk_miss hK hV (by omega) h0 _).trans ?_
    rw [ha]
    exact spk_part hA hV (by omega) hN hN0 hN1 _
  · refine (spk_miss hK hV (by omega) h0 _).trans ?_
    rw [ha]
    refine (spk_miss hK2 hV (by omega) h02 _).trans ?_
    rw [ha2]
    exact spk_part hA hV (by omega) hN hN0 hN1 _
theorem top10 : F_X4_topmost R (nI 0) k kd m (nI t) tr (nI 10) x (nI d) = some (x + k, nI 0, nI t, tr) := by
  unfold F_X4_topmost
  rw [if_pos (show nI 10 = (10 : Int32) from rfl)]
theorem top11 : F_X4_topmost R (nI 0) k kd m (nI t) tr (nI 11) x (nI d) = bd (R (nI 0) k kd m (nI t) tr kd (nI 0) x (nI d)) (fun u1 => some (u1.1 * (2 : Int32), u1.2.1, u1.2.2.1, u1.2.2.2)) := by
  unfold F_X4_topmost
  rw [if_neg (show ¬ nI 11 = (10 : Int32) from by decide), if_pos (show nI 11 = (11 : Int32) from rfl)]
  rfl
theorem top12 : F_X4_topmost R (nI 0) k kd m (nI t) tr (nI 12) x (nI d) = bd (R (nI 0) k kd m (nI t) tr kd (nI 1) x (nI d)) (fun u1 => some (u1.1 - m, u1.2.1, u1.2.2.1, u1.2.2.2)) := by
  unfold F_X4_topmost
  rw [if_neg (show ¬ nI 12 = (10 : Int32) from by decide), if_neg (show ¬ nI 12 = (11 : Int32) from by decide), if_pos (show nI 12 = (12 : Int32) from rfl)]
  rfl
theorem top13 : F_X4_topmost R (nI 0) k kd m (nI t) tr (nI 13) x (nI d) = (if m = k then some (nI 0, nI 1, nI t, tr) else if (m - k) = 0 then none else some (x / (m - k), nI 0, nI t, tr)) := by
  unfold F_X4_topmost
  rw [if_neg (show ¬ nI 13 = (10 : Int32) from by decide), if_neg (show ¬ nI 13 = (11 : Int32) from by decide), if_neg (show ¬ nI 13 = (12 : Int32) from by decide)]
  rfl
theorem low20 {ab : Int32} : F_X4_lower R (nI 0) k kd m (nI t) tr (nI 20) ab x (nI d) = bd (R (nI 0) k kd m (nI t) tr ab (nI 0) x (nI d)) (fun u1 => some (u1.1 - (4 : Int32), u1.2.1, u1.2.2.1, u1.2.2.2)) := by
  unfold F_X4_lower
  rw [if_pos (show nI 20 = (20 : Int32) from rfl)]
  rfl
theorem low21 {ab : Int32} : F_X4_lower R (nI 0) k kd m (nI t) tr (nI 21) ab x (nI d) = bd (R (nI 0) k kd m (nI t) tr ab (nI 3) x (nI d)) (fun u1 => bd (R u1.2.1 k kd m u1.2.2.1 u1.2.2.2 kd (nI 1) (1 : Int32) (nI d)) (fun u2 => some (u1.1 + u2.1, u2.2.1, u2.2.2.1, u2.2.2.2))) := by
  unfold F_X4_lower
  rw [if_neg (show ¬ nI 21 = (20 : Int32) from by decide), if_pos (show nI 21 = (21 : Int32) from rfl)]
  rfl
theorem low30 {ab : Int32} : F_X4_lower R (nI 0) k kd m (nI t) tr (nI 30) ab x (nI d) = bd (R (nI 0) k kd m (nI t) tr ab (nI 1) x (nI d)) (fun u1 => some ((0 : Int32) - u1.1, u1.2.1, u1.2.2.1, u1.2.2.2)) := by
  unfold F_X4_lower
  rw [if_neg (show ¬ nI 30 = (20 : Int32) from by decide), if_neg (show ¬ nI 30 = (21 : Int32) from by decide), if_pos (show nI 30 = (30 : Int32) from rfl)]
  rfl
theorem low40 {ab : Int32} : F_X4_lower R (nI 0) k kd m (nI t) tr (nI 40) ab x (nI d) = bd (R (nI 0) k kd m (nI t) tr ab (nI 2) (x / (2 : Int32)) (nI d)) (fun u1 => some (u1.1, u1.2.1, u1.2.2.1, u1.2.2.2)) := by
  unfold F_X4_lower
  rw [if_neg (show ¬ nI 40 = (20 : Int32) from by decide), if_neg (show ¬ nI 40 = (21 : Int32) from by decide), if_neg (show ¬ nI 40 = (30 : Int32) from by decide), if_pos (show nI 40 = (40 : Int32) from rfl)]
  rfl
theorem low50 {ab : Int32} : F_X4_lower R (nI 0) k kd m (nI t) tr (nI 50) ab x (nI d) = bd (R (nI 0) k kd m (nI t) tr ab (nI 0) x (nI d)) (fun u1 => some (u1.1 * (3 : Int32), u1.2.1, u1.2.2.1, u1.2.2.2)) := by
  unfold F_X4_lower
  rw [if_neg (show ¬ nI 50 = (20 : Int32) from by decide), if_neg (show ¬ nI 50 = (21 : Int32) from by decide), if_neg (show ¬ nI 50 = (30 : Int32) from by decide), if_neg (show ¬ nI 50 = (40 : Int32) from by decide), if_pos (show nI 50 = (50 : Int32) from rfl)]
  rfl
theorem low51 {ab : Int32} : F_X4_lower R (nI 0) k kd m (nI t) tr (nI 51) ab x (nI d) = bd (R (nI 0) k kd m (nI t) tr ab (nI 2) x (nI d)) (fun u1 => some (u1.1 ^^^ k, u1.2.1, u1.2.2.1, u1.2.2.2)) := by
  unfold F_X4_lower
  rw [if_neg (show ¬ nI 51 = (20 : Int32) from by decide), if_neg (show ¬ nI 51 = (21 : Int32) from by decide), if_neg (show ¬ nI 51 = (30 : Int32) from by decide), if_neg (show ¬ nI 51 = (40 : Int32) from by decide), if_neg (show ¬ nI 51 = (50 : Int32) from by decide), if_pos (show nI 51 = (51 : Int32) from rfl)]
  rfl
theorem low60 {ab : Int32} : F_X4_lower R (nI 0) k kd m (nI t) tr (nI 60) ab x (nI d) = bd (R (nI 0) k kd m (nI t) tr ab (nI 1) (x + (1 : Int32)) (nI d)) (fun u1 => some (u1.1, u1.2.1, u1.2.2.1, u1.2.2.2)) := by
  unfold F_X4_lower
  rw [if_neg (show ¬ nI 60 = (20 : Int32) from by decide), if_neg (show ¬ nI 60 = (21 : Int32) from by decide), if_neg (show ¬ nI 60 = (30 : Int32) from by decide), if_neg (show ¬ nI 60 = (40 : Int32) from by decide), if_neg (show ¬ nI 60 = (50 : Int32) from by decide), if_neg (show ¬ nI 60 = (51 : Int32) from by decide), if_pos (show nI 60 = (60 : Int32) from rfl)]
  rfl
theorem low70 {ab : Int32} : F_X4_lower R (nI 0) k kd m (nI t) tr (nI 70) ab x (nI d) = some ((9 : Int32), nI 0, nI t, tr) := by
  unfold F_X4_lower
  rw [if_neg (show ¬ nI 70 = (20 : Int32) from by decide), if_neg (show ¬ nI 70 = (21 : Int32) from by decide), if_neg (show ¬ nI 70 = (30 : Int32) from by decide), if_neg (show ¬ nI 70 = (40 : Int32) from by decide), if_neg (show ¬ nI 70 = (50 : Int32) from by decide), if_neg (show ¬ nI 70 = (51 : Int32) from by decide), if_neg (show ¬ nI 70 = (60 : Int32) from by decide), if_pos (show nI 70 = (70 : Int32) from rfl)]
theorem low71 {ab : Int32} : F_X4_lower R (nI 0) k kd m (nI t) tr (nI 71) ab x (nI d) = bd (R (nI 0) k kd m (nI t) tr ab (nI 1) x (nI d)) (fun u1 => some (u1.1 + m, u1.2.1, u1.2.2.1, u1.2.2.2)) := by
  unfold F_X4_lower
  rw [if_neg (show ¬ nI 71 = (20 : Int32) from by decide), if_neg (show ¬ nI 71 = (21 : Int32) from by decide), if_neg (show ¬ nI 71 = (30 : Int32) from by decide), if_neg (show ¬ nI 71 = (40 : Int32) from by decide), if_neg (show ¬ nI 71 = (50 : Int32) from by decide), if_neg (show ¬ nI 71 = (51 : Int32) from by decide), if_neg (show ¬ nI 71 = (60 : Int32) from by decide), if_neg (show ¬ nI 71 = (70 : Int32) from by decide)]
  rfl
end VO
theorem begins {t : Nat} (mt : Nat → Int32) (v : Int32) (ht : t < 30) : F_X8_begins (nI t) mt v = some (nI (t + 1), upd mt t v) := by
  unfold F_X8_begins
  rw [if_neg (show ¬ (30 : Int32) ≤ nI t from by rw [l30]; exact nI_ge ht (by omega)), if_neg (nI_in ht (by omega)), nI_clamp (by omega), l1, nI_add]
theorem RSs (f : Nat) (p k kd m t : Int32) (tr : Nat → Int32) (K V x d : Int32) : RS_speak (f + 1) p k kd m t tr K V x d = F_X4_speak (RS_speak f) p k kd m t tr K V x d := rfl
/-- a voice that both have, of one length -/
def Vok (row : Nat → Int32) (b K : Nat) (m : Int32) (n : Nat) (X : Nat → Int32 → Nat → (Nat → Int32) → Nat → Option (Int32 × Int32 × Int32 × (Nat → Int32))) (M : Int32 → (Nat → Int32) → Int32 → Option (Int32 × Int32 × (Nat → Int32))) : Prop := ∃ (l : List Int32) (v : Int32 → Int32), l.length ≤ n ∧ (∀ (f t d : Nat) (tr : Nat → Int32) (x : Int32), n ≤ f → t + n ≤ 30 → d + n ≤ 40 → X f x t tr d = some (v x, nI 0, nI (t + l.length), ap tr t l)) ∧ ∀ (t : Nat) (mt : Nat → Int32) (x : Int32), t + n ≤ 30 → M (nI t) mt x = some (v x, nI (t + l.length), ap mt t l)
section VP
variable {row : Nat → Int32} {b K : Nat} {m : Int32}
theorem of0 (hb : b < 6) (h : row (8 + 3 * b) = nI K) : F_X8_of row (nI b) (0 : Int32) = some (nI K) := by
  have h1 := m_of (row := row) (b := b) (w := 0) (by omega) (by omega)
  rw [Nat.add_zero, h] at h1
  exact h1
theorem of1 (hb : b < 6) (h : row (8 + 3 * b + 1) = m) : F_X8_of row (nI b) (1 : Int32) = some m := by
  have h1 := m_of (row := row) (b := b) (w := 1) (by omega) (by omega)
  rw [h] at h1
  exact h1
theorem cg (hK : K ≤ 6) (hb : b < 6) (h0 : row (8 + 3 * b) = nI K) : Vok row b K m 3 (fun f x t tr d => RS_speak f (nI 0) (nI b) (nI K) m (nI t) tr (nI K) (nI 0) x (nI d)) (fun t mt x => F_X8_coughs t row mt (nI b) x) := by
  have ho := of0 hb h0
  rcases kind7 hK with rfl | rfl | rfl | rfl | rfl | rfl | rfl
  · refine ⟨[nI 10], fun x => x + nI b, by decide, fun f t d tr x hf ht hd => ?_, fun t mt x ht => ?_⟩
    · obtain ⟨g, rfl⟩ : ∃ g, f = g + 3 := ⟨f - 3, by omega⟩
      dsimp only
      rw [RSs, spk (by decide +kernel : resd 0 0 0 10), if_neg (show ¬ 20 ≤ 10 by decide), top10]
      · rfl
      all_goals omega
    · dsimp only
      unfold F_X8_coughs
      rw [ho, bd_some, if_neg (show ¬ nI 0 = (1 : Int32) from by decide), if_neg (show ¬ nI 0 = (4 : Int32) from by decide), if_neg (show ¬ nI 0 = (6 : Int32) from by decide)]
      simp (disch := omega) only [F_X8_carefulCoughs, F_X8_plainCoughs, begins, bd_some]
      rfl
  · refine ⟨[nI 20, nI 10], fun x => x + nI b - 4, by decide, fun f t d tr x hf ht hd => ?_, fun t mt x ht => ?_⟩
    · obtain ⟨g, rfl⟩ : ∃ g, f = g + 3 := ⟨f - 3, by omega⟩
      dsimp only
      rw [RSs, spk (by decide +kernel : resd 1 0 1 20), if_pos (show 20 ≤ 20 by decide), low20, show xAbove 1 = nI 0 from by decide, RSs, spk (by decide +kernel : resd 0 0 0 10), if_neg (show ¬ 20 ≤ 10 by decide), top10, bd_some]
      · rfl
      all_goals omega
    · dsimp only
      unfold F_X8_coughs
      rw [ho, bd_some, if_pos (show nI 1 = (1 : Int32) from rfl)]
      simp (disch := omega) only [F_X8_carefulCoughs, F_X8_plainCoughs, begins, bd_some]
      rfl
  · refine ⟨[nI 10], fun x => x + nI b, by decide, fun f t d tr x hf ht hd => ?_, fun t mt x ht => ?_⟩
    · obtain ⟨g, rfl⟩ : ∃ g, f = g + 3 := ⟨f - 3, by omega⟩
      dsimp only
      rw [RSs, spk (by decide +kernel : resd 2 0 0 10), if_neg (show ¬ 20 ≤ 10 by decide), top10]
      · rfl
      all_goals omega
    · dsimp only
      unfold F_X8_coughs
      rw [ho, bd_some, if_neg (show ¬ nI 2 = (1 : Int32) from by decide), if_neg (show ¬ nI 2 = (4 : Int32) from by decide), if_neg (show ¬ nI 2 = (6 : Int32) from by decide)]
      simp (disch := omega) only [F_X8_carefulCoughs, F_X8_plainCoughs, begins, bd_some]
      rfl
  · refine ⟨[nI 10], fun x => x + nI b, by decide, fun f t d tr x hf ht hd => ?_, fun t mt x ht => ?_⟩
    · obtain ⟨g, rfl⟩ : ∃ g, f = g + 3 := ⟨f - 3, by omega⟩
      dsimp only
      rw [RSs, spk (by decide +kernel : resd 3 0 0 10), if_neg (show ¬ 20 ≤ 10 by decide), top10]
      · rfl
      all_goals omega
    · dsimp only
      unfold F_X8_coughs
      rw [ho, bd_some, if_neg (show ¬ nI 3 = (1 : Int32) from by decide), if_neg (show ¬ nI 3 = (4 : Int32) from by decide), if_neg (show ¬ nI 3 = (6 : Int32) from by decide)]
      simp (disch := omega) only [F_X8_carefulCoughs, F_X8_plainCoughs, begins, bd_some]
      rfl
  · refine ⟨[nI 50, nI 20, nI 10], fun x => (x + nI b - 4) * 3, by decide, fun f t d tr x hf ht hd => ?_, fun t mt x ht => ?_⟩
    · obtain ⟨g, rfl⟩ : ∃ g, f = g + 3 := ⟨f - 3, by omega⟩
      dsimp only
      rw [RSs, spk (by decide +kernel : resd 4 0 4 50), if_pos (show 20 ≤ 50 by decide), low50, show xAbove 4 = nI 1 from by decide, RSs, spk (by decide +kernel : resd 1 0 1 20), if_pos (show 20 ≤ 20 by decide), low20, show xAbove 1 = nI 0 from by decide, RSs, spk (by decide +kernel : resd 0 0 0 10), if_neg (show ¬ 20 ≤ 10 by decide), top10, bd_some, bd_some]
      · rfl
      all_goals omega
    · dsimp only
      unfold F_X8_coughs
      rw [ho, bd_some, if_neg (show ¬ nI 4 = (1 : Int32) from by decide), if_pos (show nI 4 = (4 : Int32) from rfl)]
      simp (disch := omega) only [F_X8_carefulCoughs, F_X8_plainCoughs, begins, bd_some]
      rfl
  · refine ⟨[nI 10], fun x => x + nI b, by decide, fun f t d tr x hf ht hd => ?_, fun t mt x ht => ?_⟩
    · obtain ⟨g, rfl⟩ : ∃ g, f = g + 3 := ⟨f - 3, by omega⟩
      dsimp only
      rw [RSs, spk (by decide +kernel : resd 5 0 0 10), if_neg (show ¬ 20 ≤ 10 by decide), top10]
      · rfl
      all_goals omega
    · dsimp only
      unfold F_X8_coughs
      rw [ho, bd_some, if_neg (show ¬ nI 5 = (1 : Int32) from by decide), if_neg (show ¬ nI 5 = (4 : Int32) from by decide), if_neg (show ¬ nI 5 = (6 : Int32) from by decide)]
      simp (disch := omega) only [F_X8_carefulCoughs, F_X8_plainCoughs, begins, bd_some]
      rfl
  · refine ⟨[nI 70], fun x => 9, by decide, fun f t d tr x hf ht hd => ?_, fun t mt x ht => ?_⟩
    · obtain ⟨g, rfl⟩ : ∃ g, f = g + 3 := ⟨f - 3, by omega⟩
      dsimp only
      rw [RSs, spk (by decide +kernel : resd 6 0 6 70), if_pos (show 20 ≤ 70 by decide), low70]
      · rfl
      all_goals omega
    · dsimp only
      unfold F_X8_coughs
      rw [ho, bd_some, if_neg (show ¬ nI 6 = (1 : Int32) from by decide), if_neg (show ¬ nI 6 = (4 : Int32) from by decide), if_pos (show nI 6 = (6 : Int32) from rfl)]
      simp (disch := omega) only [F_X8_carefulCoughs, F_X8_plainCoughs, begins, bd_some]
      rfl
theorem tg (hK : K ≤ 6) (hb : b < 6) (h0 : row (8 + 3 * b) = nI K) (h1 : row (8 + 3 * b + 1) = m) : Vok row b K m 6 (fun f x t tr d => RS_speak f (nI 0) (nI b) (nI K) m (nI t) tr (nI K) (nI 1) x (nI d)) (fun t mt x => F_X8_talks t row mt (nI b) x) := by
  have ho := of0 hb h0
  have ho1 := of1 hb h1
  obtain ⟨l, v, hl, hX, hM⟩ := cg (m := m) hK hb h0
  dsimp only at hX hM
  rcases kind7 hK with rfl | rfl | rfl | rfl | rfl | rfl | rfl
  · refine ⟨nI 11 :: l, fun x => v x * 2, by simp only [List.length_cons]; omega, fun f t d tr x hf ht hd => ?_, fun t mt x ht => ?_⟩
    · obtain ⟨g, rfl⟩ : ∃ g, f = g + 6 := ⟨f - 6, by omega⟩
      dsimp only
      rw [RSs, spk (by decide +kernel : resd 0 1 0 11), if_neg (show ¬ 20 ≤ 11 by decide), top11, hX, bd_some]
      · rw [show t + 1 + l.length = t + (nI 11 :: l).length from by simp only [List.length_cons]; omega]
        rfl
      all_goals omega
    · dsimp only
      unfold F_X8_talks
      rw [ho, bd_some, if_neg (show ¬ nI 0 = (2 : Int32) from by decide), if_neg (show ¬ nI 0 = (5 : Int32) from by decide), if_neg (show ¬ nI 0 = (6 : Int32) from by decide)]
      simp (disch := omega) only [F_X8_boldTalks, F_X8_plainTalks, begins, bd_some, hM, ho1]
      rw [show t + 1 + l.length = t + (nI 11 :: l).length from by simp only [List.length_cons]; omega]
      rfl
  · refine ⟨nI 11 :: l, fun x => v x * 2, by simp only [List.length_cons]; omega, fun f t d tr x hf ht hd => ?_, fun t mt x ht => ?_⟩
    · obtain ⟨g, rfl⟩ : ∃ g, f = g + 6 := ⟨f - 6, by omega⟩
      dsimp only
      rw [RSs, spk (by decide +kernel : resd 1 1 0 11), if_neg (show ¬ 20 ≤ 11 by decide), top11, hX, bd_some]
      · rw [show t + 1 + l.length = t + (nI 11 :: l).length from by simp only [List.length_cons]; omega]
        rfl
      all_goals omega
    · dsimp only
      unfold F_X8_talks
      rw [ho, bd_some, if_neg (show ¬ nI 1 = (2 : Int32) from by decide), if_neg (show ¬ nI 1 = (5 : Int32) from by decide), if_neg (show ¬ nI 1 = (6 : Int32) from by decide)]
      simp (disch := omega) only [F_X8_boldTalks, F_X8_plainTalks, begins, bd_some, hM, ho1]
      rw [show t + 1 + l.length = t + (nI 11 :: l).length from by simp only [List.length_cons]; omega]
      rfl
  · refine ⟨nI 30 :: nI 11 :: l, fun x => 0 - v x * 2, by simp only [List.length_cons]; omega, fun f t d tr x hf ht hd => ?_, fun t mt x ht => ?_⟩
    · obtain ⟨g, rfl⟩ : ∃ g, f = g + 6 := ⟨f - 6, by omega⟩
      dsimp only
      rw [RSs, spk (by decide +kernel : resd 2 1 2 30), if_pos (show 20 ≤ 30 by decide), low30, show xAbove 2 = nI 0 from by decide, RSs, spk (by decide +kernel : resd 0 1 0 11), if_neg (show ¬ 20 ≤ 11 by decide), top11, hX, bd_some, bd_some]
      · rw [show t + 1 + 1 + l.length = t + (nI 30 :: nI 11 :: l).length from by simp only [List.length_cons]; omega]
        rfl
      all_goals omega
    · dsimp only
      unfold F_X8_talks
      rw [ho, bd_some, if_pos (show nI 2 = (2 : Int32) from rfl)]
      simp (disch := omega) only [F_X8_boldTalks, F_X8_plainTalks, begins, bd_some, hM, ho1]
      rw [← Int32.zero_sub]
      rw [show t + 1 + 1 + l.length = t + (nI 30 :: nI 11 :: l).length from by simp only [List.length_cons]; omega]
      rfl
  · refine ⟨nI 11 :: l, fun x => v x * 2, by simp only [List.length_cons]; omega, fun f t d tr x hf ht hd => ?_, fun t mt x ht => ?_⟩
    · obtain ⟨g, rfl⟩ : ∃ g, f = g + 6 := ⟨f - 6, by omega⟩
      dsimp only
      rw [RSs, spk (by decide +kernel : resd 3 1 0 11), if_neg (show ¬ 20 ≤ 11 by decide), top11, hX, bd_some]
      · rw [show t + 1 + l.length = t + (nI 11 :: l).length from by simp only [List.length_cons]; omega]
        rfl
      all_goals omega
    · dsimp only
      unfold F_X8_talks
      rw [ho, bd_some, if_neg (show ¬ nI 3 = (2 : Int32) from by decide), if_neg (show ¬ nI 3 = (5 : Int32) from by decide), if_neg (show ¬ nI 3 = (6 : Int32) from by decide)]
      simp (disch := omega) only [F_X8_boldTalks, F_X8_plainTalks, begins, bd_some, hM, ho1]
      rw [show t + 1 + l.length = t + (nI 11 :: l).length from by simp only [List.length_cons]; omega]
      rfl
  · refine ⟨nI 11 :: l, fun x => v x * 2, by simp only [List.length_cons]; omega, fun f t d tr x hf ht hd => ?_, fun t mt x ht => ?_⟩
    · obtain ⟨g, rfl⟩ : ∃ g, f = g + 6 := ⟨f - 6, by omega⟩
      dsimp only
      rw [RSs, spk (by decide +kernel : resd 4 1 0 11), if_neg (show ¬ 20 ≤ 11 by decide), top11, hX, bd_some]
      · rw [show t + 1 + l.length = t + (nI 11 :: l).length from by simp only [List.length_cons]; omega]
        rfl
      all_goals omega
    · dsimp only
      unfold F_X8_talks
      rw [ho, bd_some, if_neg (show ¬ nI 4 = (2 : Int32) from by decide), if_neg (show ¬ nI 4 = (5 : Int32) from by decide), if_neg (show ¬ nI 4 = (6 : Int32) from by decide)]
      simp (disch := omega) only [F_X8_boldTalks, F_X8_plainTalks, begins, bd_some, hM, ho1]
      rw [show t + 1 + l.length = t + (nI 11 :: l).length from by simp only [List.length_cons]; omega]
      rfl
  · refine ⟨nI 60 :: nI 30 :: nI 11 :: l, fun x => 0 - v (x + 1) * 2, by simp only [List.length_cons]; omega, fun f t d tr x hf ht hd => ?_, fun t mt x ht => ?_⟩
    · obtain ⟨g, rfl⟩ : ∃ g, f = g + 6 := ⟨f - 6, by omega⟩
      dsimp only
      rw [RSs, spk (by decide +kernel : resd 5 1 5 60), if_pos (show 20 ≤ 60 by decide), low60, show xAbove 5 = nI 2 from by decide, RSs, spk (by decide +kernel : resd 2 1 2 30), if_pos (show 20 ≤ 30 by decide), low30, show xAbove 2 = nI 0 from by decide, RSs, spk (by decide +kernel : resd 0 1 0 11), if_neg (show ¬ 20 ≤ 11 by decide), top11, hX, bd_some, bd_some, bd_some]
      · rw [show t + 1 + 1 + 1 + l.length = t + (nI 60 :: nI 30 :: nI 11 :: l).length from by simp only [List.length_cons]; omega]
        rfl
      all_goals omega
    · dsimp only
      unfold F_X8_talks
      rw [ho, bd_some, if_neg (show ¬ nI 5 = (2 : Int32) from by decide), if_pos (show nI 5 = (5 : Int32) from rfl)]
      simp (disch := omega) only [F_X8_boldTalks, F_X8_plainTalks, begins, bd_some, hM, ho1]
      rw [← Int32.zero_sub]
      rw [show t + 1 + 1 + 1 + l.length = t + (nI 60 :: nI 30 :: nI 11 :: l).length from by simp only [List.length_cons]; omega]
      rfl
  · refine ⟨nI 71 :: nI 11 :: l, fun x => v x * 2 + m, by simp only [List.length_cons]; omega, fun f t d tr x hf ht hd => ?_, fun t mt x ht => ?_⟩
    · obtain ⟨g, rfl⟩ : ∃ g, f = g + 6 := ⟨f - 6, by omega⟩
      dsimp only
      rw [RSs, spk (by decide +kernel : resd 6 1 6 71), if_pos (show 20 ≤ 71 by decide), low71, show xAbove 6 = nI 0 from by decide, RSs, spk (by decide +kernel : resd 0 1 0 11), if_neg (show ¬ 20 ≤ 11 by decide), top11, hX, bd_some, bd_some]
      · rw [show t + 1 + 1 + l.length = t + (nI 71 :: nI 11 :: l).length from by simp only [List.length_cons]; omega]
        rfl
      all_goals omega
    · dsimp only
      unfold F_X8_talks
      rw [ho, bd_some, if_neg (show ¬ nI 6 = (2 : Int32) from by decide), if_neg (show ¬ nI 6 = (5 : Int32) from by decide), if_pos (show nI 6 = (6 : Int32) from rfl)]
      simp (disch := omega) only [F_X8_boldTalks, F_X8_plainTalks, begins, bd_some, hM, ho1]
      rw [show t + 1 + 1 + l.length = t + (nI 71 :: nI 11 :: l).length from by simp only [List.length_cons]; omega]
      rfl
theorem hg (hK : K ≤ 6) (hb : b < 6) (h0 : row (8 + 3 * b) = nI K) (h1 : row (8 + 3 * b + 1) = m) : Vok row b K m 8 (fun f x t tr d => RS_speak f (nI 0) (nI b) (nI K) m (nI t) tr (nI K) (nI 2) x (nI d)) (fun t mt x => F_X8_hushes t row mt (nI b) x) := by
  have ho := of0 hb h0
  have ho1 := of1 hb h1
  obtain ⟨l, v, hl, hX, hM⟩ := tg hK hb h0 h1
  dsimp only at hX hM
  rcases kind7 hK with rfl | rfl | rfl | rfl | rfl | rfl | rfl
  · refine ⟨nI 12 :: l, fun x => v x - m, by simp only [List.length_cons]; omega, fun f t d tr x hf ht hd => ?_, fun t mt x ht => ?_⟩
    · obtain ⟨g, rfl⟩ : ∃ g, f = g + 8 := ⟨f - 8, by omega⟩
      dsimp only
      rw [RSs, spk (by decide +kernel : resd 0 2 0 12), if_neg (show ¬ 20 ≤ 12 by decide), top12, hX, bd_some]
      · rw [show t + 1 + l.length = t + (nI 12 :: l).length from by simp only [List.length_cons]; omega]
        rfl
      all_goals omega
    · dsimp only
      unfold F_X8_hushes
      rw [ho, bd_some, if_neg (show ¬ nI 0 = (3 : Int32) from by decide), if_neg (show ¬ nI 0 = (4 : Int32) from by decide)]
      simp (disch := omega) only [F_X8_plainHushes, begins, bd_some, hM, ho1]
      rw [show t + 1 + l.length = t + (nI 12 :: l).length from by simp only [List.length_cons]; omega]
      rfl
  · refine ⟨nI 12 :: l, fun x => v x - m, by simp only [List.length_cons]; omega, fun f t d tr x hf ht hd => ?_, fun t mt x ht => ?_⟩
    · obtain ⟨g, rfl⟩ : ∃ g, f = g + 8 := ⟨f - 8, by omega⟩
      dsimp only
      rw [RSs, spk (by decide +kernel : resd 1 2 0 12), if_neg (show ¬ 20 ≤ 12 by decide), top12, hX, bd_some]
      · rw [show t + 1 + l.length = t + (nI 12 :: l).length from by simp only [List.length_cons]; omega]
        rfl
      all_goals omega
    · dsimp only
      unfold F_X8_hushes
      rw [ho, bd_some, if_neg (show ¬ nI 1 = (3 : Int32) from by decide), if_neg (show ¬ nI 1 = (4 : Int32) from by decide)]
      simp (disch := omega) only [F_X8_plainHushes, begins, bd_some, hM, ho1]
      rw [show t + 1 + l.length = t + (nI 12 :: l).length from by simp only [List.length_cons]; omega]
      rfl
  · refine ⟨nI 12 :: l, fun x => v x - m, by simp only [List.length_cons]; omega, fun f t d tr x hf ht hd => ?_, fun t mt x ht => ?_⟩
    · obtain ⟨g, rfl⟩ : ∃ g, f = g + 8 := ⟨f - 8, by omega⟩
      dsimp only
      rw [RSs, spk (by decide +kernel : resd 2 2 0 12), if_neg (show ¬ 20 ≤ 12 by decide), top12, hX, bd_some]
      · rw [show t + 1 + l.length = t + (nI 12 :: l).length from by simp only [List.length_cons]; omega]
        rfl
      all_goals omega
    · dsimp only
      unfold F_X8_hushes
      rw [ho, bd_some, if_neg (show ¬ nI 2 = (3 : Int32) from by decide), if_neg (show ¬ nI 2 = (4 : Int32) from by decide)]
      simp (disch := omega) only [F_X8_plainHushes, begins, bd_some, hM, ho1]
      rw [show t + 1 + l.length = t + (nI 12 :: l).length from by simp only [List.length_cons]; omega]
      rfl
  · refine ⟨nI 40 :: nI 12 :: l, fun x => v (x / 2) - m, by simp only [List.length_cons]; omega, fun f t d tr x hf ht hd => ?_, fun t mt x ht => ?_⟩
    · obtain ⟨g, rfl⟩ : ∃ g, f = g + 8 := ⟨f - 8, by omega⟩
      dsimp only
      rw [RSs, spk (by decide +kernel : resd 3 2 3 40), if_pos (show 20 ≤ 40 by decide), low40, show xAbove 3 = nI 0 from by decide, RSs, spk (by decide +kernel : resd 0 2 0 12), if_neg (show ¬ 20 ≤ 12 by decide), top12, hX, bd_some, bd_some]
      · rw [show t + 1 + 1 + l.length = t + (nI 40 :: nI 12 :: l).length from by simp only [List.length_cons]; omega]
        rfl
      all_goals omega
    · dsimp only
      unfold F_X8_hushes
      rw [ho, bd_some, if_pos (show nI 3 = (3 : Int32) from rfl)]
      simp (disch := omega) only [F_X8_plainHushes, begins, bd_some, hM, ho1]
      rw [show t + 1 + 1 + l.length = t + (nI 40 :: nI 12 :: l).length from by simp only [List.length_cons]; omega]
      rfl
  · refine ⟨nI 51 :: nI 12 :: l, fun x => (v x - m) ^^^ nI b, by simp only [List.length_cons]; omega, fun f t d tr x hf ht hd => ?_, fun t mt x ht => ?_⟩
    · obtain ⟨g, rfl⟩ : ∃ g, f = g + 8 := ⟨f - 8, by omega⟩
      dsimp only
      rw [RSs, spk (by decide +kernel : resd 4 2 4 51), if_pos (show 20 ≤ 51 by decide), low51, show xAbove 4 = nI 1 from by decide, RSs, spk (by decide +kernel : resd 1 2 0 12), if_neg (show ¬ 20 ≤ 12 by decide), top12, hX, bd_some, bd_some]
      · rw [show t + 1 + 1 + l.length = t + (nI 51 :: nI 12 :: l).length from by simp only [List.length_cons]; omega]
        rfl
      all_goals omega
    · dsimp only
      unfold F_X8_hushes
      rw [ho, bd_some, if_neg (show ¬ nI 4 = (3 : Int32) from by decide), if_pos (show nI 4 = (4 : Int32) from rfl)]
      simp (disch := omega) only [F_X8_plainHushes, begins, bd_some, hM, ho1]
      rw [show t + 1 + 1 + l.length = t + (nI 51 :: nI 12 :: l).length from by simp only [List.length_cons]; omega]
      rfl
  · refine ⟨nI 12 :: l, fun x => v x - m, by simp only [List.length_cons]; omega, fun f t d tr x hf ht hd => ?_, fun t mt x ht => ?_⟩
    · obtain ⟨g, rfl⟩ : ∃ g, f = g + 8 := ⟨f - 8, by omega⟩
      dsimp only
      rw [RSs, spk (by decide +kernel : resd 5 2 0 12), if_neg (show ¬ 20 ≤ 12 by decide), top12, hX, bd_some]
      · rw [show t + 1 + l.length = t + (nI 12 :: l).length from by simp only [List.length_cons]; omega]
        rfl
      all_goals omega
    · dsimp only
      unfold F_X8_hushes
      rw [ho, bd_some, if_neg (show ¬ nI 5 = (3 : Int32) from by decide), if_neg (show ¬ nI 5 = (4 : Int32) from by decide)]
      simp (disch := omega) only [F_X8_plainHushes, begins, bd_some, hM, ho1]
      rw [show t + 1 + l.length = t + (nI 12 :: l).length from by simp only [List.length_cons]; omega]
      rfl
  · refine ⟨nI 12 :: l, fun x => v x - m, by simp only [List.length_cons]; omega, fun f t d tr x hf ht hd => ?_, fun t mt x ht => ?_⟩
    · obtain ⟨g, rfl⟩ : ∃ g, f = g + 8 := ⟨f - 8, by omega⟩
      dsimp only
      rw [RSs, spk (by decide +kernel : resd 6 2 0 12), if_neg (show ¬ 20 ≤ 12 by decide), top12, hX, bd_some]
      · rw [show t + 1 + l.length = t + (nI 12 :: l).length from by simp only [List.length_cons]; omega]
        rfl
      all_goals omega
    · dsimp only
      unfold F_X8_hushes
      rw [ho, bd_some, if_neg (show ¬ nI 6 = (3 : Int32) from by decide), if_neg (show ¬ nI 6 = (4 : Int32) from by decide)]
      simp (disch := omega) only [F_X8_plainHushes, begins, bd_some, hM, ho1]
      rw [show t + 1 + l.length = t + (nI 12 :: l).length from by simp only [List.length_cons]; omega]
      rfl
end VP
