/-! PURE: how many bits. The rows wb_.. and nx_and are pasted from the given BITS rows. -/
theorem wb_tb (n : Nat) : (lN n).toBitVec = BitVec.ofNat 64 n := rfl
theorem wb_inj {a b : Int64} (h : a.toBitVec = b.toBitVec) : a = b := Int64.toBitVec_inj.mp h
theorem wb_tn {n : Nat} (h : n < 2 ^ 64) : (lN n).toBitVec.toNat = n := by rw [wb_tb, BitVec.toNat_ofNat, Nat.mod_eq_of_lt h]
theorem wb_of (x : Int64) : ∃ n, n < 2 ^ 64 ∧ x = lN n := ⟨x.toBitVec.toNat, x.toBitVec.isLt, wb_inj (by rw [wb_tb]; simp)⟩
theorem wb_cu : ∀ k, k < 64 → ((nI k).toInt64.toUInt64 &&& Int64.toUInt64 63) = UInt64.ofNat k := by decide +kernel
theorem wb_shr {n k : Nat} (hn : n < 2 ^ 64) (hk : k < 64) : ((lN n).toUInt64 >>> ((nI k).toInt64.toUInt64 &&& Int64.toUInt64 63)).toInt64 = lN (n / 2 ^ k) := by
  rw [wb_cu k hk]
  apply wb_inj
  apply BitVec.eq_of_toNat_eq
  show ((lN n).toUInt64 >>> UInt64.ofNat k).toNat = (BitVec.ofNat 64 _).toNat
  have h1 : (UInt64.ofNat k).toNat = k := by
    show (BitVec.ofNat 64 k).toNat = k
    rw [BitVec.toNat_ofNat, Nat.mod_eq_of_lt (by omega)]
  have h2 : (lN n).toUInt64.toNat = n := wb_tn hn
  rw [UInt64.toNat_shiftRight, h1, h2, Nat.mod_eq_of_lt hk, Nat.shiftRight_eq_div_pow, BitVec.toNat_ofNat, Nat.mod_eq_of_lt (Nat.lt_of_le_of_lt (Nat.div_le_self _ _) hn)]
theorem wb_and {a b : Nat} (ha : a < 2 ^ 64) (hb : b < 2 ^ 64) : lN a &&& lN b = lN (a &&& b) := by
  apply wb_inj
  rw [Int64.toBitVec_and, wb_tb, wb_tb, wb_tb]
  apply BitVec.eq_of_toNat_eq
  rw [BitVec.toNat_and, BitVec.toNat_ofNat, BitVec.toNat_ofNat, BitVec.toNat_ofNat, Nat.mod_eq_of_lt ha, Nat.mod_eq_of_lt hb, Nat.mod_eq_of_lt (Nat.and_lt_two_pow _ hb)]
theorem nx_and (a b : Nat) : nI a &&& nI b = nI (a &&& b) := by
  apply Int32.toBitVec_inj.1
  show BitVec.ofNat 32 a &&& BitVec.ofNat 32 b = BitVec.ofNat 32 (a &&& b)
  apply BitVec.eq_of_getLsbD_eq
  intro i hi
  simp [hi]
theorem cP_add (p : Nat → Bool) (a m : Nat) : (List.range (a + m)).countP p = (List.range a).countP p + (List.range m).countP (fun i => p (a + i)) := by
  induction m with
  | zero => simp
  | succ m ih => rw [← Nat.add_assoc, cP_succ, cP_succ, ih, Nat.add_assoc]
theorem cP_cong {p q : Nat → Bool} {n : Nat} (h : ∀ i, i < n → p i = q i) : (List.range n).countP p = (List.range n).countP q := by
  induction n with
  | zero => rfl
  | succ n ih => rw [cP_succ, cP_succ, ih (fun i hi => h i (by omega)), h n (by omega)]
theorem and_cat {a m : Nat} (ha : a < 256) (hm : m < 256) (b M : Nat) : (a + 256 * b) &&& (m + 256 * M) = (a &&& m) + 256 * (b &&& M) := by
  have hx : a &&& m < 256 := Nat.lt_of_le_of_lt Nat.and_le_left ha
  have h8 : ∀ (u v j : Nat), u < 256 → (u + 256 * v).testBit j = if j < 8 then u.testBit j else v.testBit (j - 8) := fun u v j hu => by
    rw [Nat.add_comm]
    exact Nat.testBit_two_pow_mul_add v (i := 8) hu j
  apply Nat.eq_of_testBit_eq
  intro j
  rw [Nat.testBit_and, h8 a b j ha, h8 m M j hm, h8 _ _ j hx]
  by_cases h : j < 8
  · rw [if_pos h, if_pos h, if_pos h, Nat.testBit_and]
  · rw [if_neg h, if_neg h, if_neg h, Nat.testBit_and]
def swA (M N : Nat) : Nat := N - (N / 2 &&& M)
def swB (M Z : Nat) : Nat := (Z &&& M) + (Z / 4 &&& M)
def swC (M Y : Nat) : Nat := (Y + Y / 16) &&& M
def pc8 (B : Nat) : Nat := (List.range 8).countP fun i => B.testBit i
theorem pc8_le (B : Nat) : pc8 B ≤ 8 := cP_le _ _
theorem byA : ∀ B, B < 256 → ∀ r, r < 2 → ((B / 2 + 128 * r) &&& 85) = (B / 2 &&& 85) := by decide +kernel
theorem byB : ∀ B, B < 256 → ∀ r, r < 4 → ((B / 4 + 64 * r) &&& 51) = (B / 4 &&& 51) := by decide +kernel
theorem byC : ∀ B, B < 256 → ∀ r, r < 5 → ((B + B / 16 + 16 * r) &&& 15) = ((B + B / 16) &&& 15) := by decide +kernel
theorem byD : ∀ B, B < 256 → swA 85 B < 256 ∧ swB 51 (swA 85 B) < 256 ∧ swB 51 (swA 85 B) % 16 ≤ 4 ∧ swB 51 (swA 85 B) / 16 ≤ 4 ∧ swC 15 (swB 51 (swA 85 B)) = pc8 B := by decide +kernel
theorem swA_cat {B : Nat} (hB : B < 256) (R M : Nat) : swA (85 + 256 * M) (B + 256 * R) = swA 85 B + 256 * swA M R := by
  unfold swA
  rw [show (B + 256 * R) / 2 = (B / 2 + 128 * (R % 2)) + 256 * (R / 2) by omega, and_cat (by omega) (by omega), byA B hB (R % 2) (by omega)]
  have h1 : B / 2 &&& 85 ≤ B / 2 := Nat.and_le_left
  have h2 : R / 2 &&& M ≤ R / 2 := Nat.and_le_left
  omega
theorem swB_cat {B : Nat} (hB : B < 256) (R M : Nat) : swB (51 + 256 * M) (B + 256 * R) = swB 51 B + 256 * swB M R := by
  unfold swB
  rw [show (B + 256 * R) / 4 = (B / 4 + 64 * (R % 4)) + 256 * (R / 4) by omega, and_cat hB (by omega), and_cat (by omega) (by omega), byB B hB (R % 4) (by omega)]
  omega
theorem swC_cat {B : Nat} (hB : B < 256) (h1 : B % 16 ≤ 4) (h2 : B / 16 ≤ 4) {R : Nat} (hR : R % 16 ≤ 4) (M : Nat) : swC (15 + 256 * M) (B + 256 * R) = swC 15 B + 256 * swC M R := by
  unfold swC
  rw [show B + 256 * R + (B + 256 * R) / 16 = (B + B / 16 + 16 * (R % 16)) + 256 * (R + R / 16) by omega, and_cat (by omega) (by omega), byC B hB (R % 16) (by omega)]
def mk (c : Nat) : Nat → Nat
  | 0 => 0
  | n + 1 => c + 256 * mk c n
def wsum : Nat → Nat → Nat
  | 0, _ => 0
  | n + 1, N => pc8 (N % 256) + 256 * wsum n (N / 256)
def dsum : Nat → Nat → Nat
  | 0, _ => 0
  | n + 1, N => pc8 (N % 256) + dsum n (N / 256)
theorem sw_all : ∀ n N, N < 256 ^ n → swB (mk 51 n) (swA (mk 85 n) N) % 16 ≤ 4 ∧ swC (mk 15 n) (swB (mk 51 n) (swA (mk 85 n) N)) = wsum n N
  | 0, N, h => by
    have : N = 0 := by
      rw [Nat.pow_zero] at h
      omega
    subst this
    decide
  | n + 1, N, h => by
    have hR : N / 256 < 256 ^ n := by
      rw [Nat.pow_succ] at h
      exact (Nat.div_lt_iff_lt_mul (by omega)).mpr h
    obtain ⟨i1, i2⟩ := sw_all n (N / 256) hR
    have hB : N % 256 < 256 := Nat.mod_lt _ (by omega)
    obtain ⟨d1, d2, d3, d4, d5⟩ := byD (N % 256) hB
    have hN : N = N % 256 + 256 * (N / 256) := by omega
    have e1 : swA (mk 85 (n + 1)) N = swA 85 (N % 256) + 256 * swA (mk 85 n) (N / 256) := by
      show swA (85 + 256 * mk 85 n) N = _
      rw [← swA_cat hB]
      rw [← hN]
    have e2 : swB (mk 51 (n + 1)) (swA (mk 85 (n + 1)) N) = swB 51 (swA 85 (N % 256)) + 256 * swB (mk 51 n) (swA (mk 85 n) (N / 256)) := by
      rw [e1]
      exact swB_cat d1 _ _
    rw [e2]
    refine ⟨by omega, ?_⟩
    show swC (15 + 256 * mk 15 n) _ = pc8 (N % 256) + 256 * wsum n (N / 256)
    rw [swC_cat d2 d3 d4 i1, i2, d5]
theorem cnt_dsum : ∀ n N, (List.range (8 * n)).countP (fun i => N.testBit i) = dsum n N
  | 0, N => rfl
  | n + 1, N => by
    show _ = pc8 (N % 256) + dsum n (N / 256)
    rw [← cnt_dsum n (N / 256), show 8 * (n + 1) = 8 + 8 * n by omega, cP_add]
    congr 1
    · refine cP_cong (fun i hi => ?_)
      rw [show (256 : Nat) = 2 ^ 8 from rfl, Nat.testBit_mod_two_pow, decide_eq_true hi, Bool.true_and]
    · refine cP_cong (fun i hi => ?_)
      rw [← Nat.testBit_shiftRight, Nat.shiftRight_eq_div_pow]
theorem dc {r m Q : Nat} (h : r < m) : (r + m * Q) / m = Q := by
  rw [Nat.add_mul_div_left _ _ (by omega), Nat.div_eq_of_lt h, Nat.zero_add]
theorem ta1 {p0 p1 w W1 W2 W3 : Nat} (e0 : w = p0 + 256 * W1) (e1 : W1 = p1 + 256 * W2) {p2 : Nat} (e2 : W2 = p2 + 256 * W3) : w + W1 = ((p0 + p1) + 256 * (p1 + p2)) + 65536 * (W2 + W3) := by
  subst e2 e1 e0
  omega
theorem ta2 {p0 p1 p2 p3 p4 p5 p6 p7 w W1 W2 W3 W4 W5 W6 : Nat} (e0 : w = p0 + 256 * W1) (e1 : W1 = p1 + 256 * W2) (e2 : W2 = p2 + 256 * W3) (e3 : W3 = p3 + 256 * W4) (e4 : W4 = p4 + 256 * W5) (e5 : W5 = p5 + 256 * W6) (e6 : W6 = p6 + 256 * p7) : w + W1 + (W2 + W3) = ((p0 + p1 + p2 + p3) + 256 * (p1 + p2 + p3 + p4) + 65536 * (p2 + p3 + p4 + p5) + 16777216 * (p3 + p4 + p5 + p6)) + 4294967296 * (W4 + W5 + W6 + p7) := by
  subst e6 e5 e4 e3 e2 e1 e0
  omega
theorem ta3 {p0 p1 p2 p3 p4 p5 p6 p7 w W1 W2 W3 W4 W5 W6 : Nat} (e0 : w = p0 + 256 * W1) (e1 : W1 = p1 + 256 * W2) (e2 : W2 = p2 + 256 * W3) (e3 : W3 = p3 + 256 * W4) (e4 : W4 = p4 + 256 * W5) (e5 : W5 = p5 + 256 * W6) (e6 : W6 = p6 + 256 * p7) : w + W1 + (W2 + W3) + (W4 + W5 + W6 + p7) = (p0 + (p1 + (p2 + (p3 + (p4 + (p5 + (p6 + p7))))))) + 128 * (2 * (W1 + W2 + W3 + W4 + W5 + W6 + p7)) := by
  subst e6 e5 e4 e3 e2 e1 e0
  omega
theorem ta4 {a b : Nat} (ha : a ≤ 16) (hb : b ≤ 16) : a + 256 * b < 65536 := by omega
theorem ta5 {a b c d : Nat} (ha : a ≤ 32) (hb : b ≤ 32) (hc : c ≤ 32) (hd : d ≤ 32) : a + 256 * b + 65536 * c + 16777216 * d < 4294967296 := by omega
theorem ta6 {p X Y B : Nat} (h : p ≤ 8) (e : X = p + 256 * Y) (hY : Y ≤ B) : X ≤ 8 + 256 * B := by omega
theorem s2_ {a b : Nat} (ha : a ≤ 8) (hb : b ≤ 8) : a + b ≤ 16 := by omega
theorem s4_ {a b c d : Nat} (ha : a ≤ 8) (hb : b ≤ 8) (hc : c ≤ 8) (hd : d ≤ 8) : a + b + c + d ≤ 32 := by omega
theorem s8_ {p0 p1 p2 p3 p4 p5 p6 p7 : Nat} (h0 : p0 ≤ 8) (h1 : p1 ≤ 8) (h2 : p2 ≤ 8) (h3 : p3 ≤ 8) (h4 : p4 ≤ 8) (h5 : p5 ≤ 8) (h6 : p6 ≤ 8) (h7 : p7 ≤ 8) : p0 + (p1 + (p2 + (p3 + (p4 + (p5 + (p6 + p7)))))) < 128 := by omega
theorem tail8a {p0 p1 p2 p3 p4 p5 p6 p7 w W1 W2 W3 W4 W5 W6 : Nat} (h0 : p0 ≤ 8) (h1 : p1 ≤ 8) (h2 : p2 ≤ 8) (h3 : p3 ≤ 8) (h4 : p4 ≤ 8) (h5 : p5 ≤ 8) (h6 : p6 ≤ 8) (h7 : p7 ≤ 8) (e0 : w = p0 + 256 * W1) (e1 : W1 = p1 + 256 * W2) (e2 : W2 = p2 + 256 * W3) (e3 : W3 = p3 + 256 * W4) (e4 : W4 = p4 + 256 * W5) (e5 : W5 = p5 + 256 * W6) (e6 : W6 = p6 + 256 * p7) : (w + w / 256 + (w + w / 256) / 65536 + (w + w / 256 + (w + w / 256) / 65536) / 4294967296) % 128 = p0 + (p1 + (p2 + (p3 + (p4 + (p5 + (p6 + p7)))))) ∧ w < 2 ^ 60 := by
  have d1 : w / 256 = W1 := (congrArg (fun z => z / 256) e0).trans (dc (Nat.lt_of_le_of_lt h0 (by decide)))
  rw [d1]
  have d2 : (w + W1) / 65536 = W2 + W3 := (congrArg (fun z => z / 65536) (ta1 e0 e1 e2)).trans (dc (ta4 (s2_ h0 h1) (s2_ h1 h2)))
  rw [d2]
  have d3 : (w + W1 + (W2 + W3)) / 4294967296 = W4 + W5 + W6 + p7 := (congrArg (fun z => z / 4294967296) (ta2 e0 e1 e2 e3 e4 e5 e6)).trans (dc (ta5 (s4_ h0 h1 h2 h3) (s4_ h1 h2 h3 h4) (s4_ h2 h3 h4 h5) (s4_ h3 h4 h5 h6)))
  rw [d3, ta3 e0 e1 e2 e3 e4 e5 e6]
  constructor
  · rw [Nat.add_mul_mod_self_left, Nat.mod_eq_of_lt (s8_ h0 h1 h2 h3 h4 h5 h6 h7)]
  · exact Nat.lt_of_le_of_lt (ta6 h0 e0 (ta6 h1 e1 (ta6 h2 e2 (ta6 h3 e3 (ta6 h4 e4 (ta6 h5 e5 (ta6 h6 e6 h7))))))) (by decide)
theorem wsum_s (n N : Nat) : wsum (n + 1) N = pc8 (N % 256) + 256 * wsum n (N / 256) := rfl
theorem dsum_s (n N : Nat) : dsum (n + 1) N = pc8 (N % 256) + dsum n (N / 256) := rfl
theorem wsum_1 (N : Nat) : wsum 1 N = pc8 (N % 256) := by
  rw [wsum_s 0 N]
  unfold wsum
  omega
theorem dsum_1 (N : Nat) : dsum 1 N = pc8 (N % 256) := by
  rw [dsum_s 0 N]
  unfold dsum
  omega
theorem tail8 (N : Nat) : (wsum 8 N + wsum 8 N / 256 + (wsum 8 N + wsum 8 N / 256) / 65536 + (wsum 8 N + wsum 8 N / 256 + (wsum 8 N + wsum 8 N / 256) / 65536) / 4294967296) % 128 = dsum 8 N ∧ wsum 8 N < 2 ^ 60 := by
  rw [dsum_s 7, dsum_s 6, dsum_s 5, dsum_s 4, dsum_s 3, dsum_s 2, dsum_s 1, dsum_1]
  exact tail8a (pc8_le (N % 256)) (pc8_le (N / 256 % 256)) (pc8_le (N / 256 / 256 % 256)) (pc8_le (N / 256 / 256 / 256 % 256)) (pc8_le (N / 256 / 256 / 256 / 256 % 256)) (pc8_le (N / 256 / 256 / 256 / 256 / 256 % 256)) (pc8_le (N / 256 / 256 / 256 / 256 / 256 / 256 % 256)) (pc8_le (N / 256 / 256 / 256 / 256 / 256 / 256 / 256 % 256)) (wsum_s 7 (N)) (wsum_s 6 (N / 256)) (wsum_s 5 (N / 256 / 256)) (wsum_s 4 (N / 256 / 256 / 256)) (wsum_s 3 (N / 256 / 256 / 256 / 256)) (wsum_s 2 (N / 256 / 256 / 256 / 256 / 256)) (by rw [wsum_s 1, wsum_1])
theorem bcJ (x : Int64) : F_J13_bitCount_95d88 x = some (nI ((List.range 64).countP fun i => x.toBitVec.getLsbD i)) := by
  obtain ⟨N, hN, rfl⟩ := wb_of x
  have hN8 : N < 256 ^ 8 := hN
  obtain ⟨-, s1⟩ := sw_all 8 N hN8
  obtain ⟨t1, t2⟩ := tail8 N
  have hc : (List.range 64).countP (fun i => (lN N).toBitVec.getLsbD i) = dsum 8 N := by
    rw [← cnt_dsum 8 N]
    refine cP_cong (fun i hi => ?_)
    rw [← BitVec.testBit_toNat, wb_tn hN]
  rw [hc]
  have m5 : (6148914691236517205 : Int64) = lN (mk 85 8) := by decide +kernel
  have m3 : (3689348814741910323 : Int64) = lN (mk 51 8) := by decide +kernel
  have mf : (1085102592571150095 : Int64) = lN (mk 15 8) := by decide +kernel
  have b5 : mk 85 8 < 2 ^ 64 := by decide +kernel
  have b3 : mk 51 8 < 2 ^ 64 := by decide +kernel
  have bf : mk 15 8 < 2 ^ 64 := by decide +kernel
  have sh : ∀ (n k : Nat) (K : Int32), K = nI k → n < 2 ^ 64 → k < 64 → ((lN n).toUInt64 >>> (K.toInt64.toUInt64 &&& Int64.toUInt64 63)).toInt64 = lN (n / 2 ^ k) := fun n k K hK hn hk => by rw [hK]; exact wb_shr hn hk
  have z1 : N / 2 &&& mk 85 8 ≤ N := Nat.le_trans Nat.and_le_left (Nat.div_le_self _ _)
  have a1 : lN N - (((lN N).toUInt64 >>> ((1 : Int32).toInt64.toUInt64 &&& Int64.toUInt64 63)).toInt64 &&& (6148914691236517205 : Int64)) = lN (swA (mk 85 8) N) := by
    rw [sh N 1 1 l1 hN (by omega), m5, wb_and (Nat.lt_of_le_of_lt (Nat.div_le_self _ _) hN) b5, lN_sub (by exact z1)]
    rfl
  have hA : swA (mk 85 8) N < 2 ^ 64 := Nat.lt_of_le_of_lt (Nat.sub_le _ _) hN
  unfold F_J13_bitCount_95d88
  rw [a1]
  generalize swA (mk 85 8) N = A at *
  have a2 : (lN A &&& (3689348814741910323 : Int64)) + (((lN A).toUInt64 >>> ((2 : Int32).toInt64.toUInt64 &&& Int64.toUInt64 63)).toInt64 &&& (3689348814741910323 : Int64)) = lN (swB (mk 51 8) A) := by
    rw [sh A 2 2 l2 hA (by omega), m3, wb_and hA b3, wb_and (Nat.lt_of_le_of_lt (Nat.div_le_self _ _) hA) b3, lN_add]
    rfl
  have hY : swB (mk 51 8) A < 2 ^ 63 := by
    have y1 : A &&& mk 51 8 ≤ mk 51 8 := Nat.and_le_right
    have y2 : A / 4 &&& mk 51 8 ≤ mk 51 8 := Nat.and_le_right
    have y3 : mk 51 8 + mk 51 8 < 2 ^ 63 := by decide +kernel
    unfold swB
    omega
  rw [a2]
  generalize swB (mk 51 8) A = Y at *
  have a3 : (lN Y + ((lN Y).toUInt64 >>> ((4 : Int32).toInt64.toUInt64 &&& Int64.toUInt64 63)).toInt64) &&& (1085102592571150095 : Int64) = lN (wsum 8 N) := by
    rw [sh Y 4 4 l4 (by omega) (by omega), lN_add, mf, wb_and (by omega) bf, ← s1]
    rfl
  rw [a3]
  generalize wsum 8 N = w at *
  have a4 : lN w + ((lN w).toUInt64 >>> ((8 : Int32).toInt64.toUInt64 &&& Int64.toUInt64 63)).toInt64 = lN (w + w / 256) := by
    rw [sh w 8 8 l8 (by omega) (by omega), lN_add]
  rw [a4]
  generalize hs1 : w + w / 256 = S1 at *
  have a5 : lN S1 + ((lN S1).toUInt64 >>> ((16 : Int32).toInt64.toUInt64 &&& Int64.toUInt64 63)).toInt64 = lN (S1 + S1 / 65536) := by
    rw [sh S1 16 16 l16 (by omega) (by omega), lN_add]
  rw [a5]
  generalize hs2 : S1 + S1 / 65536 = S2 at *
  have a6 : lN S2 + ((lN S2).toUInt64 >>> ((32 : Int32).toInt64.toUInt64 &&& Int64.toUInt64 63)).toInt64 = lN (S2 + S2 / 4294967296) := by
    rw [sh S2 32 32 l32 (by omega) (by omega), lN_add]
  rw [a6, lN_i, show (127 : Int32) = nI 127 from by decide, nx_and, Nat.and_two_pow_sub_one_eq_mod _ 7, ← t1]
theorem kern : ∀ w M, 0 < M → M < 2 ^ w → (List.range w).countP (fun i => (M &&& (M - 1)).testBit i) + 1 = (List.range w).countP (fun i => M.testBit i)
  | 0, M, h0, h => by
    rw [Nat.pow_zero] at h
    omega
  | w + 1, M, h0, h => by
    have hd : M / 2 < 2 ^ w := by
      rw [Nat.pow_succ] at h
      omega
    have e : ∀ X : Nat, (List.range (w + 1)).countP (fun i => X.testBit i) = (if X % 2 = 1 then 1 else 0) + (List.range w).countP (fun i => (X / 2).testBit i) := by
      intro X
      rw [Nat.add_comm w 1, cP_add]
      congr 1
      · by_cases hx : X % 2 = 1
        · rw [if_pos hx]
          simp [List.range_succ, hx]
        · rw [if_neg hx]
          simp [List.range_succ, hx]
      · refine cP_cong (fun i _ => ?_)
        rw [Nat.add_comm 1 i, Nat.testBit_add_one]
    have e2 : (List.range (w + 1)).countP (fun i => (M &&& (M - 1)).testBit i) = (if M % 2 = 1 ∧ (M - 1) % 2 = 1 then 1 else 0) + (List.range w).countP (fun i => (M / 2 &&& (M - 1) / 2).testBit i) := by
      rw [Nat.add_comm w 1, cP_add]
      congr 1
      · by_cases hx : M % 2 = 1 <;> by_cases hy : (M - 1) % 2 = 1
        · simp [List.range_succ, hx, hy, Nat.testBit_and]
        · simp [List.range_succ, hx, hy, Nat.testBit_and]
        · simp [List.range_succ, hx, hy, Nat.testBit_and]
        · simp [List.range_succ, hx, hy, Nat.testBit_and]
      · refine cP_cong (fun i _ => ?_)
        rw [Nat.testBit_and, Nat.testBit_and, Nat.add_comm 1 i, Nat.testBit_add_one, Nat.testBit_add_one]
    rw [e2, e M, if_neg (by omega)]
    rcases Nat.mod_two_eq_zero_or_one M with hm | hm
    · rw [if_neg (by omega), show (M - 1) / 2 = M / 2 - 1 by omega]
      have ih := kern w (M / 2) (by omega) hd
      omega
    · rw [if_pos hm, show (M - 1) / 2 = M / 2 by omega, Nat.and_self]
      omega
theorem bitsM (x : Int64) : F_X8_bits x = some (nI ((List.range 64).countP fun i => x.toBitVec.getLsbD i)) := by
  obtain ⟨N, hN, rfl⟩ := wb_of x
  have hc : ∀ M, M < 2 ^ 64 → (List.range 64).countP (fun i => (lN M).toBitVec.getLsbD i) = (List.range 64).countP (fun i => M.testBit i) := fun M hM => cP_cong (fun i hi => by rw [← BitVec.testBit_toNat, wb_tn hM])
  rw [hc N hN]
  have hcle := cP_le (fun i => N.testBit i) 64
  unfold F_X8_bits
  refine lp_go (fun j (s : Int32 × Int64) => s.1 = nI j ∧ ∃ M, M < 2 ^ 64 ∧ s.2 = lN M ∧ j + (List.range 64).countP (fun i => M.testBit i) = (List.range 64).countP (fun i => N.testBit i)) (fun o => o = some (nI ((List.range 64).countP fun i => N.testBit i))) ((List.range 64).countP fun i => N.testBit i) (by omega) ⟨rfl, N, hN, rfl, by omega⟩ ?_ ?_
  · rintro j ⟨s1, s2⟩ hj ⟨h1, M, hM, h2, h3⟩
    dsimp only at h1 h2
    subst h1 h2
    have hM0 : 0 < M := by
      rcases Nat.eq_zero_or_pos M with rfl | h
      · simp at h3
        omega
      · exact h
    have hk := kern 64 M hM0 hM
    refine Or.inr ⟨(nI (j + 1), lN (M &&& (M - 1))), ⟨rfl, M &&& (M - 1), Nat.lt_of_le_of_lt Nat.and_le_left hM, rfl, by omega⟩, fun k => ?_⟩
    have hne : ¬ lg_cmp (lN M) (0 : Int64) = 0 := by
      rw [lg_cmp_eq]
      intro e
      have e1 : (lN M).toBitVec.toNat = (Int64.toBitVec 0).toNat := by rw [e]
      rw [wb_tn hM, show (Int64.toBitVec 0).toNat = 0 from by decide +kernel] at e1
      omega
    unfold B_X8_bits_4
    rw [if_neg hne]
    dsimp only
    rw [show (1 : Int64) = lN 1 from rfl, lN_sub (show 1 ≤ M from hM0), wb_and hM (by omega), l1, nI_add]
  · rintro ⟨s1, s2⟩ ⟨h1, M, hM, h2, h3⟩ k
    dsimp only at h1 h2
    subst h1 h2
    have hM0 : M = 0 := by
      rcases Nat.eq_zero_or_pos M with h | h
      · exact h
      · have hk := kern 64 M h hM
        omega
    subst hM0
    unfold B_X8_bits_4
    rw [if_pos (show lg_cmp (lN 0) (0 : Int64) = 0 from by decide +kernel)]
