def B_X8_unsaid_48 (row_f : Nat → Int32) (broken_f : Nat → Int64) (k22 : (Int64 × Int32 × Int32 × Int32 × (Nat → Int32) × (Nat → Int32) × (Nat → Int32) × (Nat → Int32)) → Option (Int64 × Int32 × Int32 × (Nat → Int32) × (Nat → Int32) × (Nat → Int32) × (Nat → Int32) × (Nat → Int32))) (v22_0 : Int64) (v22_1 : Int32) (k48 : (Int32 × Int32 × Int32 × Int32 × (Nat → Int32) × (Nat → Int32) × (Nat → Int32) × (Nat → Int32)) → Option (Int64 × Int32 × Int32 × (Nat → Int32) × (Nat → Int32) × (Nat → Int32) × (Nat → Int32) × (Nat → Int32))) (v48 : (Int32 × Int32 × Int32 × Int32 × (Nat → Int32) × (Nat → Int32) × (Nat → Int32) × (Nat → Int32))) : Option (Int64 × Int32 × Int32 × (Nat → Int32) × (Nat → Int32) × (Nat → Int32) × (Nat → Int32) × (Nat → Int32)) := if (row_f (2 : Int32).toNatClampNeg) ≤ v48.2.1 then (if v48.1 = 0 then (k22 ((v22_0 ||| (0 : Int64)), (v22_1 + (1 : Int32)), v48.2.2.1, v48.2.2.2.1, v48.2.2.2.2.1, v48.2.2.2.2.2.1, v48.2.2.2.2.2.2.1, v48.2.2.2.2.2.2.2)) else (k22 ((v22_0 ||| ((1 : Int64) <<< (v22_1.toInt64 &&& 63))), (v22_1 + (1 : Int32)), v48.2.2.1, v48.2.2.2.1, v48.2.2.2.2.1, v48.2.2.2.2.2.1, v48.2.2.2.2.2.2.1, v48.2.2.2.2.2.2.2))) else (if v48.1 = 0 then (if v48.1 = 0 then (k22 ((v22_0 ||| (0 : Int64)), (v22_1 + (1 : Int32)), v48.2.2.1, v48.2.2.2.1, v48.2.2.2.2.1, v48.2.2.2.2.2.1, v48.2.2.2.2.2.2.1, v48.2.2.2.2.2.2.2)) else (k22 ((v22_0 ||| ((1 : Int64) <<< (v22_1.toInt64 &&& 63))), (v22_1 + (1 : Int32)), v48.2.2.1, v48.2.2.2.1, v48.2.2.2.2.1, v48.2.2.2.2.2.1, v48.2.2.2.2.2.2.1, v48.2.2.2.2.2.2.2))) else (bd (F_X8_doesAvoid v48.2.2.1 v48.2.2.2.1 row_f broken_f v48.2.2.2.2.1 v48.2.2.2.2.2.1 v48.2.2.2.2.2.2.1 v48.2.2.2.2.2.2.2 v48.2.1 v22_1) (fun (u2 : (Int32 × Int32 × Int32 × (Nat → Int32) × (Nat → Int32) × (Nat → Int32) × (Nat → Int32))) => k48 (u2.1, (v48.2.1 + (1 : Int32)), u2.2.1, u2.2.2.1, u2.2.2.2.1, u2.2.2.2.2.1, u2.2.2.2.2.2.1, u2.2.2.2.2.2.2))))
def B_X8_unsaid_22 (row_f : Nat → Int32) (errs_f : Nat → Int32) (broken_f : Nat → Int64) (wh : Int32) (k22 : (Int64 × Int32 × Int32 × Int32 × (Nat → Int32) × (Nat → Int32) × (Nat → Int32) × (Nat → Int32)) → Option (Int64 × Int32 × Int32 × (Nat → Int32) × (Nat → Int32) × (Nat → Int32) × (Nat → Int32) × (Nat → Int32))) (v22 : (Int64 × Int32 × Int32 × Int32 × (Nat → Int32) × (Nat → Int32) × (Nat → Int32) × (Nat → Int32))) : Option (Int64 × Int32 × Int32 × (Nat → Int32) × (Nat → Int32) × (Nat → Int32) × (Nat → Int32) × (Nat → Int32)) := if (64 : Int32) ≤ v22.2.1 then (if wh = 0 then (some (v22.1, v22.2.2.1, v22.2.2.2.1, errs_f, v22.2.2.2.2.1, v22.2.2.2.2.2.1, v22.2.2.2.2.2.2.1, v22.2.2.2.2.2.2.2)) else (bd (F_X8_bits v22.1) (fun (u2 : Int32) => some ((u2.toInt64), v22.2.2.1, v22.2.2.2.1, errs_f, v22.2.2.2.2.1, v22.2.2.2.2.2.1, v22.2.2.2.2.2.2.1, v22.2.2.2.2.2.2.2)))) else (if (row_f (2 : Int32).toNatClampNeg) ≤ 0 then (lp (B_X8_unsaid_48 row_f broken_f k22 v22.1 v22.2.1) fuelC ((0 : Int32), (0 : Int32), v22.2.2.1, v22.2.2.2.1, v22.2.2.2.2.1, v22.2.2.2.2.2.1, v22.2.2.2.2.2.2.1, v22.2.2.2.2.2.2.2)) else (lp (B_X8_unsaid_48 row_f broken_f k22 v22.1 v22.2.1) fuelC ((1 : Int32), (0 : Int32), v22.2.2.1, v22.2.2.2.1, v22.2.2.2.2.1, v22.2.2.2.2.2.1, v22.2.2.2.2.2.2.1, v22.2.2.2.2.2.2.2)))
def F_X8_unsaid (mfit : Int32) (known : Int32) (row_f : Nat → Int32) (errs_f : Nat → Int32) (broken_f : Nat → Int64) (isFit_f : Nat → Int32) (breaks_f : Nat → Int32) (facts_f : Nat → Int32) (pile_f : Nat → Int32) (wh : Int32) : Option (Int64 × Int32 × Int32 × (Nat → Int32) × (Nat → Int32) × (Nat → Int32) × (Nat → Int32) × (Nat → Int32)) := bd (F_X8_in wh (0 : Int32) (1 : Int32)) (fun (u1 : Int32) => if u1 = 0 then (bd (F_X8_error errs_f (-1000000001 : Int32)) (fun (u2 : (Int32 × (Nat → Int32))) => some ((u2.1.toInt64), mfit, known, u2.2, isFit_f, breaks_f, facts_f, pile_f))) else (lp (B_X8_unsaid_22 row_f errs_f broken_f wh) fuelC ((0 : Int64), (0 : Int32), mfit, known, isFit_f, breaks_f, facts_f, pile_f)))
theorem hdX8_unsaid : yX8_unsaid.cls ≠ "java/lang/invoke/MethodHandle" ∧ yX8_unsaid.cls ≠ "java/lang/invoke/VarHandle" ∧ (parseMethodDescriptor yX8_unsaid.desc).map (fun d => d.parameters.length) = some 1 := by decide +kernel
set_option maxHeartbeats 4000000 in
set_option maxRecDepth 100000 in
theorem c_X8_unsaid (G : xG) (t : Nat) (row : Nat) (kpt : Nat) (errs : Nat) (bitsOf : Nat) (sizeOf : Nat) (cels : Nat) (broken : Nat) (isFit : Nat) (breaks : Nat) (act : Nat) (wth : Nat) (facts : Nat) (pile : Nat) (trc : Nat) (images : Int32) (mfit : Int32) (known : Int32) (laid : Int32) (hre : Int32) (opnd : Int32) (bad : Int32) (usg : Int32) (trcd : Int32) (isP : Int32) (row_f : Nat → Int32) (errs_f : Nat → Int32) (broken_f : Nat → Int64) (isFit_f : Nat → Int32) (breaks_f : Nat → Int32) (facts_f : Nat → Int32) (pile_f : Nat → Int32) (wh : Int32)  (u : (Int64 × Int32 × Int32 × (Nat → Int32) × (Nat → Int32) × (Nat → Int32) × (Nat → Int32) × (Nat → Int32))) (hF : F_X8_unsaid mfit known row_f errs_f broken_f isFit_f breaks_f facts_f pile_f wh = some u) : Kl G yX8_unsaid (Cond.code yX8_unsaid cX8_unsaid 7 (some .long) :: TBL) { frames := 6, cells := 0, slots := 0, locals := 137 } [.ref t, .int wh] [(t, .inr (8, [.ref row, .ref kpt, .int images, .ref errs, .ref bitsOf, .ref sizeOf, .ref cels, .ref broken, .ref isFit, .ref breaks, .int mfit, .int known, .ref act, .ref wth, .ref facts, .ref pile, .int laid, .int hre, .int opnd, .int bad, .int usg, .ref trc, .int trcd, .int isP])), (row, .inl (xI G, 400, .inl row_f)), (errs, .inl (xI G, 7, .inl errs_f)), (broken, .inl (xJ G, 729, .inr (.inl broken_f))), (isFit, .inl (xZ G, 729, .inl isFit_f)), (breaks, .inl (xI G, 64, .inl breaks_f)), (facts, .inl (xI G, 3, .inl facts_f)), (pile, .inl (xI G, 60, .inl pile_f))] [(t, .inr (8, [.ref row, .ref kpt, .int images, .ref errs, .ref bitsOf, .ref sizeOf, .ref cels, .ref broken, .ref isFit, .ref breaks, .int u.2.1, .int u.2.2.1, .ref act, .ref wth, .ref facts, .ref pile, .int laid, .int hre, .int opnd, .int bad, .int usg, .ref trc, .int trcd, .int isP])), (row, .inl (xI G, 400, .inl row_f)), (errs, .inl (xI G, 7, .inl u.2.2.2.1)), (broken, .inl (xJ G, 729, .inr (.inl broken_f))), (isFit, .inl (xZ G, 729, .inl u.2.2.2.2.1)), (breaks, .inl (xI G, 64, .inl u.2.2.2.2.2.1)), (facts, .inl (xI G, 3, .inl u.2.2.2.2.2.2.1)), (pile, .inl (xI G, 60, .inl u.2.2.2.2.2.2.2))] u.1 := by
  intro l sz
  refine Met.ofW (cc := cX8_unsaid) (maxL := 7) (ret := (some .long)) (by decide) rfl ?_
  intro p e s m args below meth c s₁ B hml hv
  obtain ⟨rfl, hsz, hP, hD0, hm⟩ := hv
  have hx := B.exec
  have hb := B.bytes
  have hr := B.returns
  have hts := atoms_spec (ws := Cond.code yX8_unsaid cX8_unsaid 7 (some .long) :: TBL) B.pre
  have hown : s.vm.findClass RX8 = some m.cls := findClass_of_methodNamed B.named
  have hlocks := B.notSynchronized
  subst hsz
  have hD := hD0.self (sz := s.heap.size)
  generalize hAe : va_A [(t, .inr (8, [.ref row, .ref kpt, .int images, .ref errs, .ref bitsOf, .ref sizeOf, .ref cels, .ref broken, .ref isFit, .ref breaks, .int mfit, .int known, .ref act, .ref wth, .ref facts, .ref pile, .int laid, .int hre, .int opnd, .int bad, .int usg, .ref trc, .int trcd, .int isP])), (row, .inl (xI G, 400, .inl row_f)), (errs, .inl (xI G, 7, .inl errs_f)), (broken, .inl (xJ G, 729, .inr (.inl broken_f))), (isFit, .inl (xZ G, 729, .inl isFit_f)), (breaks, .inl (xI G, 64, .inl breaks_f)), (facts, .inl (xI G, 3, .inl facts_f)), (pile, .inl (xI G, 60, .inl pile_f))] s.heap.size = A at hD hm ⊢
  have hA : ∀ q : Nat, s.heap.size ≤ q → A q := fun q h => by rw [← hAe]; exact Or.inr h
  have hK := hm.1
  have hZ : xAnd p m c cX8_unsaid 7 s _ (Cond.code yX8_unsaid cX8_unsaid 7 (some .long) :: TBL) RX8 G A := ⟨⟨hx, hb, hml, hown, hts⟩, tcons, hA, hm⟩
  have hP : va_P G.1 vwCl [(t, .inr (8, [.ref row, .ref kpt, .int images, .ref errs, .ref bitsOf, .ref sizeOf, .ref cels, .ref broken, .ref isFit, .ref breaks, .int mfit, .int known, .ref act, .ref wth, .ref facts, .ref pile, .int laid, .int hre, .int opnd, .int bad, .int usg, .ref trc, .int trcd, .int isP])), (row, .inl (xI G, 400, .inl row_f)), (errs, .inl (xI G, 7, .inl errs_f)), (broken, .inl (xJ G, 729, .inr (.inl broken_f))), (isFit, .inl (xZ G, 729, .inl isFit_f)), (breaks, .inl (xI G, 64, .inl breaks_f)), (facts, .inl (xI G, 3, .inl facts_f)), (pile, .inl (xI G, 60, .inl pile_f))] s.heap := hP
  have hl := lv_entry ([.ref t, .int wh]) (n := 7) (Nat.le_of_ble_eq_true rfl)
  rw [lg_entry_eq]
  generalize (lg_sl ([.ref t, .int wh]) ++ List.replicate (7 - (lg_sl ([.ref t, .int wh])).length) Slot.unset).toArray = ls at hl ⊢
  have hl : lv_has ls 7 [(0, .ref t), (1, .int wh)] := hl
  generalize hQ : MQ below _ _ s _ _ _ = Q
  refine xGo (A := A) hP (fun H locs hP hS => ?_)
  unfold F_X8_unsaid at hF
  refine lv_iload_n hx hb dX8_unsaid_0 rfl (lv_at hl 1 rfl) ?_
  refine lv_iconst (v := 0) hx hb dX8_unsaid_1 (by decide) ?_
  refine lv_iconst (v := 1) hx hb dX8_unsaid_2 (by decide) ?_
  obtain ⟨u1, e1, hF⟩ := bdS hF
  refine xEndI (xRunS (As := [.int wh, .int (0 : Int32), .int (1 : Int32)]) (rest := []) hZ (c_X8_in G wh (0 : Int32) (1 : Int32) u1 e1 l H.size) m190 m191 m5 m192 3 hdX8_in ⟨Nat.le_of_ble_eq_true rfl, Nat.le_of_ble_eq_true rfl⟩ ⟨rfl, rfl⟩ hP hD hS [] rfl rfl rfl hl.1 rfl (Nat.le_of_ble_eq_true rfl) dX8_unsaid_3 ⟨Nat.zero_le _, Nat.zero_le _⟩) hP hD hS hA [] rfl rfl rfl (fun H locs n1 hP hD hS => ?_)
  have hP : va_P G.1 vwCl [(t, .inr (8, [.ref row, .ref kpt, .int images, .ref errs, .ref bitsOf, .ref sizeOf, .ref cels, .ref broken, .ref isFit, .ref breaks, .int mfit, .int known, .ref act, .ref wth, .ref facts, .ref pile, .int laid, .int hre, .int opnd, .int bad, .int usg, .ref trc, .int trcd, .int isP])), (row, .inl (xI G, 400, .inl row_f)), (errs, .inl (xI G, 7, .inl errs_f)), (broken, .inl (xJ G, 729, .inr (.inl broken_f))), (isFit, .inl (xZ G, 729, .inl isFit_f)), (breaks, .inl (xI G, 64, .inl breaks_f)), (facts, .inl (xI G, 3, .inl facts_f)), (pile, .inl (xI G, 60, .inl pile_f))] H := hP
  have hD : va_D A [(t, .inr (8, [.ref row, .ref kpt, .int images, .ref errs, .ref bitsOf, .ref sizeOf, .ref cels, .ref broken, .ref isFit, .ref breaks, .int mfit, .int known, .ref act, .ref wth, .ref facts, .ref pile, .int laid, .int hre, .int opnd, .int bad, .int usg, .ref trc, .int trcd, .int isP])), (row, .inl (xI G, 400, .inl row_f)), (errs, .inl (xI G, 7, .inl errs_f)), (broken, .inl (xJ G, 729, .inr (.inl broken_f))), (isFit, .inl (xZ G, 729, .inl isFit_f)), (breaks, .inl (xI G, 64, .inl breaks_f)), (facts, .inl (xI G, 3, .inl facts_f)), (pile, .inl (xI G, 60, .inl pile_f))] := hD
  refine lv_if_ne (tgt := 17) hx hb dX8_unsaid_6 (by decide) (fun c6 => ?_) (fun c6 => ?_)
  · have hF := itN c6 hF
    refine lv_lconst (v := 0) hx hb dX8_unsaid_17 (by decide) ?_
    refine lv_lstore_n (lv' := [(2, .long (0 : Int64)), (0, .ref t), (1, .int wh)]) hx hb dX8_unsaid_18 rfl hl (by decide) rfl (fun ls hl => ?_)
    refine lv_iconst (v := 0) hx hb dX8_unsaid_19 (by decide) ?_
    refine lv_istore (lv' := [(4, .int (0 : Int32)), (2, .long (0 : Int64)), (0, .ref t), (1, .int wh)]) hx hb dX8_unsaid_20 hl (by decide) rfl (fun ls hl => ?_)
    refine xLoop8 (body := (B_X8_unsaid_22 row_f errs_f broken_f wh)) (fun (v22_0 : Int64) (v22_1 : Int32) (v22_2 : Int32) (v22_3 : Int32) (v22_4 : Nat → Int32) (v22_5 : Nat → Int32) (v22_6 : Nat → Int32) (v22_7 : Nat → Int32) H locs ls => va_P G.1 vwCl [(t, .inr (8, [.ref row, .ref kpt, .int images, .ref errs, .ref bitsOf, .ref sizeOf, .ref cels, .ref broken, .ref isFit, .ref breaks, .int v22_2, .int v22_3, .ref act, .ref wth, .ref facts, .ref pile, .int laid, .int hre, .int opnd, .int bad, .int usg, .ref trc, .int trcd, .int isP])), (row, .inl (xI G, 400, .inl row_f)), (errs, .inl (xI G, 7, .inl errs_f)), (broken, .inl (xJ G, 729, .inr (.inl broken_f))), (isFit, .inl (xZ G, 729, .inl v22_4)), (breaks, .inl (xI G, 64, .inl v22_5)), (facts, .inl (xI G, 3, .inl v22_6)), (pile, .inl (xI G, 60, .inl v22_7))] H ∧ va_D A [(t, .inr (8, [.ref row, .ref kpt, .int images, .ref errs, .ref bitsOf, .ref sizeOf, .ref cels, .ref broken, .ref isFit, .ref breaks, .int v22_2, .int v22_3, .ref act, .ref wth, .ref facts, .ref pile, .int laid, .int hre, .int opnd, .int bad, .int usg, .ref trc, .int trcd, .int isP])), (row, .inl (xI G, 400, .inl row_f)), (errs, .inl (xI G, 7, .inl errs_f)), (broken, .inl (xJ G, 729, .inr (.inl broken_f))), (isFit, .inl (xZ G, 729, .inl v22_4)), (breaks, .inl (xI G, 64, .inl v22_5)), (facts, .inl (xI G, 3, .inl v22_6)), (pile, .inl (xI G, 60, .inl v22_7))] ∧ va_S A s.heap H locs ∧ lv_has ls 7 [(0, .ref t), (1, .int wh), (2, .long v22_0), (4, .int v22_1)]) (fun N22 v22_0 v22_1 v22_2 v22_3 v22_4 v22_5 v22_6 v22_7 ih22 H locs ls hI hF => ?_) fuelC (0 : Int64) (0 : Int32) mfit known isFit_f breaks_f facts_f pile_f H locs ls ⟨hP, hD, hS, lv_sub hl [2, 3, 1, 0] rfl⟩ hF
    obtain ⟨hP, hD, hS, hl⟩ := hI
    unfold B_X8_unsaid_22 at hF
    refine lv_iload hx hb dX8_unsaid_22 (lv_at hl 3 rfl) ?_
    refine lv_bipush (v := 64) hx hb dX8_unsaid_24 (by decide) ?_
    refine lv_icmp_ge (tgt := 102) hx hb dX8_unsaid_26 (by decide) (fun c26 => ?_) (fun c26 => ?_)
    · have hF := itP c26 hF
      refine lv_iload_n hx hb dX8_unsaid_102 rfl (lv_at hl 1 rfl) ?_
      refine lv_if_ne (tgt := 110) hx hb dX8_unsaid_103 (by decide) (fun c103 => ?_) (fun c103 => ?_)
      · have hF := itN c103 hF
        refine lv_lload_n hx hb dX8_unsaid_110 rfl (lv_at hl 2 rfl) ?_
        obtain ⟨u2, e2, hF⟩ := bdS hF
        refine xEndI (xRunS (As := [.long v22_0]) (rest := []) hZ (c_X8_bits G v22_0 u2 e2 l H.size) m414 m415 m5 m416 1 hdX8_bits ⟨Nat.le_of_ble_eq_true rfl, Nat.le_of_ble_eq_true rfl⟩ ⟨rfl, rfl⟩ hP hD hS [] rfl rfl rfl hl.1 rfl (Nat.le_of_ble_eq_true rfl) dX8_unsaid_111 ⟨Nat.zero_le _, Nat.zero_le _⟩) hP hD hS hA [] rfl rfl rfl (fun H locs n2 hP hD hS => ?_)
        have hP : va_P G.1 vwCl [(t, .inr (8, [.ref row, .ref kpt, .int images, .ref errs, .ref bitsOf, .ref sizeOf, .ref cels, .ref broken, .ref isFit, .ref breaks, .int v22_2, .int v22_3, .ref act, .ref wth, .ref facts, .ref pile, .int laid, .int hre, .int opnd, .int bad, .int usg, .ref trc, .int trcd, .int isP])), (row, .inl (xI G, 400, .inl row_f)), (errs, .inl (xI G, 7, .inl errs_f)), (broken, .inl (xJ G, 729, .inr (.inl broken_f))), (isFit, .inl (xZ G, 729, .inl v22_4)), (breaks, .inl (xI G, 64, .inl v22_5)), (facts, .inl (xI G, 3, .inl v22_6)), (pile, .inl (xI G, 60, .inl v22_7))] H := hP
        have hD : va_D A [(t, .inr (8, [.ref row, .ref kpt, .int images, .ref errs, .ref bitsOf, .ref sizeOf, .ref cels, .ref broken, .ref isFit, .ref breaks, .int v22_2, .int v22_3, .ref act, .ref wth, .ref facts, .ref pile, .int laid, .int hre, .int opnd, .int bad, .int usg, .ref trc, .int trcd, .int isP])), (row, .inl (xI G, 400, .inl row_f)), (errs, .inl (xI G, 7, .inl errs_f)), (broken, .inl (xJ G, 729, .inr (.inl broken_f))), (isFit, .inl (xZ G, 729, .inl v22_4)), (breaks, .inl (xI G, 64, .inl v22_5)), (facts, .inl (xI G, 3, .inl v22_6)), (pile, .inl (xI G, 60, .inl v22_7))] := hD
        refine lv_i2l hx hb dX8_unsaid_114 rfl ?_
        obtain rfl := Option.some.inj hF
        rw [← hQ]
        exact W.lret (v := (u2.toInt64)) hx hb hr (fun t ht hW => ⟨⟨_, (), rfl, rfl, xLf hP ht⟩, hS.F ht⟩) hS.2.2 dX8_unsaid_115
      · have hF := itP c103 hF
        refine lv_lload_n hx hb dX8_unsaid_106 rfl (lv_at hl 2 rfl) ?_
        refine lv_goto (tgt := 115) hx hb dX8_unsaid_107 (by decide) ?_
        obtain rfl := Option.some.inj hF
        rw [← hQ]
        exact W.lret (v := v22_0) hx hb hr (fun t ht hW => ⟨⟨_, (), rfl, rfl, xLf hP ht⟩, hS.F ht⟩) hS.2.2 dX8_unsaid_115
    · have hF := itN c26 hF
      refine lv_aload_n hx hb dX8_unsaid_29 rfl (lv_at hl 0 rfl) ?_
      refine va_get (ci := 8) (v := .ref row) (C := RX8) (T := TX8) (N := 24) hx hb hts (fun w h => tcons w (xin8 w h)) hown hK hP 0 rfl rfl 0 (by decide) (hts _ (tcons _ m137)) (fun _ h9 => h9) rfl dX8_unsaid_30 ?_
      refine lv_iconst (v := 2) hx hb dX8_unsaid_33 (by decide) ?_
      refine va_iald hx hb hK hP 1 0 rfl rfl (by unfold vp_in; decide) dX8_unsaid_34 ?_
      refine lv_if_le (tgt := 42) hx hb dX8_unsaid_35 (by decide) (fun c35 => ?_) (fun c35 => ?_)
      · have hF := itP c35 hF
        refine lv_iconst (v := 0) hx hb dX8_unsaid_42 (by decide) ?_
        refine lv_istore (lv' := [(5, .int (0 : Int32)), (0, .ref t), (1, .int wh), (2, .long v22_0), (4, .int v22_1)]) hx hb dX8_unsaid_43 hl (by decide) rfl (fun ls hl => ?_)
        refine lv_iconst (v := 0) hx hb dX8_unsaid_45 (by decide) ?_
        refine lv_istore (lv' := [(6, .int (0 : Int32)), (5, .int (0 : Int32)), (0, .ref t), (1, .int wh), (2, .long v22_0), (4, .int v22_1)]) hx hb dX8_unsaid_46 hl (by decide) rfl (fun ls hl => ?_)
        refine xLoop8 (body := (B_X8_unsaid_48 row_f broken_f (lp (B_X8_unsaid_22 row_f errs_f broken_f wh) N22) v22_0 v22_1)) (fun (v48_0 : Int32) (v48_1 : Int32) (v48_2 : Int32) (v48_3 : Int32) (v48_4 : Nat → Int32) (v48_5 : Nat → Int32) (v48_6 : Nat → Int32) (v48_7 : Nat → Int32) H locs ls => va_P G.1 vwCl [(t, .inr (8, [.ref row, .ref kpt, .int images, .ref errs, .ref bitsOf, .ref sizeOf, .ref cels, .ref broken, .ref isFit, .ref breaks, .int v48_2, .int v48_3, .ref act, .ref wth, .ref facts, .ref pile, .int laid, .int hre, .int opnd, .int bad, .int usg, .ref trc, .int trcd, .int isP])), (row, .inl (xI G, 400, .inl row_f)), (errs, .inl (xI G, 7, .inl errs_f)), (broken, .inl (xJ G, 729, .inr (.inl broken_f))), (isFit, .inl (xZ G, 729, .inl v48_4)), (breaks, .inl (xI G, 64, .inl v48_5)), (facts, .inl (xI G, 3, .inl v48_6)), (pile, .inl (xI G, 60, .inl v48_7))] H ∧ va_D A [(t, .inr (8, [.ref row, .ref kpt, .int images, .ref errs, .ref bitsOf, .ref sizeOf, .ref cels, .ref broken, .ref isFit, .ref breaks, .int v48_2, .int v48_3, .ref act, .ref wth, .ref facts, .ref pile, .int laid, .int hre, .int opnd, .int bad, .int usg, .ref trc, .int trcd, .int isP])), (row, .inl (xI G, 400, .inl row_f)), (errs, .inl (xI G, 7, .inl errs_f)), (broken, .inl (xJ G, 729, .inr (.inl broken_f))), (isFit, .inl (xZ G, 729, .inl v48_4)), (breaks, .inl (xI G, 64, .inl v48_5)), (facts, .inl (xI G, 3, .inl v48_6)), (pile, .inl (xI G, 60, .inl v48_7))] ∧ va_S A s.heap H locs ∧ lv_has ls 7 [(0, .ref t), (1, .int wh), (2, .long v22_0), (4, .int v22_1), (5, .int v48_0), (6, .int v48_1)]) (fun N48 v48_0 v48_1 v48_2 v48_3 v48_4 v48_5 v48_6 v48_7 ih48 H locs ls hI hF => ?_) fuelC (0 : Int32) (0 : Int32) v22_2 v22_3 v22_4 v22_5 v22_6 v22_7 H locs ls ⟨hP, hD, hS, lv_sub hl [2, 3, 4, 5, 1, 0] rfl⟩ hF
        obtain ⟨hP, hD, hS, hl⟩ := hI
        unfold B_X8_unsaid_48 at hF
        refine lv_iload hx hb dX8_unsaid_48 (lv_at hl 5 rfl) ?_
        refine lv_aload_n hx hb dX8_unsaid_50 rfl (lv_at hl 0 rfl) ?_
        refine va_get (ci := 8) (v := .ref row) (C := RX8) (T := TX8) (N := 24) hx hb hts (fun w h => tcons w (xin8 w h)) hown hK hP 0 rfl rfl 0 (by decide) (hts _ (tcons _ m137)) (fun _ h9 => h9) rfl dX8_unsaid_51 ?_
        refine lv_iconst (v := 2) hx hb dX8_unsaid_54 (by decide) ?_
        refine va_iald hx hb hK hP 1 0 rfl rfl (by unfold vp_in; decide) dX8_unsaid_55 ?_
        refine lv_icmp_ge (tgt := 80) hx hb dX8_unsaid_56 (by decide) (fun c56 => ?_) (fun c56 => ?_)
        · have hF := itP c56 hF
          refine lv_lload_n hx hb dX8_unsaid_80 rfl (lv_at hl 2 rfl) ?_
          refine lv_iload hx hb dX8_unsaid_81 (lv_at hl 4 rfl) ?_
          refine lv_if_eq (tgt := 93) hx hb dX8_unsaid_83 (by decide) (fun c83 => ?_) (fun c83 => ?_)
          · have hF := itP c83 hF
            refine lv_lconst (v := 0) hx hb dX8_unsaid_93 (by decide) ?_
            refine lv_lor hx hb dX8_unsaid_94 ?_
            refine lv_lstore_n (lv' := [(2, .long (v22_0 ||| (0 : Int64))), (0, .ref t), (1, .int wh), (4, .int v22_1), (5, .int v48_0), (6, .int v48_1)]) hx hb dX8_unsaid_95 rfl hl (by decide) rfl (fun ls hl => ?_)
            refine lv_iinc (v := (v22_1 + (1 : Int32))) (lv' := [(4, .int (v22_1 + (1 : Int32))), (2, .long (v22_0 ||| (0 : Int64))), (0, .ref t), (1, .int wh), (5, .int v48_0), (6, .int v48_1)]) hx hb dX8_unsaid_96 hl (k := 3) rfl (xInc_1 _) (by decide) rfl (fun ls hl => ?_)
            refine lv_goto (tgt := 22) hx hb dX8_unsaid_99 (by decide) ?_
            exact ih22 (v22_0 ||| (0 : Int64)) (v22_1 + (1 : Int32)) v48_2 v48_3 v48_4 v48_5 v48_6 v48_7 H locs ls ⟨hP, hD, hS, lv_sub hl [2, 3, 1, 0] rfl⟩ hF
          · have hF := itN c83 hF
            refine lv_lconst (v := 1) hx hb dX8_unsaid_86 (by decide) ?_
            refine lv_iload hx hb dX8_unsaid_87 (lv_at hl 3 rfl) ?_
            refine lv_lshl hx hb dX8_unsaid_89 rfl ?_
            refine lv_goto (tgt := 94) hx hb dX8_unsaid_90 (by decide) ?_
            refine lv_lor hx hb dX8_unsaid_94 ?_
            refine lv_lstore_n (lv' := [(2, .long (v22_0 ||| ((1 : Int64) <<< (v22_1.toInt64 &&& 63)))), (0, .ref t), (1, .int wh), (4, .int v22_1), (5, .int v48_0), (6, .int v48_1)]) hx hb dX8_unsaid_95 rfl hl (by decide) rfl (fun ls hl => ?_)
            refine lv_iinc (v := (v22_1 + (1 : Int32))) (lv' := [(4, .int (v22_1 + (1 : Int32))), (2, .long (v22_0 ||| ((1 : Int64) <<< (v22_1.toInt64 &&& 63)))), (0, .ref t), (1, .int wh), (5, .int v48_0), (6, .int v48_1)]) hx hb dX8_unsaid_96 hl (k := 3) rfl (xInc_1 _) (by decide) rfl (fun ls hl => ?_)
            refine lv_goto (tgt := 22) hx hb dX8_unsaid_99 (by decide) ?_
            exact ih22 (v22_0 ||| ((1 : Int64) <<< (v22_1.toInt64 &&& 63))) (v22_1 + (1 : Int32)) v48_2 v48_3 v48_4 v48_5 v48_6 v48_7 H locs ls ⟨hP, hD, hS, lv_sub hl [2, 3, 1, 0] rfl⟩ hF
        · have hF := itN c56 hF
          refine lv_iload hx hb dX8_unsaid_59 (lv_at hl 4 rfl) ?_
          refine lv_if_eq (tgt := 80) hx hb dX8_unsaid_61 (by decide) (fun c61 => ?_) (fun c61 => ?_)
          · have hF := itP c61 hF
            refine lv_lload_n hx hb dX8_unsaid_80 rfl (lv_at hl 2 rfl) ?_
            refine lv_iload hx hb dX8_unsaid_81 (lv_at hl 4 rfl) ?_
            refine lv_if_eq (tgt := 93) hx hb dX8_unsaid_83 (by decide) (fun c83 => ?_) (fun c83 => ?_)
            · have hF := itP c83 hF
              refine lv_lconst (v := 0) hx hb dX8_unsaid_93 (by decide) ?_
              refine lv_lor hx hb dX8_unsaid_94 ?_
              refine lv_lstore_n (lv' := [(2, .long (v22_0 ||| (0 : Int64))), (0, .ref t), (1, .int wh), (4, .int v22_1), (5, .int v48_0), (6, .int v48_1)]) hx hb dX8_unsaid_95 rfl hl (by decide) rfl (fun ls hl => ?_)
              refine lv_iinc (v := (v22_1 + (1 : Int32))) (lv' := [(4, .int (v22_1 + (1 : Int32))), (2, .long (v22_0 ||| (0 : Int64))), (0, .ref t), (1, .int wh), (5, .int v48_0), (6, .int v48_1)]) hx hb dX8_unsaid_96 hl (k := 3) rfl (xInc_1 _) (by decide) rfl (fun ls hl => ?_)
              refine lv_goto (tgt := 22) hx hb dX8_unsaid_99 (by decide) ?_
              exact ih22 (v22_0 ||| (0 : Int64)) (v22_1 + (1 : Int32)) v48_2 v48_3 v48_4 v48_5 v48_6 v48_7 H locs ls ⟨hP, hD, hS, lv_sub hl [2, 3, 1, 0] rfl⟩ hF
            · have hF := itN c83 hF
              refine lv_lconst (v := 1) hx hb dX8_unsaid_86 (by decide) ?_
              refine lv_iload hx hb dX8_unsaid_87 (lv_at hl 3 rfl) ?_
              refine lv_lshl hx hb dX8_unsaid_89 rfl ?_
              refine lv_goto (tgt := 94) hx hb dX8_unsaid_90 (by decide) ?_
              refine lv_lor hx hb dX8_unsaid_94 ?_
              refine lv_lstore_n (lv' := [(2, .long (v22_0 ||| ((1 : Int64) <<< (v22_1.toInt64 &&& 63)))), (0, .ref t), (1, .int wh), (4, .int v22_1), (5, .int v48_0), (6, .int v48_1)]) hx hb dX8_unsaid_95 rfl hl (by decide) rfl (fun ls hl => ?_)
              refine lv_iinc (v := (v22_1 + (1 : Int32))) (lv' := [(4, .int (v22_1 + (1 : Int32))), (2, .long (v22_0 ||| ((1 : Int64) <<< (v22_1.toInt64 &&& 63)))), (0, .ref t), (1, .int wh), (5, .int v48_0), (6, .int v48_1)]) hx hb dX8_unsaid_96 hl (k := 3) rfl (xInc_1 _) (by decide) rfl (fun ls hl => ?_)
              refine lv_goto (tgt := 22) hx hb dX8_unsaid_99 (by decide) ?_
              exact ih22 (v22_0 ||| ((1 : Int64) <<< (v22_1.toInt64 &&& 63))) (v22_1 + (1 : Int32)) v48_2 v48_3 v48_4 v48_5 v48_6 v48_7 H locs ls ⟨hP, hD, hS, lv_sub hl [2, 3, 1, 0] rfl⟩ hF
          · have hF := itN c61 hF
            refine lv_aload_n hx hb dX8_unsaid_64 rfl (lv_at hl 0 rfl) ?_
            refine lv_iload hx hb dX8_unsaid_65 (lv_at hl 5 rfl) ?_
            refine lv_iload hx hb dX8_unsaid_67 (lv_at hl 3 rfl) ?_
            obtain ⟨u2, e2, hF⟩ := bdS hF
            refine xEndI (xRunV (As := [.int v48_1, .int v22_1]) (rest := []) hZ (c_X8_doesAvoid G t row kpt errs bitsOf sizeOf cels broken isFit breaks act wth facts pile trc images v48_2 v48_3 laid hre opnd bad usg trcd isP row_f broken_f v48_4 v48_5 v48_6 v48_7 v48_1 v22_1 u2 e2 l H.size) m299 m300 m301 m5 m302 2 ⟨rfl, hdX8_doesAvoid⟩ ⟨Nat.le_of_ble_eq_true rfl, Nat.le_of_ble_eq_true rfl⟩ ⟨rfl, rfl⟩ hP hD hS 0 8 rfl rfl rfl [0, 1, 3, 4, 5, 6, 7] rfl rfl rfl hl.1 rfl (Nat.le_of_ble_eq_true rfl) dX8_unsaid_69 ⟨Nat.zero_le _, Nat.zero_le _⟩) hP hD hS hA [0, 1, 3, 4, 5, 6, 7] rfl rfl rfl (fun H locs n2 hP hD hS => ?_)
            have hP : va_P G.1 vwCl [(t, .inr (8, [.ref row, .ref kpt, .int images, .ref errs, .ref bitsOf, .ref sizeOf, .ref cels, .ref broken, .ref isFit, .ref breaks, .int u2.2.1, .int u2.2.2.1, .ref act, .ref wth, .ref facts, .ref pile, .int laid, .int hre, .int opnd, .int bad, .int usg, .ref trc, .int trcd, .int isP])), (row, .inl (xI G, 400, .inl row_f)), (errs, .inl (xI G, 7, .inl errs_f)), (broken, .inl (xJ G, 729, .inr (.inl broken_f))), (isFit, .inl (xZ G, 729, .inl u2.2.2.2.1)), (breaks, .inl (xI G, 64, .inl u2.2.2.2.2.1)), (facts, .inl (xI G, 3, .inl u2.2.2.2.2.2.1)), (pile, .inl (xI G, 60, .inl u2.2.2.2.2.2.2))] H := hP
            have hD : va_D A [(t, .inr (8, [.ref row, .ref kpt, .int images, .ref errs, .ref bitsOf, .ref sizeOf, .ref cels, .ref broken, .ref isFit, .ref breaks, .int u2.2.1, .int u2.2.2.1, .ref act, .ref wth, .ref facts, .ref pile, .int laid, .int hre, .int opnd, .int bad, .int usg, .ref trc, .int trcd, .int isP])), (row, .inl (xI G, 400, .inl row_f)), (errs, .inl (xI G, 7, .inl errs_f)), (broken, .inl (xJ G, 729, .inr (.inl broken_f))), (isFit, .inl (xZ G, 729, .inl u2.2.2.2.1)), (breaks, .inl (xI G, 64, .inl u2.2.2.2.2.1)), (facts, .inl (xI G, 3, .inl u2.2.2.2.2.2.1)), (pile, .inl (xI G, 60, .inl u2.2.2.2.2.2.2))] := hD
            refine lv_istore (lv' := [(5, .int u2.1), (0, .ref t), (1, .int wh), (2, .long v22_0), (4, .int v22_1), (6, .int v48_1)]) hx hb dX8_unsaid_72 hl (by decide) rfl (fun ls hl => ?_)
            refine lv_iinc (v := (v48_1 + (1 : Int32))) (lv' := [(6, .int (v48_1 + (1 : Int32))), (5, .int u2.1), (0, .ref t), (1, .int wh), (2, .long v22_0), (4, .int v22_1)]) hx hb dX8_unsaid_74 hl (k := 5) rfl (xInc_1 _) (by decide) rfl (fun ls hl => ?_)
            refine lv_goto (tgt := 48) hx hb dX8_unsaid_77 (by decide) ?_
            exact ih48 u2.1 (v48_1 + (1 : Int32)) u2.2.1 u2.2.2.1 u2.2.2.2.1 u2.2.2.2.2.1 u2.2.2.2.2.2.1 u2.2.2.2.2.2.2 H locs ls ⟨hP, hD, hS, lv_sub hl [2, 3, 4, 5, 1, 0] rfl⟩ hF
      · have hF := itN c35 hF
        refine lv_iconst (v := 1) hx hb dX8_unsaid_38 (by decide) ?_
        refine lv_goto (tgt := 43) hx hb dX8_unsaid_39 (by decide) ?_
        refine lv_istore (lv' := [(5, .int (1 : Int32)), (0, .ref t), (1, .int wh), (2, .long v22_0), (4, .int v22_1)]) hx hb dX8_unsaid_43 hl (by decide) rfl (fun ls hl => ?_)
        refine lv_iconst (v := 0) hx hb dX8_unsaid_45 (by decide) ?_
        refine lv_istore (lv' := [(6, .int (0 : Int32)), (5, .int (1 : Int32)), (0, .ref t), (1, .int wh), (2, .long v22_0), (4, .int v22_1)]) hx hb dX8_unsaid_46 hl (by decide) rfl (fun ls hl => ?_)
        refine xLoop8 (body := (B_X8_unsaid_48 row_f broken_f (lp (B_X8_unsaid_22 row_f errs_f broken_f wh) N22) v22_0 v22_1)) (fun (v48_0 : Int32) (v48_1 : Int32) (v48_2 : Int32) (v48_3 : Int32) (v48_4 : Nat → Int32) (v48_5 : Nat → Int32) (v48_6 : Nat → Int32) (v48_7 : Nat → Int32) H locs ls => va_P G.1 vwCl [(t, .inr (8, [.ref row, .ref kpt, .int images, .ref errs, .ref bitsOf, .ref sizeOf, .ref cels, .ref broken, .ref isFit, .ref breaks, .int v48_2, .int v48_3, .ref act, .ref wth, .ref facts, .ref pile, .int laid, .int hre, .int opnd, .int bad, .int usg, .ref trc, .int trcd, .int isP])), (row, .inl (xI G, 400, .inl row_f)), (errs, .inl (xI G, 7, .inl errs_f)), (broken, .inl (xJ G, 729, .inr (.inl broken_f))), (isFit, .inl (xZ G, 729, .inl v48_4)), (breaks, .inl (xI G, 64, .inl v48_5)), (facts, .inl (xI G, 3, .inl v48_6)), (pile, .inl (xI G, 60, .inl v48_7))] H ∧ va_D A [(t, .inr (8, [.ref row, .ref kpt, .int images, .ref errs, .ref bitsOf, .ref sizeOf, .ref cels, .ref broken, .ref isFit, .ref breaks, .int v48_2, .int v48_3, .ref act, .ref wth, .ref facts, .ref pile, .int laid, .int hre, .int opnd, .int bad, .int usg, .ref trc, .int trcd, .int isP])), (row, .inl (xI G, 400, .inl row_f)), (errs, .inl (xI G, 7, .inl errs_f)), (broken, .inl (xJ G, 729, .inr (.inl broken_f))), (isFit, .inl (xZ G, 729, .inl v48_4)), (breaks, .inl (xI G, 64, .inl v48_5)), (facts, .inl (xI G, 3, .inl v48_6)), (pile, .inl (xI G, 60, .inl v48_7))] ∧ va_S A s.heap H locs ∧ lv_has ls 7 [(0, .ref t), (1, .int wh), (2, .long v22_0), (4, .int v22_1), (5, .int v48_0), (6, .int v48_1)]) (fun N48 v48_0 v48_1 v48_2 v48_3 v48_4 v48_5 v48_6 v48_7 ih48 H locs ls hI hF => ?_) fuelC (1 : Int32) (0 : Int32) v22_2 v22_3 v22_4 v22_5 v22_6 v22_7 H locs ls ⟨hP, hD, hS, lv_sub hl [2, 3, 4, 5, 1, 0] rfl⟩ hF
        obtain ⟨hP, hD, hS, hl⟩ := hI
        unfold B_X8_unsaid_48 at hF
        refine lv_iload hx hb dX8_unsaid_48 (lv_at hl 5 rfl) ?_
        refine lv_aload_n hx hb dX8_unsaid_50 rfl (lv_at hl 0 rfl) ?_
        refine va_get (ci := 8) (v := .ref row) (C := RX8) (T := TX8) (N := 24) hx hb hts (fun w h => tcons w (xin8 w h)) hown hK hP 0 rfl rfl 0 (by decide) (hts _ (tcons _ m137)) (fun _ h9 => h9) rfl dX8_unsaid_51 ?_
        refine lv_iconst (v := 2) hx hb dX8_unsaid_54 (by decide) ?_
        refine va_iald hx hb hK hP 1 0 rfl rfl (by unfold vp_in; decide) dX8_unsaid_55 ?_
        refine lv_icmp_ge (tgt := 80) hx hb dX8_unsaid_56 (by decide) (fun c56 => ?_) (fun c56 => ?_)
        · have hF := itP c56 hF
          refine lv_lload_n hx hb dX8_unsaid_80 rfl (lv_at hl 2 rfl) ?_
          refine lv_iload hx hb dX8_unsaid_81 (lv_at hl 4 rfl) ?_
          refine lv_if_eq (tgt := 93) hx hb dX8_unsaid_83 (by decide) (fun c83 => ?_) (fun c83 => ?_)
          · have hF := itP c83 hF
            refine lv_lconst (v := 0) hx hb dX8_unsaid_93 (by decide) ?_
            refine lv_lor hx hb dX8_unsaid_94 ?_
            refine lv_lstore_n (lv' := [(2, .long (v22_0 ||| (0 : Int64))), (0, .ref t), (1, .int wh), (4, .int v22_1), (5, .int v48_0), (6, .int v48_1)]) hx hb dX8_unsaid_95 rfl hl (by decide) rfl (fun ls hl => ?_)
            refine lv_iinc (v := (v22_1 + (1 : Int32))) (lv' := [(4, .int (v22_1 + (1 : Int32))), (2, .long (v22_0 ||| (0 : Int64))), (0, .ref t), (1, .int wh), (5, .int v48_0), (6, .int v48_1)]) hx hb dX8_unsaid_96 hl (k := 3) rfl (xInc_1 _) (by decide) rfl (fun ls hl => ?_)
            refine lv_goto (tgt := 22) hx hb dX8_unsaid_99 (by decide) ?_
            exact ih22 (v22_0 ||| (0 : Int64)) (v22_1 + (1 : Int32)) v48_2 v48_3 v48_4 v48_5 v48_6 v48_7 H locs ls ⟨hP, hD, hS, lv_sub hl [2, 3, 1, 0] rfl⟩ hF
          · have hF := itN c83 hF
            refine lv_lconst (v := 1) hx hb dX8_unsaid_86 (by decide) ?_
            refine lv_iload hx hb dX8_unsaid_87 (lv_at hl 3 rfl) ?_
            refine lv_lshl hx hb dX8_unsaid_89 rfl ?_
            refine lv_goto (tgt := 94) hx hb dX8_unsaid_90 (by decide) ?_
            refine lv_lor hx hb dX8_unsaid_94 ?_
            refine lv_lstore_n (lv' := [(2, .long (v22_0 ||| ((1 : Int64) <<< (v22_1.toInt64 &&& 63)))), (0, .ref t), (1, .int wh), (4, .int v22_1), (5, .int v48_0), (6, .int v48_1)]) hx hb dX8_unsaid_95 rfl hl (by decide) rfl (fun ls hl => ?_)
            refine lv_iinc (v := (v22_1 + (1 : Int32))) (lv' := [(4, .int (v22_1 + (1 : Int32))), (2, .long (v22_0 ||| ((1 : Int64) <<< (v22_1.toInt64 &&& 63)))), (0, .ref t), (1, .int wh), (5, .int v48_0), (6, .int v48_1)]) hx hb dX8_unsaid_96 hl (k := 3) rfl (xInc_1 _) (by decide) rfl (fun ls hl => ?_)
            refine lv_goto (tgt := 22) hx hb dX8_unsaid_99 (by decide) ?_
            exact ih22 (v22_0 ||| ((1 : Int64) <<< (v22_1.toInt64 &&& 63))) (v22_1 + (1 : Int32)) v48_2 v48_3 v48_4 v48_5 v48_6 v48_7 H locs ls ⟨hP, hD, hS, lv_sub hl [2, 3, 1, 0] rfl⟩ hF
        · have hF := itN c56 hF
          refine lv_iload hx hb dX8_unsaid_59 (lv_at hl 4 rfl) ?_
          refine lv_if_eq (tgt := 80) hx hb dX8_unsaid_61 (by decide) (fun c61 => ?_) (fun c61 => ?_)
          · have hF := itP c61 hF
            refine lv_lload_n hx hb dX8_unsaid_80 rfl (lv_at hl 2 rfl) ?_
            refine lv_iload hx hb dX8_unsaid_81 (lv_at hl 4 rfl) ?_
            refine lv_if_eq (tgt := 93) hx hb dX8_unsaid_83 (by decide) (fun c83 => ?_) (fun c83 => ?_)
            · have hF := itP c83 hF
              refine lv_lconst (v := 0) hx hb dX8_unsaid_93 (by decide) ?_
              refine lv_lor hx hb dX8_unsaid_94 ?_
              refine lv_lstore_n (lv' := [(2, .long (v22_0 ||| (0 : Int64))), (0, .ref t), (1, .int wh), (4, .int v22_1), (5, .int v48_0), (6, .int v48_1)]) hx hb dX8_unsaid_95 rfl hl (by decide) rfl (fun ls hl => ?_)
              refine lv_iinc (v := (v22_1 + (1 : Int32))) (lv' := [(4, .int (v22_1 + (1 : Int32))), (2, .long (v22_0 ||| (0 : Int64))), (0, .ref t), (1, .int wh), (5, .int v48_0), (6, .int v48_1)]) hx hb dX8_unsaid_96 hl (k := 3) rfl (xInc_1 _) (by decide) rfl (fun ls hl => ?_)
              refine lv_goto (tgt := 22) hx hb dX8_unsaid_99 (by decide) ?_
              exact ih22 (v22_0 ||| (0 : Int64)) (v22_1 + (1 : Int32)) v48_2 v48_3 v48_4 v48_5 v48_6 v48_7 H locs ls ⟨hP, hD, hS, lv_sub hl [2, 3, 1, 0] rfl⟩ hF
            · have hF := itN c83 hF
              refine lv_lconst (v := 1) hx hb dX8_unsaid_86 (by decide) ?_
              refine lv_iload hx hb dX8_unsaid_87 (lv_at hl 3 rfl) ?_
              refine lv_lshl hx hb dX8_unsaid_89 rfl ?_
              refine lv_goto (tgt := 94) hx hb dX8_unsaid_90 (by decide) ?_
              refine lv_lor hx hb dX8_unsaid_94 ?_
              refine lv_lstore_n (lv' := [(2, .long (v22_0 ||| ((1 : Int64) <<< (v22_1.toInt64 &&& 63)))), (0, .ref t), (1, .int wh), (4, .int v22_1), (5, .int v48_0), (6, .int v48_1)]) hx hb dX8_unsaid_95 rfl hl (by decide) rfl (fun ls hl => ?_)
              refine lv_iinc (v := (v22_1 + (1 : Int32))) (lv' := [(4, .int (v22_1 + (1 : Int32))), (2, .long (v22_0 ||| ((1 : Int64) <<< (v22_1.toInt64 &&& 63)))), (0, .ref t), (1, .int wh), (5, .int v48_0), (6, .int v48_1)]) hx hb dX8_unsaid_96 hl (k := 3) rfl (xInc_1 _) (by decide) rfl (fun ls hl => ?_)
              refine lv_goto (tgt := 22) hx hb dX8_unsaid_99 (by decide) ?_
              exact ih22 (v22_0 ||| ((1 : Int64) <<< (v22_1.toInt64 &&& 63))) (v22_1 + (1 : Int32)) v48_2 v48_3 v48_4 v48_5 v48_6 v48_7 H locs ls ⟨hP, hD, hS, lv_sub hl [2, 3, 1, 0] rfl⟩ hF
          · have hF := itN c61 hF
            refine lv_aload_n hx hb dX8_unsaid_64 rfl (lv_at hl 0 rfl) ?_
            refine lv_iload hx hb dX8_unsaid_65 (lv_at hl 5 rfl) ?_
            refine lv_iload hx hb dX8_unsaid_67 (lv_at hl 3 rfl) ?_
            obtain ⟨u2, e2, hF⟩ := bdS hF
            refine xEndI (xRunV (As := [.int v48_1, .int v22_1]) (rest := []) hZ (c_X8_doesAvoid G t row kpt errs bitsOf sizeOf cels broken isFit breaks act wth facts pile trc images v48_2 v48_3 laid hre opnd bad usg trcd isP row_f broken_f v48_4 v48_5 v48_6 v48_7 v48_1 v22_1 u2 e2 l H.size) m299 m300 m301 m5 m302 2 ⟨rfl, hdX8_doesAvoid⟩ ⟨Nat.le_of_ble_eq_true rfl, Nat.le_of_ble_eq_true rfl⟩ ⟨rfl, rfl⟩ hP hD hS 0 8 rfl rfl rfl [0, 1, 3, 4, 5, 6, 7] rfl rfl rfl hl.1 rfl (Nat.le_of_ble_eq_true rfl) dX8_unsaid_69 ⟨Nat.zero_le _, Nat.zero_le _⟩) hP hD hS hA [0, 1, 3, 4, 5, 6, 7] rfl rfl rfl (fun H locs n2 hP hD hS => ?_)
            have hP : va_P G.1 vwCl [(t, .inr (8, [.ref row, .ref kpt, .int images, .ref errs, .ref bitsOf, .ref sizeOf, .ref cels, .ref broken, .ref isFit, .ref breaks, .int u2.2.1, .int u2.2.2.1, .ref act, .ref wth, .ref facts, .ref pile, .int laid, .int hre, .int opnd, .int bad, .int usg, .ref trc, .int trcd, .int isP])), (row, .inl (xI G, 400, .inl row_f)), (errs, .inl (xI G, 7, .inl errs_f)), (broken, .inl (xJ G, 729, .inr (.inl broken_f))), (isFit, .inl (xZ G, 729, .inl u2.2.2.2.1)), (breaks, .inl (xI G, 64, .inl u2.2.2.2.2.1)), (facts, .inl (xI G, 3, .inl u2.2.2.2.2.2.1)), (pile, .inl (xI G, 60, .inl u2.2.2.2.2.2.2))] H := hP
            have hD : va_D A [(t, .inr (8, [.ref row, .ref kpt, .int images, .ref errs, .ref bitsOf, .ref sizeOf, .ref cels, .ref broken, .ref isFit, .ref breaks, .int u2.2.1, .int u2.2.2.1, .ref act, .ref wth, .ref facts, .ref pile, .int laid, .int hre, .int opnd, .int bad, .int usg, .ref trc, .int trcd, .int isP])), (row, .inl (xI G, 400, .inl row_f)), (errs, .inl (xI G, 7, .inl errs_f)), (broken, .inl (xJ G, 729, .inr (.inl broken_f))), (isFit, .inl (xZ G, 729, .inl u2.2.2.2.1)), (breaks, .inl (xI G, 64, .inl u2.2.2.2.2.1)), (facts, .inl (xI G, 3, .inl u2.2.2.2.2.2.1)), (pile, .inl (xI G, 60, .inl u2.2.2.2.2.2.2))] := hD
            refine lv_istore (lv' := [(5, .int u2.1), (0, .ref t), (1, .int wh), (2, .long v22_0), (4, .int v22_1), (6, .int v48_1)]) hx hb dX8_unsaid_72 hl (by decide) rfl (fun ls hl => ?_)
            refine lv_iinc (v := (v48_1 + (1 : Int32))) (lv' := [(6, .int (v48_1 + (1 : Int32))), (5, .int u2.1), (0, .ref t), (1, .int wh), (2, .long v22_0), (4, .int v22_1)]) hx hb dX8_unsaid_74 hl (k := 5) rfl (xInc_1 _) (by decide) rfl (fun ls hl => ?_)
            refine lv_goto (tgt := 48) hx hb dX8_unsaid_77 (by decide) ?_
            exact ih48 u2.1 (v48_1 + (1 : Int32)) u2.2.1 u2.2.2.1 u2.2.2.2.1 u2.2.2.2.2.1 u2.2.2.2.2.2.1 u2.2.2.2.2.2.2 H locs ls ⟨hP, hD, hS, lv_sub hl [2, 3, 4, 5, 1, 0] rfl⟩ hF
  · have hF := itP c6 hF
    refine lv_aload_n hx hb dX8_unsaid_9 rfl (lv_at hl 0 rfl) ?_
    refine lv_ldc (v := -1000000001) hx hb hown (hts _ (tcons _ m185)) dX8_unsaid_10 ?_
    obtain ⟨u2, e2, hF⟩ := bdS hF
    refine xEndI (xRunV (As := [.int (-1000000001 : Int32)]) (rest := []) hZ (c_X8_error G t row kpt errs bitsOf sizeOf cels broken isFit breaks act wth facts pile trc images mfit known laid hre opnd bad usg trcd isP errs_f (-1000000001 : Int32) u2 e2 l H.size) m193 m194 m195 m5 m196 1 ⟨rfl, hdX8_error⟩ ⟨Nat.le_of_ble_eq_true rfl, Nat.le_of_ble_eq_true rfl⟩ ⟨rfl, rfl⟩ hP hD hS 0 8 rfl rfl rfl [0, 2] rfl rfl rfl hl.1 rfl (Nat.le_of_ble_eq_true rfl) dX8_unsaid_12 ⟨Nat.zero_le _, Nat.zero_le _⟩) hP hD hS hA [0, 2] rfl rfl rfl (fun H locs n2 hP hD hS => ?_)
    have hP : va_P G.1 vwCl [(t, .inr (8, [.ref row, .ref kpt, .int images, .ref errs, .ref bitsOf, .ref sizeOf, .ref cels, .ref broken, .ref isFit, .ref breaks, .int mfit, .int known, .ref act, .ref wth, .ref facts, .ref pile, .int laid, .int hre, .int opnd, .int bad, .int usg, .ref trc, .int trcd, .int isP])), (row, .inl (xI G, 400, .inl row_f)), (errs, .inl (xI G, 7, .inl u2.2)), (broken, .inl (xJ G, 729, .inr (.inl broken_f))), (isFit, .inl (xZ G, 729, .inl isFit_f)), (breaks, .inl (xI G, 64, .inl breaks_f)), (facts, .inl (xI G, 3, .inl facts_f)), (pile, .inl (xI G, 60, .inl pile_f))] H := hP
    have hD : va_D A [(t, .inr (8, [.ref row, .ref kpt, .int images, .ref errs, .ref bitsOf, .ref sizeOf, .ref cels, .ref broken, .ref isFit, .ref breaks, .int mfit, .int known, .ref act, .ref wth, .ref facts, .ref pile, .int laid, .int hre, .int opnd, .int bad, .int usg, .ref trc, .int trcd, .int isP])), (row, .inl (xI G, 400, .inl row_f)), (errs, .inl (xI G, 7, .inl u2.2)), (broken, .inl (xJ G, 729, .inr (.inl broken_f))), (isFit, .inl (xZ G, 729, .inl isFit_f)), (breaks, .inl (xI G, 64, .inl breaks_f)), (facts, .inl (xI G, 3, .inl facts_f)), (pile, .inl (xI G, 60, .inl pile_f))] := hD
    refine lv_i2l hx hb dX8_unsaid_15 rfl ?_
    obtain rfl := Option.some.inj hF
    rw [← hQ]
    exact W.lret (v := (u2.1.toInt64)) hx hb hr (fun t ht hW => ⟨⟨_, (), rfl, rfl, xLf hP ht⟩, hS.F ht⟩) hS.2.2 dX8_unsaid_16
def B_X8_freest_39 (row_f : Nat → Int32) (errs_f : Nat → Int32) (broken_f : Nat → Int64) (wh : Int32) (k39 : (Int32 × Int32 × Int32 × Int32 × Int32 × (Nat → Int32) × (Nat → Int32) × (Nat → Int32) × (Nat → Int32)) → Option (Int32 × Int32 × Int32 × (Nat → Int32) × (Nat → Int32) × (Nat → Int32) × (Nat → Int32) × (Nat → Int32))) (v39 : (Int32 × Int32 × Int32 × Int32 × Int32 × (Nat → Int32) × (Nat → Int32) × (Nat → Int32) × (Nat → Int32))) : Option (Int32 × Int32 × Int32 × (Nat → Int32) × (Nat → Int32) × (Nat → Int32) × (Nat → Int32) × (Nat → Int32)) := if (row_f (2 : Int32).toNatClampNeg) ≤ v39.2.2.1 then (if wh = 0 then (some (v39.1, v39.2.2.2.1, v39.2.2.2.2.1, errs_f, v39.2.2.2.2.2.1, v39.2.2.2.2.2.2.1, v39.2.2.2.2.2.2.2.1, v39.2.2.2.2.2.2.2.2)) else (some (v39.2.1, v39.2.2.2.1, v39.2.2.2.2.1, errs_f, v39.2.2.2.2.2.1, v39.2.2.2.2.2.2.1, v39.2.2.2.2.2.2.2.1, v39.2.2.2.2.2.2.2.2))) else (bd (F_X8_freedomOf v39.2.2.2.1 v39.2.2.2.2.1 row_f broken_f v39.2.2.2.2.2.1 v39.2.2.2.2.2.2.1 v39.2.2.2.2.2.2.2.1 v39.2.2.2.2.2.2.2.2 v39.2.2.1) (fun (u2 : (Int32 × Int32 × Int32 × (Nat → Int32) × (Nat → Int32) × (Nat → Int32) × (Nat → Int32))) => if u2.1 ≤ v39.2.1 then (if u2.1 ≤ v39.2.1 then (k39 (v39.1, v39.2.1, (v39.2.2.1 + (1 : Int32)), u2.2.1, u2.2.2.1, u2.2.2.2.1, u2.2.2.2.2.1, u2.2.2.2.2.2.1, u2.2.2.2.2.2.2)) else (k39 (v39.1, u2.1, (v39.2.2.1 + (1 : Int32)), u2.2.1, u2.2.2.1, u2.2.2.2.1, u2.2.2.2.2.1, u2.2.2.2.2.2.1, u2.2.2.2.2.2.2))) else (if u2.1 ≤ v39.2.1 then (k39 (v39.2.2.1, v39.2.1, (v39.2.2.1 + (1 : Int32)), u2.2.1, u2.2.2.1, u2.2.2.2.1, u2.2.2.2.2.1, u2.2.2.2.2.2.1, u2.2.2.2.2.2.2)) else (k39 (v39.2.2.1, u2.1, (v39.2.2.1 + (1 : Int32)), u2.2.1, u2.2.2.1, u2.2.2.2.1, u2.2.2.2.2.1, u2.2.2.2.2.2.1, u2.2.2.2.2.2.2)))))
def F_X8_freest (mfit : Int32) (known : Int32) (row_f : Nat → Int32) (errs_f : Nat → Int32) (broken_f : Nat → Int64) (isFit_f : Nat → Int32) (breaks_f : Nat → Int32) (facts_f : Nat → Int32) (pile_f : Nat → Int32) (wh : Int32) : Option (Int32 × Int32 × Int32 × (Nat → Int32) × (Nat → Int32) × (Nat → Int32) × (Nat → Int32) × (Nat → Int32)) := bd (F_X8_in wh (0 : Int32) (1 : Int32)) (fun (u1 : Int32) => if u1 = 0 then (bd (F_X8_error errs_f (-1000000001 : Int32)) (fun (u2 : (Int32 × (Nat → Int32))) => some (u2.1, mfit, known, u2.2, isFit_f, breaks_f, facts_f, pile_f))) else (if (row_f (2 : Int32).toNatClampNeg) = 0 then (bd (F_X8_error errs_f (-1000000003 : Int32)) (fun (u2 : (Int32 × (Nat → Int32))) => some (u2.1, mfit, known, u2.2, isFit_f, breaks_f, facts_f, pile_f))) else (lp (B_X8_freest_39 row_f errs_f broken_f wh) fuelC ((0 : Int32), (-1 : Int32), (0 : Int32), mfit, known, isFit_f, breaks_f, facts_f, pile_f))))
theorem hdX8_freest : yX8_freest.cls ≠ "java/lang/invoke/MethodHandle" ∧ yX8_freest.cls ≠ "java/lang/invoke/VarHandle" ∧ (parseMethodDescriptor yX8_freest.desc).map (fun d => d.parameters.length) = some 1 := by decide +kernel
set_option maxHeartbeats 4000000 in
set_option maxRecDepth 100000 in
theorem c_X8_freest (G : xG) (t : Nat) (row : Nat) (kpt : Nat) (errs : Nat) (bitsOf : Nat) (sizeOf : Nat) (cels : Nat) (broken : Nat) (isFit : Nat) (breaks : Nat) (act : Nat) (wth : Nat) (facts : Nat) (pile : Nat) (trc : Nat) (images : Int32) (mfit : Int32) (known : Int32) (laid : Int32) (hre : Int32) (opnd : Int32) (bad : Int32) (usg : Int32) (trcd : Int32) (isP : Int32) (row_f : Nat → Int32) (errs_f : Nat → Int32) (broken_f : Nat → Int64) (isFit_f : Nat → Int32) (breaks_f : Nat → Int32) (facts_f : Nat → Int32) (pile_f : Nat → Int32) (wh : Int32)  (u : (Int32 × Int32 × Int32 × (Nat → Int32) × (Nat → Int32) × (Nat → Int32) × (Nat → Int32) × (Nat → Int32))) (hF : F_X8_freest mfit known row_f errs_f broken_f isFit_f breaks_f facts_f pile_f wh = some u) : Ki G .int yX8_freest (Cond.code yX8_freest cX8_freest 6 (some .int) :: TBL) { frames := 7, cells := 0, slots := 0, locals := 160 } [.ref t, .int wh] [(t, .inr (8, [.ref row, .ref kpt, .int images, .ref errs, .ref bitsOf, .ref sizeOf, .ref cels, .ref broken, .ref isFit, .ref breaks, .int mfit, .int known, .ref act, .ref wth, .ref facts, .ref pile, .int laid, .int hre, .int opnd, .int bad, .int usg, .ref trc, .int trcd, .int isP])), (row, .inl (xI G, 400, .inl row_f)), (errs, .inl (xI G, 7, .inl errs_f)), (broken, .inl (xJ G, 729, .inr (.inl broken_f))), (isFit, .inl (xZ G, 729, .inl isFit_f)), (breaks, .inl (xI G, 64, .inl breaks_f)), (facts, .inl (xI G, 3, .inl facts_f)), (pile, .inl (xI G, 60, .inl pile_f))] [(t, .inr (8, [.ref row, .ref kpt, .int images, .ref errs, .ref bitsOf, .ref sizeOf, .ref cels, .ref broken, .ref isFit, .ref breaks, .int u.2.1, .int u.2.2.1, .ref act, .ref wth, .ref facts, .ref pile, .int laid, .int hre, .int opnd, .int bad, .int usg, .ref trc, .int trcd, .int isP])), (row, .inl (xI G, 400, .inl row_f)), (errs, .inl (xI G, 7, .inl u.2.2.2.1)), (broken, .inl (xJ G, 729, .inr (.inl broken_f))), (isFit, .inl (xZ G, 729, .inl u.2.2.2.2.1)), (breaks, .inl (xI G, 64, .inl u.2.2.2.2.2.1)), (facts, .inl (xI G, 3, .inl u.2.2.2.2.2.2.1)), (pile, .inl (xI G, 60, .inl u.2.2.2.2.2.2.2))] u.1 := by
  intro l sz
  refine Met.ofW (cc := cX8_freest) (maxL := 6) (ret := (some .int)) (by decide) rfl ?_
  intro p e s m args below meth c s₁ B hml hv
  obtain ⟨rfl, hsz, hP, hD0, hm⟩ := hv
  have hx := B.exec
  have hb := B.bytes
  have hr := B.returns
  have hts := atoms_spec (ws := Cond.code yX8_freest cX8_freest 6 (some .int) :: TBL) B.pre
  have hown : s.vm.findClass RX8 = some m.cls := findClass_of_methodNamed B.named
  have hlocks := B.notSynchronized
  subst hsz
  have hD := hD0.self (sz := s.heap.size)
  generalize hAe : va_A [(t, .inr (8, [.ref row, .ref kpt, .int images, .ref errs, .ref bitsOf, .ref sizeOf, .ref cels, .ref broken, .ref isFit, .ref breaks, .int mfit, .int known, .ref act, .ref wth, .ref facts, .ref pile, .int laid, .int hre, .int opnd, .int bad, .int usg, .ref trc, .int trcd, .int isP])), (row, .inl (xI G, 400, .inl row_f)), (errs, .inl (xI G, 7, .inl errs_f)), (broken, .inl (xJ G, 729, .inr (.inl broken_f))), (isFit, .inl (xZ G, 729, .inl isFit_f)), (breaks, .inl (xI G, 64, .inl breaks_f)), (facts, .inl (xI G, 3, .inl facts_f)), (pile, .inl (xI G, 60, .inl pile_f))] s.heap.size = A at hD hm ⊢
  have hA : ∀ q : Nat, s.heap.size ≤ q → A q := fun q h => by rw [← hAe]; exact Or.inr h
  have hK := hm.1
  have hZ : xAnd p m c cX8_freest 6 s _ (Cond.code yX8_freest cX8_freest 6 (some .int) :: TBL) RX8 G A := ⟨⟨hx, hb, hml, hown, hts⟩, tcons, hA, hm⟩
  have hP : va_P G.1 vwCl [(t, .inr (8, [.ref row, .ref kpt, .int images, .ref errs, .ref bitsOf, .ref sizeOf, .ref cels, .ref broken, .ref isFit, .ref breaks, .int mfit, .int known, .ref act, .ref wth, .ref facts, .ref pile, .int laid, .int hre, .int opnd, .int bad, .int usg, .ref trc, .int trcd, .int isP])), (row, .inl (xI G, 400, .inl row_f)), (errs, .inl (xI G, 7, .inl errs_f)), (broken, .inl (xJ G, 729, .inr (.inl broken_f))), (isFit, .inl (xZ G, 729, .inl isFit_f)), (breaks, .inl (xI G, 64, .inl breaks_f)), (facts, .inl (xI G, 3, .inl facts_f)), (pile, .inl (xI G, 60, .inl pile_f))] s.heap := hP
  have hl := lv_entry ([.ref t, .int wh]) (n := 6) (Nat.le_of_ble_eq_true rfl)
  rw [lg_entry_eq]
  generalize (lg_sl ([.ref t, .int wh]) ++ List.replicate (6 - (lg_sl ([.ref t, .int wh])).length) Slot.unset).toArray = ls at hl ⊢
  have hl : lv_has ls 6 [(0, .ref t), (1, .int wh)] := hl
  generalize hQ : MQ below _ _ s _ _ _ = Q
  refine xGo (A := A) hP (fun H locs hP hS => ?_)
  unfold F_X8_freest at hF
  refine lv_iload_n hx hb dX8_freest_0 rfl (lv_at hl 1 rfl) ?_
  refine lv_iconst (v := 0) hx hb dX8_freest_1 (by decide) ?_
  refine lv_iconst (v := 1) hx hb dX8_freest_2 (by decide) ?_
  obtain ⟨u1, e1, hF⟩ := bdS hF
  refine xEndI (xRunS (As := [.int wh, .int (0 : Int32), .int (1 : Int32)]) (rest := []) hZ (c_X8_in G wh (0 : Int32) (1 : Int32) u1 e1 l H.size) m190 m191 m5 m192 3 hdX8_in ⟨Nat.le_of_ble_eq_true rfl, Nat.le_of_ble_eq_true rfl⟩ ⟨rfl, rfl⟩ hP hD hS [] rfl rfl rfl hl.1 rfl (Nat.le_of_ble_eq_true rfl) dX8_freest_3 ⟨Nat.zero_le _, Nat.zero_le _⟩) hP hD hS hA [] rfl rfl rfl (fun H locs n1 hP hD hS => ?_)
  have hP : va_P G.1 vwCl [(t, .inr (8, [.ref row, .ref kpt, .int images, .ref errs, .ref bitsOf, .ref sizeOf, .ref cels, .ref broken, .ref isFit, .ref breaks, .int mfit, .int known, .ref act, .ref wth, .ref facts, .ref pile, .int laid, .int hre, .int opnd, .int bad, .int usg, .ref trc, .int trcd, .int isP])), (row, .inl (xI G, 400, .inl row_f)), (errs, .inl (xI G, 7, .inl errs_f)), (broken, .inl (xJ G, 729, .inr (.inl broken_f))), (isFit, .inl (xZ G, 729, .inl isFit_f)), (breaks, .inl (xI G, 64, .inl breaks_f)), (facts, .inl (xI G, 3, .inl facts_f)), (pile, .inl (xI G, 60, .inl pile_f))] H := hP
  have hD : va_D A [(t, .inr (8, [.ref row, .ref kpt, .int images, .ref errs, .ref bitsOf, .ref sizeOf, .ref cels, .ref broken, .ref isFit, .ref breaks, .int mfit, .int known, .ref act, .ref wth, .ref facts, .ref pile, .int laid, .int hre, .int opnd, .int bad, .int usg, .ref trc, .int trcd, .int isP])), (row, .inl (xI G, 400, .inl row_f)), (errs, .inl (xI G, 7, .inl errs_f)), (broken, .inl (xJ G, 729, .inr (.inl broken_f))), (isFit, .inl (xZ G, 729, .inl isFit_f)), (breaks, .inl (xI G, 64, .inl breaks_f)), (facts, .inl (xI G, 3, .inl facts_f)), (pile, .inl (xI G, 60, .inl pile_f))] := hD
  refine lv_if_ne (tgt := 16) hx hb dX8_freest_6 (by decide) (fun c6 => ?_) (fun c6 => ?_)
  · have hF := itN c6 hF
    refine lv_aload_n hx hb dX8_freest_16 rfl (lv_at hl 0 rfl) ?_
    refine va_get (ci := 8) (v := .ref row) (C := RX8) (T := TX8) (N := 24) hx hb hts (fun w h => tcons w (xin8 w h)) hown hK hP 0 rfl rfl 0 (by decide) (hts _ (tcons _ m137)) (fun _ h9 => h9) rfl dX8_freest_17 ?_
    refine lv_iconst (v := 2) hx hb dX8_freest_20 (by decide) ?_
    refine va_iald hx hb hK hP 1 0 rfl rfl (by unfold vp_in; decide) dX8_freest_21 ?_
    refine lv_if_ne (tgt := 32) hx hb dX8_freest_22 (by decide) (fun c22 => ?_) (fun c22 => ?_)
    · have hF := itN c22 hF
      refine lv_iconst (v := 0) hx hb dX8_freest_32 (by decide) ?_
      refine lv_istore_n (lv' := [(2, .int (0 : Int32)), (0, .ref t), (1, .int wh)]) hx hb dX8_freest_33 rfl hl (by decide) rfl (fun ls hl => ?_)
      refine lv_iconst (v := -1) hx hb dX8_freest_34 (by decide) ?_
      refine lv_istore_n (lv' := [(3, .int (-1 : Int32)), (2, .int (0 : Int32)), (0, .ref t), (1, .int wh)]) hx hb dX8_freest_35 rfl hl (by decide) rfl (fun ls hl => ?_)
      refine lv_iconst (v := 0) hx hb dX8_freest_36 (by decide) ?_
      refine lv_istore (lv' := [(4, .int (0 : Int32)), (3, .int (-1 : Int32)), (2, .int (0 : Int32)), (0, .ref t), (1, .int wh)]) hx hb dX8_freest_37 hl (by decide) rfl (fun ls hl => ?_)
      refine xLoop9 (body := (B_X8_freest_39 row_f errs_f broken_f wh)) (fun (v39_0 : Int32) (v39_1 : Int32) (v39_2 : Int32) (v39_3 : Int32) (v39_4 : Int32) (v39_5 : Nat → Int32) (v39_6 : Nat → Int32) (v39_7 : Nat → Int32) (v39_8 : Nat → Int32) H locs ls => va_P G.1 vwCl [(t, .inr (8, [.ref row, .ref kpt, .int images, .ref errs, .ref bitsOf, .ref sizeOf, .ref cels, .ref broken, .ref isFit, .ref breaks, .int v39_3, .int v39_4, .ref act, .ref wth, .ref facts, .ref pile, .int laid, .int hre, .int opnd, .int bad, .int usg, .ref trc, .int trcd, .int isP])), (row, .inl (xI G, 400, .inl row_f)), (errs, .inl (xI G, 7, .inl errs_f)), (broken, .inl (xJ G, 729, .inr (.inl broken_f))), (isFit, .inl (xZ G, 729, .inl v39_5)), (breaks, .inl (xI G, 64, .inl v39_6)), (facts, .inl (xI G, 3, .inl v39_7)), (pile, .inl (xI G, 60, .inl v39_8))] H ∧ va_D A [(t, .inr (8, [.ref row, .ref kpt, .int images, .ref errs, .ref bitsOf, .ref sizeOf, .ref cels, .ref broken, .ref isFit, .ref breaks, .int v39_3, .int v39_4, .ref act, .ref wth, .ref facts, .ref pile, .int laid, .int hre, .int opnd, .int bad, .int usg, .ref trc, .int trcd, .int isP])), (row, .inl (xI G, 400, .inl row_f)), (errs, .inl (xI G, 7, .inl errs_f)), (broken, .inl (xJ G, 729, .inr (.inl broken_f))), (isFit, .inl (xZ G, 729, .inl v39_5)), (breaks, .inl (xI G, 64, .inl v39_6)), (facts, .inl (xI G, 3, .inl v39_7)), (pile, .inl (xI G, 60, .inl v39_8))] ∧ va_S A s.heap H locs ∧ lv_has ls 6 [(0, .ref t), (1, .int wh), (2, .int v39_0), (3, .int v39_1), (4, .int v39_2)]) (fun N39 v39_0 v39_1 v39_2 v39_3 v39_4 v39_5 v39_6 v39_7 v39_8 ih39 H locs ls hI hF => ?_) fuelC (0 : Int32) (-1 : Int32) (0 : Int32) mfit known isFit_f breaks_f facts_f pile_f H locs ls ⟨hP, hD, hS, lv_sub hl [3, 4, 2, 1, 0] rfl⟩ hF
      obtain ⟨hP, hD, hS, hl⟩ := hI
      unfold B_X8_freest_39 at hF
      refine lv_iload hx hb dX8_freest_39 (lv_at hl 4 rfl) ?_
      refine lv_aload_n hx hb dX8_freest_41 rfl (lv_at hl 0 rfl) ?_
      refine va_get (ci := 8) (v := .ref row) (C := RX8) (T := TX8) (N := 24) hx hb hts (fun w h => tcons w (xin8 w h)) hown hK hP 0 rfl rfl 0 (by decide) (hts _ (tcons _ m137)) (fun _ h9 => h9) rfl dX8_freest_42 ?_
      refine lv_iconst (v := 2) hx hb dX8_freest_45 (by decide) ?_
      refine va_iald hx hb hK hP 1 0 rfl rfl (by unfold vp_in; decide) dX8_freest_46 ?_
      refine lv_icmp_ge (tgt := 90) hx hb dX8_freest_47 (by decide) (fun c47 => ?_) (fun c47 => ?_)
      · have hF := itP c47 hF
        refine lv_iload_n hx hb dX8_freest_90 rfl (lv_at hl 1 rfl) ?_
        refine lv_if_ne (tgt := 98) hx hb dX8_freest_91 (by decide) (fun c91 => ?_) (fun c91 => ?_)
        · have hF := itN c91 hF
          refine lv_iload_n hx hb dX8_freest_98 rfl (lv_at hl 3 rfl) ?_
          obtain rfl := Option.some.inj hF
          rw [← hQ]
          exact W.iret (v := v39_1) hx hb hr (fun t ht hW => ⟨⟨_, (), rfl, ⟨rfl, rfl⟩, xLf hP ht⟩, hS.F ht⟩) hS.2.2 dX8_freest_99
        · have hF := itP c91 hF
          refine lv_iload_n hx hb dX8_freest_94 rfl (lv_at hl 2 rfl) ?_
          refine lv_goto (tgt := 99) hx hb dX8_freest_95 (by decide) ?_
          obtain rfl := Option.some.inj hF
          rw [← hQ]
          exact W.iret (v := v39_0) hx hb hr (fun t ht hW => ⟨⟨_, (), rfl, ⟨rfl, rfl⟩, xLf hP ht⟩, hS.F ht⟩) hS.2.2 dX8_freest_99
      · have hF := itN c47 hF
        refine lv_aload_n hx hb dX8_freest_50 rfl (lv_at hl 0 rfl) ?_
        refine lv_iload hx hb dX8_freest_51 (lv_at hl 4 rfl) ?_
        obtain ⟨u2, e2, hF⟩ := bdS hF
        refine xEndI (xRunV (As := [.int v39_2]) (rest := []) hZ (c_X8_freedomOf G t row kpt errs bitsOf sizeOf cels broken isFit breaks act wth facts pile trc images v39_3 v39_4 laid hre opnd bad usg trcd isP row_f broken_f v39_5 v39_6 v39_7 v39_8 v39_2 u2 e2 l H.size) m854 m855 m856 m5 m857 1 ⟨rfl, hdX8_freedomOf⟩ ⟨Nat.le_of_ble_eq_true rfl, Nat.le_of_ble_eq_true rfl⟩ ⟨rfl, rfl⟩ hP hD hS 0 8 rfl rfl rfl [0, 1, 3, 4, 5, 6, 7] rfl rfl rfl hl.1 rfl (Nat.le_of_ble_eq_true rfl) dX8_freest_53 ⟨Nat.zero_le _, Nat.zero_le _⟩) hP hD hS hA [0, 1, 3, 4, 5, 6, 7] rfl rfl rfl (fun H locs n2 hP hD hS => ?_)
        have hP : va_P G.1 vwCl [(t, .inr (8, [.ref row, .ref kpt, .int images, .ref errs, .ref bitsOf, .ref sizeOf, .ref cels, .ref broken, .ref isFit, .ref breaks, .int u2.2.1, .int u2.2.2.1, .ref act, .ref wth, .ref facts, .ref pile, .int laid, .int hre, .int opnd, .int bad, .int usg, .ref trc, .int trcd, .int isP])), (row, .inl (xI G, 400, .inl row_f)), (errs, .inl (xI G, 7, .inl errs_f)), (broken, .inl (xJ G, 729, .inr (.inl broken_f))), (isFit, .inl (xZ G, 729, .inl u2.2.2.2.1)), (breaks, .inl (xI G, 64, .inl u2.2.2.2.2.1)), (facts, .inl (xI G, 3, .inl u2.2.2.2.2.2.1)), (pile, .inl (xI G, 60, .inl u2.2.2.2.2.2.2))] H := hP
        have hD : va_D A [(t, .inr (8, [.ref row, .ref kpt, .int images, .ref errs, .ref bitsOf, .ref sizeOf, .ref cels, .ref broken, .ref isFit, .ref breaks, .int u2.2.1, .int u2.2.2.1, .ref act, .ref wth, .ref facts, .ref pile, .int laid, .int hre, .int opnd, .int bad, .int usg, .ref trc, .int trcd, .int isP])), (row, .inl (xI G, 400, .inl row_f)), (errs, .inl (xI G, 7, .inl errs_f)), (broken, .inl (xJ G, 729, .inr (.inl broken_f))), (isFit, .inl (xZ G, 729, .inl u2.2.2.2.1)), (breaks, .inl (xI G, 64, .inl u2.2.2.2.2.1)), (facts, .inl (xI G, 3, .inl u2.2.2.2.2.2.1)), (pile, .inl (xI G, 60, .inl u2.2.2.2.2.2.2))] := hD
        refine lv_istore (lv' := [(5, .int u2.1), (0, .ref t), (1, .int wh), (2, .int v39_0), (3, .int v39_1), (4, .int v39_2)]) hx hb dX8_freest_56 hl (by decide) rfl (fun ls hl => ?_)
        refine lv_iload hx hb dX8_freest_58 (lv_at hl 0 rfl) ?_
        refine lv_iload_n hx hb dX8_freest_60 rfl (lv_at hl 4 rfl) ?_
        refine lv_icmp_le (tgt := 69) hx hb dX8_freest_61 (by decide) (fun c61 => ?_) (fun c61 => ?_)
        · have hF := itP c61 hF
          refine lv_iload_n hx hb dX8_freest_69 rfl (lv_at hl 3 rfl) ?_
          refine lv_istore_n (lv' := [(2, .int v39_0), (5, .int u2.1), (0, .ref t), (1, .int wh), (3, .int v39_1), (4, .int v39_2)]) hx hb dX8_freest_70 rfl hl (by decide) rfl (fun ls hl => ?_)
          refine lv_iload hx hb dX8_freest_71 (lv_at hl 1 rfl) ?_
          refine lv_iload_n hx hb dX8_freest_73 rfl (lv_at hl 4 rfl) ?_
          refine lv_icmp_le (tgt := 82) hx hb dX8_freest_74 (by decide) (fun c74 => ?_) (fun c74 => ?_)
          · have hF := itP c74 hF
            refine lv_iload_n hx hb dX8_freest_82 rfl (lv_at hl 4 rfl) ?_
            refine lv_istore_n (lv' := [(3, .int v39_1), (2, .int v39_0), (5, .int u2.1), (0, .ref t), (1, .int wh), (4, .int v39_2)]) hx hb dX8_freest_83 rfl hl (by decide) rfl (fun ls hl => ?_)
            refine lv_iinc (v := (v39_2 + (1 : Int32))) (lv' := [(4, .int (v39_2 + (1 : Int32))), (3, .int v39_1), (2, .int v39_0), (5, .int u2.1), (0, .ref t), (1, .int wh)]) hx hb dX8_freest_84 hl (k := 5) rfl (xInc_1 _) (by decide) rfl (fun ls hl => ?_)
            refine lv_goto (tgt := 39) hx hb dX8_freest_87 (by decide) ?_
            exact ih39 v39_0 v39_1 (v39_2 + (1 : Int32)) u2.2.1 u2.2.2.1 u2.2.2.2.1 u2.2.2.2.2.1 u2.2.2.2.2.2.1 u2.2.2.2.2.2.2 H locs ls ⟨hP, hD, hS, lv_sub hl [4, 5, 2, 1, 0] rfl⟩ hF
          · have hF := itN c74 hF
            refine lv_iload hx hb dX8_freest_77 (lv_at hl 1 rfl) ?_
            refine lv_goto (tgt := 83) hx hb dX8_freest_79 (by decide) ?_
            refine lv_istore_n (lv' := [(3, .int u2.1), (2, .int v39_0), (5, .int u2.1), (0, .ref t), (1, .int wh), (4, .int v39_2)]) hx hb dX8_freest_83 rfl hl (by decide) rfl (fun ls hl => ?_)
            refine lv_iinc (v := (v39_2 + (1 : Int32))) (lv' := [(4, .int (v39_2 + (1 : Int32))), (3, .int u2.1), (2, .int v39_0), (5, .int u2.1), (0, .ref t), (1, .int wh)]) hx hb dX8_freest_84 hl (k := 5) rfl (xInc_1 _) (by decide) rfl (fun ls hl => ?_)
            refine lv_goto (tgt := 39) hx hb dX8_freest_87 (by decide) ?_
            exact ih39 v39_0 u2.1 (v39_2 + (1 : Int32)) u2.2.1 u2.2.2.1 u2.2.2.2.1 u2.2.2.2.2.1 u2.2.2.2.2.2.1 u2.2.2.2.2.2.2 H locs ls ⟨hP, hD, hS, lv_sub hl [4, 5, 2, 1, 0] rfl⟩ hF
        · have hF := itN c61 hF
          refine lv_iload hx hb dX8_freest_64 (lv_at hl 5 rfl) ?_
          refine lv_goto (tgt := 70) hx hb dX8_freest_66 (by decide) ?_
          refine lv_istore_n (lv' := [(2, .int v39_2), (5, .int u2.1), (0, .ref t), (1, .int wh), (3, .int v39_1), (4, .int v39_2)]) hx hb dX8_freest_70 rfl hl (by decide) rfl (fun ls hl => ?_)
          refine lv_iload hx hb dX8_freest_71 (lv_at hl 1 rfl) ?_
          refine lv_iload_n hx hb dX8_freest_73 rfl (lv_at hl 4 rfl) ?_
          refine lv_icmp_le (tgt := 82) hx hb dX8_freest_74 (by decide) (fun c74 => ?_) (fun c74 => ?_)
          · have hF := itP c74 hF
            refine lv_iload_n hx hb dX8_freest_82 rfl (lv_at hl 4 rfl) ?_
            refine lv_istore_n (lv' := [(3, .int v39_1), (2, .int v39_2), (5, .int u2.1), (0, .ref t), (1, .int wh), (4, .int v39_2)]) hx hb dX8_freest_83 rfl hl (by decide) rfl (fun ls hl => ?_)
            refine lv_iinc (v := (v39_2 + (1 : Int32))) (lv' := [(4, .int (v39_2 + (1 : Int32))), (3, .int v39_1), (2, .int v39_2), (5, .int u2.1), (0, .ref t), (1, .int wh)]) hx hb dX8_freest_84 hl (k := 5) rfl (xInc_1 _) (by decide) rfl (fun ls hl => ?_)
            refine lv_goto (tgt := 39) hx hb dX8_freest_87 (by decide) ?_
            exact ih39 v39_2 v39_1 (v39_2 + (1 : Int32)) u2.2.1 u2.2.2.1 u2.2.2.2.1 u2.2.2.2.2.1 u2.2.2.2.2.2.1 u2.2.2.2.2.2.2 H locs ls ⟨hP, hD, hS, lv_sub hl [4, 5, 2, 1, 0] rfl⟩ hF
          · have hF := itN c74 hF
            refine lv_iload hx hb dX8_freest_77 (lv_at hl 1 rfl) ?_
            refine lv_goto (tgt := 83) hx hb dX8_freest_79 (by decide) ?_
            refine lv_istore_n (lv' := [(3, .int u2.1), (2, .int v39_2), (5, .int u2.1), (0, .ref t), (1, .int wh), (4, .int v39_2)]) hx hb dX8_freest_83 rfl hl (by decide) rfl (fun ls hl => ?_)
            refine lv_iinc (v := (v39_2 + (1 : Int32))) (lv' := [(4, .int (v39_2 + (1 : Int32))), (3, .int u2.1), (2, .int v39_2), (5, .int u2.1), (0, .ref t), (1, .int wh)]) hx hb dX8_freest_84 hl (k := 5) rfl (xInc_1 _) (by decide) rfl (fun ls hl => ?_)
            refine lv_goto (tgt := 39) hx hb dX8_freest_87 (by decide) ?_
            exact ih39 v39_2 u2.1 (v39_2 + (1 : Int32)) u2.2.1 u2.2.2.1 u2.2.2.2.1 u2.2.2.2.2.1 u2.2.2.2.2.2.1 u2.2.2.2.2.2.2 H locs ls ⟨hP, hD, hS, lv_sub hl [4, 5, 2, 1, 0] rfl⟩ hF
    · have hF := itP c22 hF
      refine lv_aload_n hx hb dX8_freest_25 rfl (lv_at hl 0 rfl) ?_
      refine lv_ldc (v := -1000000003) hx hb hown (hts _ (tcons _ m477)) dX8_freest_26 ?_
      obtain ⟨u2, e2, hF⟩ := bdS hF
      refine xEndI (xRunV (As := [.int (-1000000003 : Int32)]) (rest := []) hZ (c_X8_error G t row kpt errs bitsOf sizeOf cels broken isFit breaks act wth facts pile trc images mfit known laid hre opnd bad usg trcd isP errs_f (-1000000003 : Int32) u2 e2 l H.size) m193 m194 m195 m5 m196 1 ⟨rfl, hdX8_error⟩ ⟨Nat.le_of_ble_eq_true rfl, Nat.le_of_ble_eq_true rfl⟩ ⟨rfl, rfl⟩ hP hD hS 0 8 rfl rfl rfl [0, 2] rfl rfl rfl hl.1 rfl (Nat.le_of_ble_eq_true rfl) dX8_freest_28 ⟨Nat.zero_le _, Nat.zero_le _⟩) hP hD hS hA [0, 2] rfl rfl rfl (fun H locs n2 hP hD hS => ?_)
      have hP : va_P G.1 vwCl [(t, .inr (8, [.ref row, .ref kpt, .int images, .ref errs, .ref bitsOf, .ref sizeOf, .ref cels, .ref broken, .ref isFit, .ref breaks, .int mfit, .int known, .ref act, .ref wth, .ref facts, .ref pile, .int laid, .int hre, .int opnd, .int bad, .int usg, .ref trc, .int trcd, .int isP])), (row, .inl (xI G, 400, .inl row_f)), (errs, .inl (xI G, 7, .inl u2.2)), (broken, .inl (xJ G, 729, .inr (.inl broken_f))), (isFit, .inl (xZ G, 729, .inl isFit_f)), (breaks, .inl (xI G, 64, .inl breaks_f)), (facts, .inl (xI G, 3, .inl facts_f)), (pile, .inl (xI G, 60, .inl pile_f))] H := hP
      have hD : va_D A [(t, .inr (8, [.ref row, .ref kpt, .int images, .ref errs, .ref bitsOf, .ref sizeOf, .ref cels, .ref broken, .ref isFit, .ref breaks, .int mfit, .int known, .ref act, .ref wth, .ref facts, .ref pile, .int laid, .int hre, .int opnd, .int bad, .int usg, .ref trc, .int trcd, .int isP])), (row, .inl (xI G, 400, .inl row_f)), (errs, .inl (xI G, 7, .inl u2.2)), (broken, .inl (xJ G, 729, .inr (.inl broken_f))), (isFit, .inl (xZ G, 729, .inl isFit_f)), (breaks, .inl (xI G, 64, .inl breaks_f)), (facts, .inl (xI G, 3, .inl facts_f)), (pile, .inl (xI G, 60, .inl pile_f))] := hD
      obtain rfl := Option.some.inj hF
      rw [← hQ]
      exact W.iret (v := u2.1) hx hb hr (fun t ht hW => ⟨⟨_, (), rfl, ⟨rfl, rfl⟩, xLf hP ht⟩, hS.F ht⟩) hS.2.2 dX8_freest_31
  · have hF := itP c6 hF
    refine lv_aload_n hx hb dX8_freest_9 rfl (lv_at hl 0 rfl) ?_
    refine lv_ldc (v := -1000000001) hx hb hown (hts _ (tcons _ m185)) dX8_freest_10 ?_
    obtain ⟨u2, e2, hF⟩ := bdS hF
    refine xEndI (xRunV (As := [.int (-1000000001 : Int32)]) (rest := []) hZ (c_X8_error G t row kpt errs bitsOf sizeOf cels broken isFit breaks act wth facts pile trc images mfit known laid hre opnd bad usg trcd isP errs_f (-1000000001 : Int32) u2 e2 l H.size) m193 m194 m195 m5 m196 1 ⟨rfl, hdX8_error⟩ ⟨Nat.le_of_ble_eq_true rfl, Nat.le_of_ble_eq_true rfl⟩ ⟨rfl, rfl⟩ hP hD hS 0 8 rfl rfl rfl [0, 2] rfl rfl rfl hl.1 rfl (Nat.le_of_ble_eq_true rfl) dX8_freest_12 ⟨Nat.zero_le _, Nat.zero_le _⟩) hP hD hS hA [0, 2] rfl rfl rfl (fun H locs n2 hP hD hS => ?_)
    have hP : va_P G.1 vwCl [(t, .inr (8, [.ref row, .ref kpt, .int images, .ref errs, .ref bitsOf, .ref sizeOf, .ref cels, .ref broken, .ref isFit, .ref breaks, .int mfit, .int known, .ref act, .ref wth, .ref facts, .ref pile, .int laid, .int hre, .int opnd, .int bad, .int usg, .ref trc, .int trcd, .int isP])), (row, .inl (xI G, 400, .inl row_f)), (errs, .inl (xI G, 7, .inl u2.2)), (broken, .inl (xJ G, 729, .inr (.inl broken_f))), (isFit, .inl (xZ G, 729, .inl isFit_f)), (breaks, .inl (xI G, 64, .inl breaks_f)), (facts, .inl (xI G, 3, .inl facts_f)), (pile, .inl (xI G, 60, .inl pile_f))] H := hP
    have hD : va_D A [(t, .inr (8, [.ref row, .ref kpt, .int images, .ref errs, .ref bitsOf, .ref sizeOf, .ref cels, .ref broken, .ref isFit, .ref breaks, .int mfit, .int known, .ref act, .ref wth, .ref facts, .ref pile, .int laid, .int hre, .int opnd, .int bad, .int usg, .ref trc, .int trcd, .int isP])), (row, .inl (xI G, 400, .inl row_f)), (errs, .inl (xI G, 7, .inl u2.2)), (broken, .inl (xJ G, 729, .inr (.inl broken_f))), (isFit, .inl (xZ G, 729, .inl isFit_f)), (breaks, .inl (xI G, 64, .inl breaks_f)), (facts, .inl (xI G, 3, .inl facts_f)), (pile, .inl (xI G, 60, .inl pile_f))] := hD
    obtain rfl := Option.some.inj hF
    rw [← hQ]
    exact W.iret (v := u2.1) hx hb hr (fun t ht hW => ⟨⟨_, (), rfl, ⟨rfl, rfl⟩, xLf hP ht⟩, hS.F ht⟩) hS.2.2 dX8_freest_15
def B_X8_odds_54 (errs_f : Nat → Int32) (wh : Int32) (u3 : (Int32 × Int32 × Int32 × (Nat → Int32) × (Nat → Int32))) (k54 : (Int32 × Int32) → Option (Int32 × Int32 × Int32 × (Nat → Int32) × (Nat → Int32) × (Nat → Int32))) (v54 : (Int32 × Int32)) : Option (Int32 × Int32 × Int32 × (Nat → Int32) × (Nat → Int32) × (Nat → Int32)) := if v54.1 = 0 then (if wh = 0 then (if v54.2 = 0 then none else (some ((u3.1 / v54.2), u3.2.1, u3.2.2.1, errs_f, u3.2.2.2.1, u3.2.2.2.2))) else (if v54.2 = 0 then none else (some ((u3.2.1 / v54.2), u3.2.1, u3.2.2.1, errs_f, u3.2.2.2.1, u3.2.2.2.2)))) else (if v54.1 = 0 then none else (k54 ((v54.2 - v54.2 / v54.1 * v54.1), v54.1)))
def F_X8_odds (mfit : Int32) (known : Int32) (row_f : Nat → Int32) (errs_f : Nat → Int32) (broken_f : Nat → Int64) (isFit_f : Nat → Int32) (breaks_f : Nat → Int32) (sy : Int32) (wh : Int32) : Option (Int32 × Int32 × Int32 × (Nat → Int32) × (Nat → Int32) × (Nat → Int32)) := bd (F_X8_isSaying sy) (fun (u1 : Int32) => if u1 = 0 then (bd (F_X8_error errs_f (-1000000001 : Int32)) (fun (u2 : (Int32 × (Nat → Int32))) => some (u2.1, mfit, known, u2.2, isFit_f, breaks_f))) else (bd (F_X8_in wh (0 : Int32) (1 : Int32)) (fun (u2 : Int32) => if u2 = 0 then (bd (F_X8_error errs_f (-1000000001 : Int32)) (fun (u3 : (Int32 × (Nat → Int32))) => some (u3.1, mfit, known, u3.2, isFit_f, breaks_f))) else (bd (F_X8_breaksBy mfit known row_f broken_f isFit_f breaks_f sy) (fun (u3 : (Int32 × Int32 × Int32 × (Nat → Int32) × (Nat → Int32))) => if u3.2.1 = 0 then (bd (F_X8_error errs_f (-1000000003 : Int32)) (fun (u4 : (Int32 × (Nat → Int32))) => some (u4.1, u3.2.1, u3.2.2.1, u4.2, u3.2.2.2.1, u3.2.2.2.2))) else (lp (B_X8_odds_54 errs_f wh u3) fuelC (u3.1, u3.2.1)))))))
theorem hdX8_odds : yX8_odds.cls ≠ "java/lang/invoke/MethodHandle" ∧ yX8_odds.cls ≠ "java/lang/invoke/VarHandle" ∧ (parseMethodDescriptor yX8_odds.desc).map (fun d => d.parameters.length) = some 2 := by decide +kernel
set_option maxHeartbeats 4000000 in
set_option maxRecDepth 100000 in
theorem c_X8_odds (G : xG) (t : Nat) (row : Nat) (kpt : Nat) (errs : Nat) (bitsOf : Nat) (sizeOf : Nat) (cels : Nat) (broken : Nat) (isFit : Nat) (breaks : Nat) (act : Nat) (wth : Nat) (facts : Nat) (pile : Nat) (trc : Nat) (images : Int32) (mfit : Int32) (known : Int32) (laid : Int32) (hre : Int32) (opnd : Int32) (bad : Int32) (usg : Int32) (trcd : Int32) (isP : Int32) (row_f : Nat → Int32) (errs_f : Nat → Int32) (broken_f : Nat → Int64) (isFit_f : Nat → Int32) (breaks_f : Nat → Int32) (sy : Int32) (wh : Int32)  (u : (Int32 × Int32 × Int32 × (Nat → Int32) × (Nat → Int32) × (Nat → Int32))) (hF : F_X8_odds mfit known row_f errs_f broken_f isFit_f breaks_f sy wh = some u) : Ki G .int yX8_odds (Cond.code yX8_odds cX8_odds 8 (some .int) :: TBL) { frames := 4, cells := 0, slots := 0, locals := 88 } [.ref t, .int sy, .int wh] [(t, .inr (8, [.ref row, .ref kpt, .int images, .ref errs, .ref bitsOf, .ref sizeOf, .ref cels, .ref broken, .ref isFit, .ref breaks, .int mfit, .int known, .ref act, .ref wth, .ref facts, .ref pile, .int laid, .int hre, .int opnd, .int bad, .int usg, .ref trc, .int trcd, .int isP])), (row, .inl (xI G, 400, .inl row_f)), (errs, .inl (xI G, 7, .inl errs_f)), (broken, .inl (xJ G, 729, .inr (.inl broken_f))), (isFit, .inl (xZ G, 729, .inl isFit_f)), (breaks, .inl (xI G, 64, .inl breaks_f))] [(t, .inr (8, [.ref row, .ref kpt, .int images, .ref errs, .ref bitsOf, .ref sizeOf, .ref cels, .ref broken, .ref isFit, .ref breaks, .int u.2.1, .int u.2.2.1, .ref act, .ref wth, .ref facts, .ref pile, .int laid, .int hre, .int opnd, .int bad, .int usg, .ref trc, .int trcd, .int isP])), (row, .inl (xI G, 400, .inl row_f)), (errs, .inl (xI G, 7, .inl u.2.2.2.1)), (broken, .inl (xJ G, 729, .inr (.inl broken_f))), (isFit, .inl (xZ G, 729, .inl u.2.2.2.2.1)), (breaks, .inl (xI G, 64, .inl u.2.2.2.2.2))] u.1 := by
  intro l sz
  refine Met.ofW (cc := cX8_odds) (maxL := 8) (ret := (some .int)) (by decide) rfl ?_
  intro p e s m args below meth c s₁ B hml hv
  obtain ⟨rfl, hsz, hP, hD0, hm⟩ := hv
  have hx := B.exec
  have hb := B.bytes
  have hr := B.returns
  have hts := atoms_spec (ws := Cond.code yX8_odds cX8_odds 8 (some .int) :: TBL) B.pre
  have hown : s.vm.findClass RX8 = some m.cls := findClass_of_methodNamed B.named
  have hlocks := B.notSynchronized
  subst hsz
  have hD := hD0.self (sz := s.heap.size)
  generalize hAe : va_A [(t, .inr (8, [.ref row, .ref kpt, .int images, .ref errs, .ref bitsOf, .ref sizeOf, .ref cels, .ref broken, .ref isFit, .ref breaks, .int mfit, .int known, .ref act, .ref wth, .ref facts, .ref pile, .int laid, .int hre, .int opnd, .int bad, .int usg, .ref trc, .int trcd, .int isP])), (row, .inl (xI G, 400, .inl row_f)), (errs, .inl (xI G, 7, .inl errs_f)), (broken, .inl (xJ G, 729, .inr (.inl broken_f))), (isFit, .inl (xZ G, 729, .inl isFit_f)), (breaks, .inl (xI G, 64, .inl breaks_f))] s.heap.size = A at hD hm ⊢
  have hA : ∀ q : Nat, s.heap.size ≤ q → A q := fun q h => by rw [← hAe]; exact Or.inr h
  have hK := hm.1
  have hZ : xAnd p m c cX8_odds 8 s _ (Cond.code yX8_odds cX8_odds 8 (some .int) :: TBL) RX8 G A := ⟨⟨hx, hb, hml, hown, hts⟩, tcons, hA, hm⟩
  have hP : va_P G.1 vwCl [(t, .inr (8, [.ref row, .ref kpt, .int images, .ref errs, .ref bitsOf, .ref sizeOf, .ref cels, .ref broken, .ref isFit, .ref breaks, .int mfit, .int known, .ref act, .ref wth, .ref facts, .ref pile, .int laid, .int hre, .int opnd, .int bad, .int usg, .ref trc, .int trcd, .int isP])), (row, .inl (xI G, 400, .inl row_f)), (errs, .inl (xI G, 7, .inl errs_f)), (broken, .inl (xJ G, 729, .inr (.inl broken_f))), (isFit, .inl (xZ G, 729, .inl isFit_f)), (breaks, .inl (xI G, 64, .inl breaks_f))] s.heap := hP
  have hl := lv_entry ([.ref t, .int sy, .int wh]) (n := 8) (Nat.le_of_ble_eq_true rfl)
  rw [lg_entry_eq]
  generalize (lg_sl ([.ref t, .int sy, .int wh]) ++ List.replicate (8 - (lg_sl ([.ref t, .int sy, .int wh])).length) Slot.unset).toArray = ls at hl ⊢
  have hl : lv_has ls 8 [(0, .ref t), (1, .int sy), (2, .int wh)] := hl
  generalize hQ : MQ below _ _ s _ _ _ = Q
  refine xGo (A := A) hP (fun H locs hP hS => ?_)
  unfold F_X8_odds at hF
  refine lv_iload_n hx hb dX8_odds_0 rfl (lv_at hl 1 rfl) ?_
  obtain ⟨u1, e1, hF⟩ := bdS hF
  refine xEndI (xRunS (As := [.int sy]) (rest := []) hZ (c_X8_isSaying G sy u1 e1 l H.size) m380 m381 m5 m382 1 hdX8_isSaying ⟨Nat.le_of_ble_eq_true rfl, Nat.le_of_ble_eq_true rfl⟩ ⟨rfl, rfl⟩ hP hD hS [] rfl rfl rfl hl.1 rfl (Nat.le_of_ble_eq_true rfl) dX8_odds_1 ⟨Nat.zero_le _, Nat.zero_le _⟩) hP hD hS hA [] rfl rfl rfl (fun H locs n1 hP hD hS => ?_)
  have hP : va_P G.1 vwCl [(t, .inr (8, [.ref row, .ref kpt, .int images, .ref errs, .ref bitsOf, .ref sizeOf, .ref cels, .ref broken, .ref isFit, .ref breaks, .int mfit, .int known, .ref act, .ref wth, .ref facts, .ref pile, .int laid, .int hre, .int opnd, .int bad, .int usg, .ref trc, .int trcd, .int isP])), (row, .inl (xI G, 400, .inl row_f)), (errs, .inl (xI G, 7, .inl errs_f)), (broken, .inl (xJ G, 729, .inr (.inl broken_f))), (isFit, .inl (xZ G, 729, .inl isFit_f)), (breaks, .inl (xI G, 64, .inl breaks_f))] H := hP
  have hD : va_D A [(t, .inr (8, [.ref row, .ref kpt, .int images, .ref errs, .ref bitsOf, .ref sizeOf, .ref cels, .ref broken, .ref isFit, .ref breaks, .int mfit, .int known, .ref act, .ref wth, .ref facts, .ref pile, .int laid, .int hre, .int opnd, .int bad, .int usg, .ref trc, .int trcd, .int isP])), (row, .inl (xI G, 400, .inl row_f)), (errs, .inl (xI G, 7, .inl errs_f)), (broken, .inl (xJ G, 729, .inr (.inl broken_f))), (isFit, .inl (xZ G, 729, .inl isFit_f)), (breaks, .inl (xI G, 64, .inl breaks_f))] := hD
  refine lv_if_eq (tgt := 16) hx hb dX8_odds_4 (by decide) (fun c4 => ?_) (fun c4 => ?_)
  · have hF := itP c4 hF
    refine lv_aload_n hx hb dX8_odds_16 rfl (lv_at hl 0 rfl) ?_
    refine lv_ldc (v := -1000000001) hx hb hown (hts _ (tcons _ m185)) dX8_odds_17 ?_
    obtain ⟨u2, e2, hF⟩ := bdS hF
    refine xEndI (xRunV (As := [.int (-1000000001 : Int32)]) (rest := []) hZ (c_X8_error G t row kpt errs bitsOf sizeOf cels broken isFit breaks act wth facts pile trc images mfit known laid hre opnd bad usg trcd isP errs_f (-1000000001 : Int32) u2 e2 l H.size) m193 m194 m195 m5 m196 1 ⟨rfl, hdX8_error⟩ ⟨Nat.le_of_ble_eq_true rfl, Nat.le_of_ble_eq_true rfl⟩ ⟨rfl, rfl⟩ hP hD hS 0 8 rfl rfl rfl [0, 2] rfl rfl rfl hl.1 rfl (Nat.le_of_ble_eq_true rfl) dX8_odds_19 ⟨Nat.zero_le _, Nat.zero_le _⟩) hP hD hS hA [0, 2] rfl rfl rfl (fun H locs n2 hP hD hS => ?_)
    have hP : va_P G.1 vwCl [(t, .inr (8, [.ref row, .ref kpt, .int images, .ref errs, .ref bitsOf, .ref sizeOf, .ref cels, .ref broken, .ref isFit, .ref breaks, .int mfit, .int known, .ref act, .ref wth, .ref facts, .ref pile, .int laid, .int hre, .int opnd, .int bad, .int usg, .ref trc, .int trcd, .int isP])), (row, .inl (xI G, 400, .inl row_f)), (errs, .inl (xI G, 7, .inl u2.2)), (broken, .inl (xJ G, 729, .inr (.inl broken_f))), (isFit, .inl (xZ G, 729, .inl isFit_f)), (breaks, .inl (xI G, 64, .inl breaks_f))] H := hP
    have hD : va_D A [(t, .inr (8, [.ref row, .ref kpt, .int images, .ref errs, .ref bitsOf, .ref sizeOf, .ref cels, .ref broken, .ref isFit, .ref breaks, .int mfit, .int known, .ref act, .ref wth, .ref facts, .ref pile, .int laid, .int hre, .int opnd, .int bad, .int usg, .ref trc, .int trcd, .int isP])), (row, .inl (xI G, 400, .inl row_f)), (errs, .inl (xI G, 7, .inl u2.2)), (broken, .inl (xJ G, 729, .inr (.inl broken_f))), (isFit, .inl (xZ G, 729, .inl isFit_f)), (breaks, .inl (xI G, 64, .inl breaks_f))] := hD
    obtain rfl := Option.some.inj hF
    rw [← hQ]
    exact W.iret (v := u2.1) hx hb hr (fun t ht hW => ⟨⟨_, (), rfl, ⟨rfl, rfl⟩, xLf hP ht⟩, hS.F ht⟩) hS.2.2 dX8_odds_22
  · have hF := itN c4 hF
    refine lv_iload_n hx hb dX8_odds_7 rfl (lv_at hl 2 rfl) ?_
    refine lv_iconst (v := 0) hx hb dX8_odds_8 (by decide) ?_
    refine lv_iconst (v := 1) hx hb dX8_odds_9 (by decide) ?_
    obtain ⟨u2, e2, hF⟩ := bdS hF
    refine xEndI (xRunS (As := [.int wh, .int (0 : Int32), .int (1 : Int32)]) (rest := []) hZ (c_X8_in G wh (0 : Int32) (1 : Int32) u2 e2 l H.size) m190 m191 m5 m192 3 hdX8_in ⟨Nat.le_of_ble_eq_true rfl, Nat.le_of_ble_eq_true rfl⟩ ⟨rfl, rfl⟩ hP hD hS [] rfl rfl rfl hl.1 rfl (Nat.le_of_ble_eq_true rfl) dX8_odds_10 ⟨Nat.zero_le _, Nat.zero_le _⟩) hP hD hS hA [] rfl rfl rfl (fun H locs n2 hP hD hS => ?_)
    have hP : va_P G.1 vwCl [(t, .inr (8, [.ref row, .ref kpt, .int images, .ref errs, .ref bitsOf, .ref sizeOf, .ref cels, .ref broken, .ref isFit, .ref breaks, .int mfit, .int known, .ref act, .ref wth, .ref facts, .ref pile, .int laid, .int hre, .int opnd, .int bad, .int usg, .ref trc, .int trcd, .int isP])), (row, .inl (xI G, 400, .inl row_f)), (errs, .inl (xI G, 7, .inl errs_f)), (broken, .inl (xJ G, 729, .inr (.inl broken_f))), (isFit, .inl (xZ G, 729, .inl isFit_f)), (breaks, .inl (xI G, 64, .inl breaks_f))] H := hP
    have hD : va_D A [(t, .inr (8, [.ref row, .ref kpt, .int images, .ref errs, .ref bitsOf, .ref sizeOf, .ref cels, .ref broken, .ref isFit, .ref breaks, .int mfit, .int known, .ref act, .ref wth, .ref facts, .ref pile, .int laid, .int hre, .int opnd, .int bad, .int usg, .ref trc, .int trcd, .int isP])), (row, .inl (xI G, 400, .inl row_f)), (errs, .inl (xI G, 7, .inl errs_f)), (broken, .inl (xJ G, 729, .inr (.inl broken_f))), (isFit, .inl (xZ G, 729, .inl isFit_f)), (breaks, .inl (xI G, 64, .inl breaks_f))] := hD
    refine lv_if_ne (tgt := 23) hx hb dX8_odds_13 (by decide) (fun c13 => ?_) (fun c13 => ?_)
    · have hF := itN c13 hF
      refine lv_aload_n hx hb dX8_odds_23 rfl (lv_at hl 0 rfl) ?_
      refine lv_iload_n hx hb dX8_odds_24 rfl (lv_at hl 1 rfl) ?_
      obtain ⟨u3, e3, hF⟩ := bdS hF
      refine xEndI (xRunV (As := [.int sy]) (rest := []) hZ (c_X8_breaksBy G t row kpt errs bitsOf sizeOf cels broken isFit breaks act wth facts pile trc images mfit known laid hre opnd bad usg trcd isP row_f broken_f isFit_f breaks_f sy u3 e3 l H.size) m308 m309 m310 m5 m311 1 ⟨rfl, hdX8_breaksBy⟩ ⟨Nat.le_of_ble_eq_true rfl, Nat.le_of_ble_eq_true rfl⟩ ⟨rfl, rfl⟩ hP hD hS 0 8 rfl rfl rfl [0, 1, 3, 4, 5] rfl rfl rfl hl.1 rfl (Nat.le_of_ble_eq_true rfl) dX8_odds_25 ⟨Nat.zero_le _, Nat.zero_le _⟩) hP hD hS hA [0, 1, 3, 4, 5] rfl rfl rfl (fun H locs n3 hP hD hS => ?_)
      have hP : va_P G.1 vwCl [(t, .inr (8, [.ref row, .ref kpt, .int images, .ref errs, .ref bitsOf, .ref sizeOf, .ref cels, .ref broken, .ref isFit, .ref breaks, .int u3.2.1, .int u3.2.2.1, .ref act, .ref wth, .ref facts, .ref pile, .int laid, .int hre, .int opnd, .int bad, .int usg, .ref trc, .int trcd, .int isP])), (row, .inl (xI G, 400, .inl row_f)), (errs, .inl (xI G, 7, .inl errs_f)), (broken, .inl (xJ G, 729, .inr (.inl broken_f))), (isFit, .inl (xZ G, 729, .inl u3.2.2.2.1)), (breaks, .inl (xI G, 64, .inl u3.2.2.2.2))] H := hP
      have hD : va_D A [(t, .inr (8, [.ref row, .ref kpt, .int images, .ref errs, .ref bitsOf, .ref sizeOf, .ref cels, .ref broken, .ref isFit, .ref breaks, .int u3.2.1, .int u3.2.2.1, .ref act, .ref wth, .ref facts, .ref pile, .int laid, .int hre, .int opnd, .int bad, .int usg, .ref trc, .int trcd, .int isP])), (row, .inl (xI G, 400, .inl row_f)), (errs, .inl (xI G, 7, .inl errs_f)), (broken, .inl (xJ G, 729, .inr (.inl broken_f))), (isFit, .inl (xZ G, 729, .inl u3.2.2.2.1)), (breaks, .inl (xI G, 64, .inl u3.2.2.2.2))] := hD
      refine lv_istore_n (lv' := [(3, .int u3.1), (0, .ref t), (1, .int sy), (2, .int wh)]) hx hb dX8_odds_28 rfl hl (by decide) rfl (fun ls hl => ?_)
      refine lv_aload_n hx hb dX8_odds_29 rfl (lv_at hl 1 rfl) ?_
      refine va_get (ci := 8) (v := .int u3.2.1) (C := RX8) (T := TX8) (N := 24) hx hb hts (fun w h => tcons w (xin8 w h)) hown hK hP 0 rfl rfl 10 (by decide) (hts _ (tcons _ m303)) (fun _ h9 => h9) rfl dX8_odds_30 ?_
      refine lv_istore (lv' := [(4, .int u3.2.1), (3, .int u3.1), (0, .ref t), (1, .int sy), (2, .int wh)]) hx hb dX8_odds_33 hl (by decide) rfl (fun ls hl => ?_)
      refine lv_iload hx hb dX8_odds_35 (lv_at hl 0 rfl) ?_
      refine lv_if_ne (tgt := 47) hx hb dX8_odds_37 (by decide) (fun c37 => ?_) (fun c37 => ?_)
      · have hF := itN c37 hF
        refine lv_iload_n hx hb dX8_odds_47 rfl (lv_at hl 1 rfl) ?_
        refine lv_istore (lv' := [(5, .int u3.1), (4, .int u3.2.1), (3, .int u3.1), (0, .ref t), (1, .int sy), (2, .int wh)]) hx hb dX8_odds_48 hl (by decide) rfl (fun ls hl => ?_)
        refine lv_iload hx hb dX8_odds_50 (lv_at hl 1 rfl) ?_
        refine lv_istore (lv' := [(6, .int u3.2.1), (5, .int u3.1), (4, .int u3.2.1), (3, .int u3.1), (0, .ref t), (1, .int sy), (2, .int wh)]) hx hb dX8_odds_52 hl (by decide) rfl (fun ls hl => ?_)
        refine xLoop2 (body := (B_X8_odds_54 errs_f wh u3)) (fun (v54_0 : Int32) (v54_1 : Int32) H locs ls => va_P G.1 vwCl [(t, .inr (8, [.ref row, .ref kpt, .int images, .ref errs, .ref bitsOf, .ref sizeOf, .ref cels, .ref broken, .ref isFit, .ref breaks, .int u3.2.1, .int u3.2.2.1, .ref act, .ref wth, .ref facts, .ref pile, .int laid, .int hre, .int opnd, .int bad, .int usg, .ref trc, .int trcd, .int isP])), (row, .inl (xI G, 400, .inl row_f)), (errs, .inl (xI G, 7, .inl errs_f)), (broken, .inl (xJ G, 729, .inr (.inl broken_f))), (isFit, .inl (xZ G, 729, .inl u3.2.2.2.1)), (breaks, .inl (xI G, 64, .inl u3.2.2.2.2))] H ∧ va_D A [(t, .inr (8, [.ref row, .ref kpt, .int images, .ref errs, .ref bitsOf, .ref sizeOf, .ref cels, .ref broken, .ref isFit, .ref breaks, .int u3.2.1, .int u3.2.2.1, .ref act, .ref wth, .ref facts, .ref pile, .int laid, .int hre, .int opnd, .int bad, .int usg, .ref trc, .int trcd, .int isP])), (row, .inl (xI G, 400, .inl row_f)), (errs, .inl (xI G, 7, .inl errs_f)), (broken, .inl (xJ G, 729, .inr (.inl broken_f))), (isFit, .inl (xZ G, 729, .inl u3.2.2.2.1)), (breaks, .inl (xI G, 64, .inl u3.2.2.2.2))] ∧ va_S A s.heap H locs ∧ lv_has ls 8 [(0, .ref t), (1, .int sy), (2, .int wh), (3, .int u3.1), (4, .int u3.2.1), (5, .int v54_0), (6, .int v54_1)]) (fun N54 v54_0 v54_1 ih54 H locs ls hI hF => ?_) fuelC u3.1 u3.2.1 H locs ls ⟨hP, hD, hS, lv_sub hl [4, 5, 6, 3, 2, 1, 0] rfl⟩ hF
        obtain ⟨hP, hD, hS, hl⟩ := hI
        unfold B_X8_odds_54 at hF
        refine lv_iload hx hb dX8_odds_54 (lv_at hl 5 rfl) ?_
        refine lv_if_eq (tgt := 77) hx hb dX8_odds_56 (by decide) (fun c56 => ?_) (fun c56 => ?_)
        · have hF := itP c56 hF
          refine lv_iload_n hx hb dX8_odds_77 rfl (lv_at hl 2 rfl) ?_
          refine lv_if_ne (tgt := 88) hx hb dX8_odds_78 (by decide) (fun c78 => ?_) (fun c78 => ?_)
          · have hF := itN c78 hF
            refine lv_iload hx hb dX8_odds_88 (lv_at hl 4 rfl) ?_
            refine lv_iload hx hb dX8_odds_90 (lv_at hl 6 rfl) ?_
            obtain ⟨g92, hF⟩ := gdS hF
            refine lv_idiv hx hb dX8_odds_92 g92 ?_
            obtain rfl := Option.some.inj hF
            rw [← hQ]
            exact W.iret (v := (u3.2.1 / v54_1)) hx hb hr (fun t ht hW => ⟨⟨_, (), rfl, ⟨rfl, rfl⟩, xLf hP ht⟩, hS.F ht⟩) hS.2.2 dX8_odds_93
          · have hF := itP c78 hF
            refine lv_iload_n hx hb dX8_odds_81 rfl (lv_at hl 3 rfl) ?_
            refine lv_iload hx hb dX8_odds_82 (lv_at hl 6 rfl) ?_
            obtain ⟨g84, hF⟩ := gdS hF
            refine lv_idiv hx hb dX8_odds_84 g84 ?_
            refine lv_goto (tgt := 93) hx hb dX8_odds_85 (by decide) ?_
            obtain rfl := Option.some.inj hF
            rw [← hQ]
            exact W.iret (v := (u3.1 / v54_1)) hx hb hr (fun t ht hW => ⟨⟨_, (), rfl, ⟨rfl, rfl⟩, xLf hP ht⟩, hS.F ht⟩) hS.2.2 dX8_odds_93
        · have hF := itN c56 hF
          refine lv_iload hx hb dX8_odds_59 (lv_at hl 6 rfl) ?_
          refine lv_iload hx hb dX8_odds_61 (lv_at hl 5 rfl) ?_
          obtain ⟨g63, hF⟩ := gdS hF
          refine lv_irem hx hb dX8_odds_63 g63 ?_
          refine lv_istore (lv' := [(7, .int (v54_1 - v54_1 / v54_0 * v54_0)), (0, .ref t), (1, .int sy), (2, .int wh), (3, .int u3.1), (4, .int u3.2.1), (5, .int v54_0), (6, .int v54_1)]) hx hb dX8_odds_64 hl (by decide) rfl (fun ls hl => ?_)
          refine lv_iload hx hb dX8_odds_66 (lv_at hl 6 rfl) ?_
          refine lv_istore (lv' := [(6, .int v54_0), (7, .int (v54_1 - v54_1 / v54_0 * v54_0)), (0, .ref t), (1, .int sy), (2, .int wh), (3, .int u3.1), (4, .int u3.2.1), (5, .int v54_0)]) hx hb dX8_odds_68 hl (by decide) rfl (fun ls hl => ?_)
          refine lv_iload hx hb dX8_odds_70 (lv_at hl 1 rfl) ?_
          refine lv_istore (lv' := [(5, .int (v54_1 - v54_1 / v54_0 * v54_0)), (6, .int v54_0), (7, .int (v54_1 - v54_1 / v54_0 * v54_0)), (0, .ref t), (1, .int sy), (2, .int wh), (3, .int u3.1), (4, .int u3.2.1)]) hx hb dX8_odds_72 hl (by decide) rfl (fun ls hl => ?_)
          refine lv_goto (tgt := 54) hx hb dX8_odds_74 (by decide) ?_
          exact ih54 (v54_1 - v54_1 / v54_0 * v54_0) v54_0 H locs ls ⟨hP, hD, hS, lv_sub hl [3, 4, 5, 6, 7, 0, 1] rfl⟩ hF
      · have hF := itP c37 hF
        refine lv_aload_n hx hb dX8_odds_40 rfl (lv_at hl 2 rfl) ?_
        refine lv_ldc (v := -1000000003) hx hb hown (hts _ (tcons _ m477)) dX8_odds_41 ?_
        obtain ⟨u4, e4, hF⟩ := bdS hF
        refine xEndI (xRunV (As := [.int (-1000000003 : Int32)]) (rest := []) hZ (c_X8_error G t row kpt errs bitsOf sizeOf cels broken isFit breaks act wth facts pile trc images u3.2.1 u3.2.2.1 laid hre opnd bad usg trcd isP errs_f (-1000000003 : Int32) u4 e4 l H.size) m193 m194 m195 m5 m196 1 ⟨rfl, hdX8_error⟩ ⟨Nat.le_of_ble_eq_true rfl, Nat.le_of_ble_eq_true rfl⟩ ⟨rfl, rfl⟩ hP hD hS 0 8 rfl rfl rfl [0, 2] rfl rfl rfl hl.1 rfl (Nat.le_of_ble_eq_true rfl) dX8_odds_43 ⟨Nat.zero_le _, Nat.zero_le _⟩) hP hD hS hA [0, 2] rfl rfl rfl (fun H locs n4 hP hD hS => ?_)
        have hP : va_P G.1 vwCl [(t, .inr (8, [.ref row, .ref kpt, .int images, .ref errs, .ref bitsOf, .ref sizeOf, .ref cels, .ref broken, .ref isFit, .ref breaks, .int u3.2.1, .int u3.2.2.1, .ref act, .ref wth, .ref facts, .ref pile, .int laid, .int hre, .int opnd, .int bad, .int usg, .ref trc, .int trcd, .int isP])), (row, .inl (xI G, 400, .inl row_f)), (errs, .inl (xI G, 7, .inl u4.2)), (broken, .inl (xJ G, 729, .inr (.inl broken_f))), (isFit, .inl (xZ G, 729, .inl u3.2.2.2.1)), (breaks, .inl (xI G, 64, .inl u3.2.2.2.2))] H := hP
        have hD : va_D A [(t, .inr (8, [.ref row, .ref kpt, .int images, .ref errs, .ref bitsOf, .ref sizeOf, .ref cels, .ref broken, .ref isFit, .ref breaks, .int u3.2.1, .int u3.2.2.1, .ref act, .ref wth, .ref facts, .ref pile, .int laid, .int hre, .int opnd, .int bad, .int usg, .ref trc, .int trcd, .int isP])), (row, .inl (xI G, 400, .inl row_f)), (errs, .inl (xI G, 7, .inl u4.2)), (broken, .inl (xJ G, 729, .inr (.inl broken_f))), (isFit, .inl (xZ G, 729, .inl u3.2.2.2.1)), (breaks, .inl (xI G, 64, .inl u3.2.2.2.2))] := hD
        obtain rfl := Option.some.inj hF
        rw [← hQ]
        exact W.iret (v := u4.1) hx hb hr (fun t ht hW => ⟨⟨_, (), rfl, ⟨rfl, rfl⟩, xLf hP ht⟩, hS.F ht⟩) hS.2.2 dX8_odds_46
    · have hF := itP c13 hF
      refine lv_aload_n hx hb dX8_odds_16 rfl (lv_at hl 0 rfl) ?_
      refine lv_ldc (v := -1000000001) hx hb hown (hts _ (tcons _ m185)) dX8_odds_17 ?_
      obtain ⟨u3, e3, hF⟩ := bdS hF
      refine xEndI (xRunV (As := [.int (-1000000001 : Int32)]) (rest := []) hZ (c_X8_error G t row kpt errs bitsOf sizeOf cels broken isFit breaks act wth facts pile trc images mfit known laid hre opnd bad usg trcd isP errs_f (-1000000001 : Int32) u3 e3 l H.size) m193 m194 m195 m5 m196 1 ⟨rfl, hdX8_error⟩ ⟨Nat.le_of_ble_eq_true rfl, Nat.le_of_ble_eq_true rfl⟩ ⟨rfl, rfl⟩ hP hD hS 0 8 rfl rfl rfl [0, 2] rfl rfl rfl hl.1 rfl (Nat.le_of_ble_eq_true rfl) dX8_odds_19 ⟨Nat.zero_le _, Nat.zero_le _⟩) hP hD hS hA [0, 2] rfl rfl rfl (fun H locs n3 hP hD hS => ?_)
      have hP : va_P G.1 vwCl [(t, .inr (8, [.ref row, .ref kpt, .int images, .ref errs, .ref bitsOf, .ref sizeOf, .ref cels, .ref broken, .ref isFit, .ref breaks, .int mfit, .int known, .ref act, .ref wth, .ref facts, .ref pile, .int laid, .int hre, .int opnd, .int bad, .int usg, .ref trc, .int trcd, .int isP])), (row, .inl (xI G, 400, .inl row_f)), (errs, .inl (xI G, 7, .inl u3.2)), (broken, .inl (xJ G, 729, .inr (.inl broken_f))), (isFit, .inl (xZ G, 729, .inl isFit_f)), (breaks, .inl (xI G, 64, .inl breaks_f))] H := hP
      have hD : va_D A [(t, .inr (8, [.ref row, .ref kpt, .int images, .ref errs, .ref bitsOf, .ref sizeOf, .ref cels, .ref broken, .ref isFit, .ref breaks, .int mfit, .int known, .ref act, .ref wth, .ref facts, .ref pile, .int laid, .int hre, .int opnd, .int bad, .int usg, .ref trc, .int trcd, .int isP])), (row, .inl (xI G, 400, .inl row_f)), (errs, .inl (xI G, 7, .inl u3.2)), (broken, .inl (xJ G, 729, .inr (.inl broken_f))), (isFit, .inl (xZ G, 729, .inl isFit_f)), (breaks, .inl (xI G, 64, .inl breaks_f))] := hD
      obtain rfl := Option.some.inj hF
      rw [← hQ]
      exact W.iret (v := u3.1) hx hb hr (fun t ht hW => ⟨⟨_, (), rfl, ⟨rfl, rfl⟩, xLf hP ht⟩, hS.F ht⟩) hS.2.2 dX8_odds_22
def B_X8_fits_53 (errs_f : Nat → Int32) (sizeOf_f : Nat → Int32) (cels_f : Nat → Int32) (broken_f : Nat → Int64) (si : Int32) (wh : Int32) (u3 : (Int32 × Int32 × (Nat → Int32) × (Nat → Int32))) (k53 : (Int32 × Int32 × Int32) → Option (Int32 × Int32 × Int32 × (Nat → Int32) × (Nat → Int32) × (Nat → Int32))) (v53 : (Int32 × Int32 × Int32)) : Option (Int32 × Int32 × Int32 × (Nat → Int32) × (Nat → Int32) × (Nat → Int32)) := if v53.2.2 < 0 then (if wh = 0 then (some (v53.1, u3.1, u3.2.1, errs_f, u3.2.2.1, u3.2.2.2)) else (if 0 ≤ v53.2.1 then (some (v53.2.1, u3.1, u3.2.1, errs_f, u3.2.2.1, u3.2.2.2)) else (bd (F_X8_error errs_f (-1000000002 : Int32)) (fun (u4 : (Int32 × (Nat → Int32))) => some (u4.1, u3.1, u3.2.1, u4.2, u3.2.2.1, u3.2.2.2))))) else (bd (F_X8_isSo sizeOf_f cels_f broken_f u3.2.2.1 si v53.2.2) (fun (u4 : Int32) => if u4 = 0 then (if u4 = 0 then (k53 ((v53.1 + (0 : Int32)), v53.2.1, (v53.2.2 + (-1 : Int32)))) else (k53 ((v53.1 + (0 : Int32)), v53.2.2, (v53.2.2 + (-1 : Int32))))) else (if u4 = 0 then (k53 ((v53.1 + (1 : Int32)), v53.2.1, (v53.2.2 + (-1 : Int32)))) else (k53 ((v53.1 + (1 : Int32)), v53.2.2, (v53.2.2 + (-1 : Int32)))))))
def F_X8_fits (mfit : Int32) (known : Int32) (row_f : Nat → Int32) (errs_f : Nat → Int32) (bitsOf_f : Nat → Int32) (sizeOf_f : Nat → Int32) (cels_f : Nat → Int32) (broken_f : Nat → Int64) (isFit_f : Nat → Int32) (breaks_f : Nat → Int32) (si : Int32) (wh : Int32) : Option (Int32 × Int32 × Int32 × (Nat → Int32) × (Nat → Int32) × (Nat → Int32)) := bd (F_X8_isSheet si) (fun (u1 : Int32) => if u1 = 0 then (bd (F_X8_error errs_f (-1000000001 : Int32)) (fun (u2 : (Int32 × (Nat → Int32))) => some (u2.1, mfit, known, u2.2, isFit_f, breaks_f))) else (bd (F_X8_in wh (0 : Int32) (1 : Int32)) (fun (u2 : Int32) => if u2 = 0 then (bd (F_X8_error errs_f (-1000000001 : Int32)) (fun (u3 : (Int32 × (Nat → Int32))) => some (u3.1, mfit, known, u3.2, isFit_f, breaks_f))) else (if (si < 0 ∨ 4 ≤ si.toNatClampNeg) then none else (if (bitsOf_f si.toNatClampNeg) = 0 then (bd (F_X8_error errs_f (-1000000002 : Int32)) (fun (u3 : (Int32 × (Nat → Int32))) => some (u3.1, mfit, known, u3.2, isFit_f, breaks_f))) else (bd (F_X8_findVows mfit known row_f broken_f isFit_f breaks_f) (fun (u3 : (Int32 × Int32 × (Nat → Int32) × (Nat → Int32))) => lp (B_X8_fits_53 errs_f sizeOf_f cels_f broken_f si wh u3) fuelC ((0 : Int32), (-1 : Int32), (728 : Int32)))))))))
theorem hdX8_fits : yX8_fits.cls ≠ "java/lang/invoke/MethodHandle" ∧ yX8_fits.cls ≠ "java/lang/invoke/VarHandle" ∧ (parseMethodDescriptor yX8_fits.desc).map (fun d => d.parameters.length) = some 2 := by decide +kernel
set_option maxHeartbeats 4000000 in
set_option maxRecDepth 100000 in
theorem c_X8_fits (G : xG) (t : Nat) (row : Nat) (kpt : Nat) (errs : Nat) (bitsOf : Nat) (sizeOf : Nat) (cels : Nat) (broken : Nat) (isFit : Nat) (breaks : Nat) (act : Nat) (wth : Nat) (facts : Nat) (pile : Nat) (trc : Nat) (images : Int32) (mfit : Int32) (known : Int32) (laid : Int32) (hre : Int32) (opnd : Int32) (bad : Int32) (usg : Int32) (trcd : Int32) (isP : Int32) (row_f : Nat → Int32) (errs_f : Nat → Int32) (bitsOf_f : Nat → Int32) (sizeOf_f : Nat → Int32) (cels_f : Nat → Int32) (broken_f : Nat → Int64) (isFit_f : Nat → Int32) (breaks_f : Nat → Int32) (si : Int32) (wh : Int32)  (u : (Int32 × Int32 × Int32 × (Nat → Int32) × (Nat → Int32) × (Nat → Int32))) (hF : F_X8_fits mfit known row_f errs_f bitsOf_f sizeOf_f cels_f broken_f isFit_f breaks_f si wh = some u) : Ki G .int yX8_fits (Cond.code yX8_fits cX8_fits 7 (some .int) :: TBL) { frames := 3, cells := 0, slots := 0, locals := 67 } [.ref t, .int si, .int wh] [(t, .inr (8, [.ref row, .ref kpt, .int images, .ref errs, .ref bitsOf, .ref sizeOf, .ref cels, .ref broken, .ref isFit, .ref breaks, .int mfit, .int known, .ref act, .ref wth, .ref facts, .ref pile, .int laid, .int hre, .int opnd, .int bad, .int usg, .ref trc, .int trcd, .int isP])), (row, .inl (xI G, 400, .inl row_f)), (errs, .inl (xI G, 7, .inl errs_f)), (bitsOf, .inl (xI G, 4, .inl bitsOf_f)), (sizeOf, .inl (xI G, 4, .inl sizeOf_f)), (cels, .inl (xI G, 96, .inl cels_f)), (broken, .inl (xJ G, 729, .inr (.inl broken_f))), (isFit, .inl (xZ G, 729, .inl isFit_f)), (breaks, .inl (xI G, 64, .inl breaks_f))] [(t, .inr (8, [.ref row, .ref kpt, .int images, .ref errs, .ref bitsOf, .ref sizeOf, .ref cels, .ref broken, .ref isFit, .ref breaks, .int u.2.1, .int u.2.2.1, .ref act, .ref wth, .ref facts, .ref pile, .int laid, .int hre, .int opnd, .int bad, .int usg, .ref trc, .int trcd, .int isP])), (row, .inl (xI G, 400, .inl row_f)), (errs, .inl (xI G, 7, .inl u.2.2.2.1)), (bitsOf, .inl (xI G, 4, .inl bitsOf_f)), (sizeOf, .inl (xI G, 4, .inl sizeOf_f)), (cels, .inl (xI G, 96, .inl cels_f)), (broken, .inl (xJ G, 729, .inr (.inl broken_f))), (isFit, .inl (xZ G, 729, .inl u.2.2.2.2.1)), (breaks, .inl (xI G, 64, .inl u.2.2.2.2.2))] u.1 := by
  intro l sz
  refine Met.ofW (cc := cX8_fits) (maxL := 7) (ret := (some .int)) (by decide) rfl ?_
  intro p e s m args below meth c s₁ B hml hv
  obtain ⟨rfl, hsz, hP, hD0, hm⟩ := hv
  have hx := B.exec
  have hb := B.bytes
  have hr := B.returns
  have hts := atoms_spec (ws := Cond.code yX8_fits cX8_fits 7 (some .int) :: TBL) B.pre
  have hown : s.vm.findClass RX8 = some m.cls := findClass_of_methodNamed B.named
  have hlocks := B.notSynchronized
  subst hsz
  have hD := hD0.self (sz := s.heap.size)
  generalize hAe : va_A [(t, .inr (8, [.ref row, .ref kpt, .int images, .ref errs, .ref bitsOf, .ref sizeOf, .ref cels, .ref broken, .ref isFit, .ref breaks, .int mfit, .int known, .ref act, .ref wth, .ref facts, .ref pile, .int laid, .int hre, .int opnd, .int bad, .int usg, .ref trc, .int trcd, .int isP])), (row, .inl (xI G, 400, .inl row_f)), (errs, .inl (xI G, 7, .inl errs_f)), (bitsOf, .inl (xI G, 4, .inl bitsOf_f)), (sizeOf, .inl (xI G, 4, .inl sizeOf_f)), (cels, .inl (xI G, 96, .inl cels_f)), (broken, .inl (xJ G, 729, .inr (.inl broken_f))), (isFit, .inl (xZ G, 729, .inl isFit_f)), (breaks, .inl (xI G, 64, .inl breaks_f))] s.heap.size = A at hD hm ⊢
  have hA : ∀ q : Nat, s.heap.size ≤ q → A q := fun q h => by rw [← hAe]; exact Or.inr h
  have hK := hm.1
  have hZ : xAnd p m c cX8_fits 7 s _ (Cond.code yX8_fits cX8_fits 7 (some .int) :: TBL) RX8 G A := ⟨⟨hx, hb, hml, hown, hts⟩, tcons, hA, hm⟩
  have hP : va_P G.1 vwCl [(t, .inr (8, [.ref row, .ref kpt, .int images, .ref errs, .ref bitsOf, .ref sizeOf, .ref cels, .ref broken, .ref isFit, .ref breaks, .int mfit, .int known, .ref act, .ref wth, .ref facts, .ref pile, .int laid, .int hre, .int opnd, .int bad, .int usg, .ref trc, .int trcd, .int isP])), (row, .inl (xI G, 400, .inl row_f)), (errs, .inl (xI G, 7, .inl errs_f)), (bitsOf, .inl (xI G, 4, .inl bitsOf_f)), (sizeOf, .inl (xI G, 4, .inl sizeOf_f)), (cels, .inl (xI G, 96, .inl cels_f)), (broken, .inl (xJ G, 729, .inr (.inl broken_f))), (isFit, .inl (xZ G, 729, .inl isFit_f)), (breaks, .inl (xI G, 64, .inl breaks_f))] s.heap := hP
  have hl := lv_entry ([.ref t, .int si, .int wh]) (n := 7) (Nat.le_of_ble_eq_true rfl)
  rw [lg_entry_eq]
  generalize (lg_sl ([.ref t, .int si, .int wh]) ++ List.replicate (7 - (lg_sl ([.ref t, .int si, .int wh])).length) Slot.unset).toArray = ls at hl ⊢
  have hl : lv_has ls 7 [(0, .ref t), (1, .int si), (2, .int wh)] := hl
  generalize hQ : MQ below _ _ s _ _ _ = Q
  refine xGo (A := A) hP (fun H locs hP hS => ?_)
  unfold F_X8_fits at hF
  refine lv_iload_n hx hb dX8_fits_0 rfl (lv_at hl 1 rfl) ?_
  obtain ⟨u1, e1, hF⟩ := bdS hF
  refine xEndI (xRunS (As := [.int si]) (rest := []) hZ (c_X8_isSheet G si u1 e1 l H.size) m899 m900 m5 m901 1 hdX8_isSheet ⟨Nat.le_of_ble_eq_true rfl, Nat.le_of_ble_eq_true rfl⟩ ⟨rfl, rfl⟩ hP hD hS [] rfl rfl rfl hl.1 rfl (Nat.le_of_ble_eq_true rfl) dX8_fits_1 ⟨Nat.zero_le _, Nat.zero_le _⟩) hP hD hS hA [] rfl rfl rfl (fun H locs n1 hP hD hS => ?_)
  have hP : va_P G.1 vwCl [(t, .inr (8, [.ref row, .ref kpt, .int images, .ref errs, .ref bitsOf, .ref sizeOf, .ref cels, .ref broken, .ref isFit, .ref breaks, .int mfit, .int known, .ref act, .ref wth, .ref facts, .ref pile, .int laid, .int hre, .int opnd, .int bad, .int usg, .ref trc, .int trcd, .int isP])), (row, .inl (xI G, 400, .inl row_f)), (errs, .inl (xI G, 7, .inl errs_f)), (bitsOf, .inl (xI G, 4, .inl bitsOf_f)), (sizeOf, .inl (xI G, 4, .inl sizeOf_f)), (cels, .inl (xI G, 96, .inl cels_f)), (broken, .inl (xJ G, 729, .inr (.inl broken_f))), (isFit, .inl (xZ G, 729, .inl isFit_f)), (breaks, .inl (xI G, 64, .inl breaks_f))] H := hP
  have hD : va_D A [(t, .inr (8, [.ref row, .ref kpt, .int images, .ref errs, .ref bitsOf, .ref sizeOf, .ref cels, .ref broken, .ref isFit, .ref breaks, .int mfit, .int known, .ref act, .ref wth, .ref facts, .ref pile, .int laid, .int hre, .int opnd, .int bad, .int usg, .ref trc, .int trcd, .int isP])), (row, .inl (xI G, 400, .inl row_f)), (errs, .inl (xI G, 7, .inl errs_f)), (bitsOf, .inl (xI G, 4, .inl bitsOf_f)), (sizeOf, .inl (xI G, 4, .inl sizeOf_f)), (cels, .inl (xI G, 96, .inl cels_f)), (broken, .inl (xJ G, 729, .inr (.inl broken_f))), (isFit, .inl (xZ G, 729, .inl isFit_f)), (breaks, .inl (xI G, 64, .inl breaks_f))] := hD
  refine lv_if_eq (tgt := 16) hx hb dX8_fits_4 (by decide) (fun c4 => ?_) (fun c4 => ?_)
  · have hF := itP c4 hF
    refine lv_aload_n hx hb dX8_fits_16 rfl (lv_at hl 0 rfl) ?_
    refine lv_ldc (v := -1000000001) hx hb hown (hts _ (tcons _ m185)) dX8_fits_17 ?_
    obtain ⟨u2, e2, hF⟩ := bdS hF
    refine xEndI (xRunV (As := [.int (-1000000001 : Int32)]) (rest := []) hZ (c_X8_error G t row kpt errs bitsOf sizeOf cels broken isFit breaks act wth facts pile trc images mfit known laid hre opnd bad usg trcd isP errs_f (-1000000001 : Int32) u2 e2 l H.size) m193 m194 m195 m5 m196 1 ⟨rfl, hdX8_error⟩ ⟨Nat.le_of_ble_eq_true rfl, Nat.le_of_ble_eq_true rfl⟩ ⟨rfl, rfl⟩ hP hD hS 0 8 rfl rfl rfl [0, 2] rfl rfl rfl hl.1 rfl (Nat.le_of_ble_eq_true rfl) dX8_fits_19 ⟨Nat.zero_le _, Nat.zero_le _⟩) hP hD hS hA [0, 2] rfl rfl rfl (fun H locs n2 hP hD hS => ?_)
    have hP : va_P G.1 vwCl [(t, .inr (8, [.ref row, .ref kpt, .int images, .ref errs, .ref bitsOf, .ref sizeOf, .ref cels, .ref broken, .ref isFit, .ref breaks, .int mfit, .int known, .ref act, .ref wth, .ref facts, .ref pile, .int laid, .int hre, .int opnd, .int bad, .int usg, .ref trc, .int trcd, .int isP])), (row, .inl (xI G, 400, .inl row_f)), (errs, .inl (xI G, 7, .inl u2.2)), (bitsOf, .inl (xI G, 4, .inl bitsOf_f)), (sizeOf, .inl (xI G, 4, .inl sizeOf_f)), (cels, .inl (xI G, 96, .inl cels_f)), (broken, .inl (xJ G, 729, .inr (.inl broken_f))), (isFit, .inl (xZ G, 729, .inl isFit_f)), (breaks, .inl (xI G, 64, .inl breaks_f))] H := hP
    have hD : va_D A [(t, .inr (8, [.ref row, .ref kpt, .int images, .ref errs, .ref bitsOf, .ref sizeOf, .ref cels, .ref broken, .ref isFit, .ref breaks, .int mfit, .int known, .ref act, .ref wth, .ref facts, .ref pile, .int laid, .int hre, .int opnd, .int bad, .int usg, .ref trc, .int trcd, .int isP])), (row, .inl (xI G, 400, .inl row_f)), (errs, .inl (xI G, 7, .inl u2.2)), (bitsOf, .inl (xI G, 4, .inl bitsOf_f)), (sizeOf, .inl (xI G, 4, .inl sizeOf_f)), (cels, .inl (xI G, 96, .inl cels_f)), (broken, .inl (xJ G, 729, .inr (.inl broken_f))), (isFit, .inl (xZ G, 729, .inl isFit_f)), (breaks, .inl (xI G, 64, .inl breaks_f))] := hD
    obtain rfl := Option.some.inj hF
    rw [← hQ]
    exact W.iret (v := u2.1) hx hb hr (fun t ht hW => ⟨⟨_, (), rfl, ⟨rfl, rfl⟩, xLf hP ht⟩, hS.F ht⟩) hS.2.2 dX8_fits_22
  · have hF := itN c4 hF
    refine lv_iload_n hx hb dX8_fits_7 rfl (lv_at hl 2 rfl) ?_
    refine lv_iconst (v := 0) hx hb dX8_fits_8 (by decide) ?_
    refine lv_iconst (v := 1) hx hb dX8_fits_9 (by decide) ?_
    obtain ⟨u2, e2, hF⟩ := bdS hF
    refine xEndI (xRunS (As := [.int wh, .int (0 : Int32), .int (1 : Int32)]) (rest := []) hZ (c_X8_in G wh (0 : Int32) (1 : Int32) u2 e2 l H.size) m190 m191 m5 m192 3 hdX8_in ⟨Nat.le_of_ble_eq_true rfl, Nat.le_of_ble_eq_true rfl⟩ ⟨rfl, rfl⟩ hP hD hS [] rfl rfl rfl hl.1 rfl (Nat.le_of_ble_eq_true rfl) dX8_fits_10 ⟨Nat.zero_le _, Nat.zero_le _⟩) hP hD hS hA [] rfl rfl rfl (fun H locs n2 hP hD hS => ?_)
    have hP : va_P G.1 vwCl [(t, .inr (8, [.ref row, .ref kpt, .int images, .ref errs, .ref bitsOf, .ref sizeOf, .ref cels, .ref broken, .ref isFit, .ref breaks, .int mfit, .int known, .ref act, .ref wth, .ref facts, .ref pile, .int laid, .int hre, .int opnd, .int bad, .int usg, .ref trc, .int trcd, .int isP])), (row, .inl (xI G, 400, .inl row_f)), (errs, .inl (xI G, 7, .inl errs_f)), (bitsOf, .inl (xI G, 4, .inl bitsOf_f)), (sizeOf, .inl (xI G, 4, .inl sizeOf_f)), (cels, .inl (xI G, 96, .inl cels_f)), (broken, .inl (xJ G, 729, .inr (.inl broken_f))), (isFit, .inl (xZ G, 729, .inl isFit_f)), (breaks, .inl (xI G, 64, .inl breaks_f))] H := hP
    have hD : va_D A [(t, .inr (8, [.ref row, .ref kpt, .int images, .ref errs, .ref bitsOf, .ref sizeOf, .ref cels, .ref broken, .ref isFit, .ref breaks, .int mfit, .int known, .ref act, .ref wth, .ref facts, .ref pile, .int laid, .int hre, .int opnd, .int bad, .int usg, .ref trc, .int trcd, .int isP])), (row, .inl (xI G, 400, .inl row_f)), (errs, .inl (xI G, 7, .inl errs_f)), (bitsOf, .inl (xI G, 4, .inl bitsOf_f)), (sizeOf, .inl (xI G, 4, .inl sizeOf_f)), (cels, .inl (xI G, 96, .inl cels_f)), (broken, .inl (xJ G, 729, .inr (.inl broken_f))), (isFit, .inl (xZ G, 729, .inl isFit_f)), (breaks, .inl (xI G, 64, .inl breaks_f))] := hD
    refine lv_if_ne (tgt := 23) hx hb dX8_fits_13 (by decide) (fun c13 => ?_) (fun c13 => ?_)
    · have hF := itN c13 hF
      refine lv_aload_n hx hb dX8_fits_23 rfl (lv_at hl 0 rfl) ?_
      refine va_get (ci := 8) (v := .ref bitsOf) (C := RX8) (T := TX8) (N := 24) hx hb hts (fun w h => tcons w (xin8 w h)) hown hK hP 0 rfl rfl 4 (by decide) (hts _ (tcons _ m140)) (fun _ h9 => h9) rfl dX8_fits_24 ?_
      refine lv_iload_n hx hb dX8_fits_27 rfl (lv_at hl 1 rfl) ?_
      obtain ⟨g28, hF⟩ := gdS hF
      refine va_iald hx hb hK hP 3 0 rfl rfl g28 dX8_fits_28 ?_
      refine lv_if_ne (tgt := 39) hx hb dX8_fits_29 (by decide) (fun c29 => ?_) (fun c29 => ?_)
      · have hF := itN c29 hF
        refine lv_aload_n hx hb dX8_fits_39 rfl (lv_at hl 0 rfl) ?_
        obtain ⟨u3, e3, hF⟩ := bdS hF
        refine xEndV (xRunV (As := []) (rest := []) hZ (c_X8_findVows G t row kpt errs bitsOf sizeOf cels broken isFit breaks act wth facts pile trc images mfit known laid hre opnd bad usg trcd isP row_f broken_f isFit_f breaks_f u3 e3 l H.size) m312 m313 m314 m5 m315 0 ⟨rfl, hdX8_findVows⟩ ⟨Nat.le_of_ble_eq_true rfl, Nat.le_of_ble_eq_true rfl⟩ ⟨rfl, rfl⟩ hP hD hS 0 8 rfl rfl rfl [0, 1, 6, 7, 8] rfl rfl rfl hl.1 rfl (Nat.le_of_ble_eq_true rfl) dX8_fits_40 ⟨Nat.zero_le _, Nat.zero_le _⟩) hP hD hS hA [0, 1, 6, 7, 8] rfl rfl rfl (fun H locs hP hD hS => ?_)
        have hP : va_P G.1 vwCl [(t, .inr (8, [.ref row, .ref kpt, .int images, .ref errs, .ref bitsOf, .ref sizeOf, .ref cels, .ref broken, .ref isFit, .ref breaks, .int u3.1, .int u3.2.1, .ref act, .ref wth, .ref facts, .ref pile, .int laid, .int hre, .int opnd, .int bad, .int usg, .ref trc, .int trcd, .int isP])), (row, .inl (xI G, 400, .inl row_f)), (errs, .inl (xI G, 7, .inl errs_f)), (bitsOf, .inl (xI G, 4, .inl bitsOf_f)), (sizeOf, .inl (xI G, 4, .inl sizeOf_f)), (cels, .inl (xI G, 96, .inl cels_f)), (broken, .inl (xJ G, 729, .inr (.inl broken_f))), (isFit, .inl (xZ G, 729, .inl u3.2.2.1)), (breaks, .inl (xI G, 64, .inl u3.2.2.2))] H := hP
        have hD : va_D A [(t, .inr (8, [.ref row, .ref kpt, .int images, .ref errs, .ref bitsOf, .ref sizeOf, .ref cels, .ref broken, .ref isFit, .ref breaks, .int u3.1, .int u3.2.1, .ref act, .ref wth, .ref facts, .ref pile, .int laid, .int hre, .int opnd, .int bad, .int usg, .ref trc, .int trcd, .int isP])), (row, .inl (xI G, 400, .inl row_f)), (errs, .inl (xI G, 7, .inl errs_f)), (bitsOf, .inl (xI G, 4, .inl bitsOf_f)), (sizeOf, .inl (xI G, 4, .inl sizeOf_f)), (cels, .inl (xI G, 96, .inl cels_f)), (broken, .inl (xJ G, 729, .inr (.inl broken_f))), (isFit, .inl (xZ G, 729, .inl u3.2.2.1)), (breaks, .inl (xI G, 64, .inl u3.2.2.2))] := hD
        refine lv_iconst (v := 0) hx hb dX8_fits_43 (by decide) ?_
        refine lv_istore_n (lv' := [(3, .int (0 : Int32)), (0, .ref t), (1, .int si), (2, .int wh)]) hx hb dX8_fits_44 rfl hl (by decide) rfl (fun ls hl => ?_)
        refine lv_iconst (v := -1) hx hb dX8_fits_45 (by decide) ?_
        refine lv_istore (lv' := [(4, .int (-1 : Int32)), (3, .int (0 : Int32)), (0, .ref t), (1, .int si), (2, .int wh)]) hx hb dX8_fits_46 hl (by decide) rfl (fun ls hl => ?_)
        refine lv_sipush (v := 728) hx hb dX8_fits_48 (by decide) ?_
        refine lv_istore (lv' := [(5, .int (728 : Int32)), (4, .int (-1 : Int32)), (3, .int (0 : Int32)), (0, .ref t), (1, .int si), (2, .int wh)]) hx hb dX8_fits_51 hl (by decide) rfl (fun ls hl => ?_)
        refine xLoop3 (body := (B_X8_fits_53 errs_f sizeOf_f cels_f broken_f si wh u3)) (fun (v53_0 : Int32) (v53_1 : Int32) (v53_2 : Int32) H locs ls => va_P G.1 vwCl [(t, .inr (8, [.ref row, .ref kpt, .int images, .ref errs, .ref bitsOf, .ref sizeOf, .ref cels, .ref broken, .ref isFit, .ref breaks, .int u3.1, .int u3.2.1, .ref act, .ref wth, .ref facts, .ref pile, .int laid, .int hre, .int opnd, .int bad, .int usg, .ref trc, .int trcd, .int isP])), (row, .inl (xI G, 400, .inl row_f)), (errs, .inl (xI G, 7, .inl errs_f)), (bitsOf, .inl (xI G, 4, .inl bitsOf_f)), (sizeOf, .inl (xI G, 4, .inl sizeOf_f)), (cels, .inl (xI G, 96, .inl cels_f)), (broken, .inl (xJ G, 729, .inr (.inl broken_f))), (isFit, .inl (xZ G, 729, .inl u3.2.2.1)), (breaks, .inl (xI G, 64, .inl u3.2.2.2))] H ∧ va_D A [(t, .inr (8, [.ref row, .ref kpt, .int images, .ref errs, .ref bitsOf, .ref sizeOf, .ref cels, .ref broken, .ref isFit, .ref breaks, .int u3.1, .int u3.2.1, .ref act, .ref wth, .ref facts, .ref pile, .int laid, .int hre, .int opnd, .int bad, .int usg, .ref trc, .int trcd, .int isP])), (row, .inl (xI G, 400, .inl row_f)), (errs, .inl (xI G, 7, .inl errs_f)), (bitsOf, .inl (xI G, 4, .inl bitsOf_f)), (sizeOf, .inl (xI G, 4, .inl sizeOf_f)), (cels, .inl (xI G, 96, .inl cels_f)), (broken, .inl (xJ G, 729, .inr (.inl broken_f))), (isFit, .inl (xZ G, 729, .inl u3.2.2.1)), (breaks, .inl (xI G, 64, .inl u3.2.2.2))] ∧ va_S A s.heap H locs ∧ lv_has ls 7 [(0, .ref t), (1, .int si), (2, .int wh), (3, .int v53_0), (4, .int v53_1), (5, .int v53_2)]) (fun N53 v53_0 v53_1 v53_2 ih53 H locs ls hI hF => ?_) fuelC (0 : Int32) (-1 : Int32) (728 : Int32) H locs ls ⟨hP, hD, hS, lv_sub hl [3, 4, 5, 2, 1, 0] rfl⟩ hF
        obtain ⟨hP, hD, hS, hl⟩ := hI
        unfold B_X8_fits_53 at hF
        refine lv_iload hx hb dX8_fits_53 (lv_at hl 5 rfl) ?_
        refine lv_if_lt (tgt := 100) hx hb dX8_fits_55 (by decide) (fun c55 => ?_) (fun c55 => ?_)
        · have hF := itP c55 hF
          refine lv_iload_n hx hb dX8_fits_100 rfl (lv_at hl 2 rfl) ?_
          refine lv_if_ne (tgt := 108) hx hb dX8_fits_101 (by decide) (fun c101 => ?_) (fun c101 => ?_)
          · have hF := itN c101 hF
            refine lv_iload hx hb dX8_fits_108 (lv_at hl 4 rfl) ?_
            refine lv_if_ge (tgt := 122) hx hb dX8_fits_110 (by decide) (fun c110 => ?_) (fun c110 => ?_)
            · have hF := itP c110 hF
              refine lv_iload hx hb dX8_fits_122 (lv_at hl 4 rfl) ?_
              obtain rfl := Option.some.inj hF
              rw [← hQ]
              exact W.iret (v := v53_1) hx hb hr (fun t ht hW => ⟨⟨_, (), rfl, ⟨rfl, rfl⟩, xLf hP ht⟩, hS.F ht⟩) hS.2.2 dX8_fits_124
            · have hF := itN c110 hF
              refine lv_aload_n hx hb dX8_fits_113 rfl (lv_at hl 0 rfl) ?_
              refine lv_ldc (v := -1000000002) hx hb hown (hts _ (tcons _ m805)) dX8_fits_114 ?_
              obtain ⟨u4, e4, hF⟩ := bdS hF
              refine xEndI (xRunV (As := [.int (-1000000002 : Int32)]) (rest := []) hZ (c_X8_error G t row kpt errs bitsOf sizeOf cels broken isFit breaks act wth facts pile trc images u3.1 u3.2.1 laid hre opnd bad usg trcd isP errs_f (-1000000002 : Int32) u4 e4 l H.size) m193 m194 m195 m5 m196 1 ⟨rfl, hdX8_error⟩ ⟨Nat.le_of_ble_eq_true rfl, Nat.le_of_ble_eq_true rfl⟩ ⟨rfl, rfl⟩ hP hD hS 0 8 rfl rfl rfl [0, 2] rfl rfl rfl hl.1 rfl (Nat.le_of_ble_eq_true rfl) dX8_fits_116 ⟨Nat.zero_le _, Nat.zero_le _⟩) hP hD hS hA [0, 2] rfl rfl rfl (fun H locs n4 hP hD hS => ?_)
              have hP : va_P G.1 vwCl [(t, .inr (8, [.ref row, .ref kpt, .int images, .ref errs, .ref bitsOf, .ref sizeOf, .ref cels, .ref broken, .ref isFit, .ref breaks, .int u3.1, .int u3.2.1, .ref act, .ref wth, .ref facts, .ref pile, .int laid, .int hre, .int opnd, .int bad, .int usg, .ref trc, .int trcd, .int isP])), (row, .inl (xI G, 400, .inl row_f)), (errs, .inl (xI G, 7, .inl u4.2)), (bitsOf, .inl (xI G, 4, .inl bitsOf_f)), (sizeOf, .inl (xI G, 4, .inl sizeOf_f)), (cels, .inl (xI G, 96, .inl cels_f)), (broken, .inl (xJ G, 729, .inr (.inl broken_f))), (isFit, .inl (xZ G, 729, .inl u3.2.2.1)), (breaks, .inl (xI G, 64, .inl u3.2.2.2))] H := hP
              have hD : va_D A [(t, .inr (8, [.ref row, .ref kpt, .int images, .ref errs, .ref bitsOf, .ref sizeOf, .ref cels, .ref broken, .ref isFit, .ref breaks, .int u3.1, .int u3.2.1, .ref act, .ref wth, .ref facts, .ref pile, .int laid, .int hre, .int opnd, .int bad, .int usg, .ref trc, .int trcd, .int isP])), (row, .inl (xI G, 400, .inl row_f)), (errs, .inl (xI G, 7, .inl u4.2)), (bitsOf, .inl (xI G, 4, .inl bitsOf_f)), (sizeOf, .inl (xI G, 4, .inl sizeOf_f)), (cels, .inl (xI G, 96, .inl cels_f)), (broken, .inl (xJ G, 729, .inr (.inl broken_f))), (isFit, .inl (xZ G, 729, .inl u3.2.2.1)), (breaks, .inl (xI G, 64, .inl u3.2.2.2))] := hD
              refine lv_goto (tgt := 124) hx hb dX8_fits_119 (by decide) ?_
              obtain rfl := Option.some.inj hF
              rw [← hQ]
              exact W.iret (v := u4.1) hx hb hr (fun t ht hW => ⟨⟨_, (), rfl, ⟨rfl, rfl⟩, xLf hP ht⟩, hS.F ht⟩) hS.2.2 dX8_fits_124
          · have hF := itP c101 hF
            refine lv_iload_n hx hb dX8_fits_104 rfl (lv_at hl 3 rfl) ?_
            refine lv_goto (tgt := 124) hx hb dX8_fits_105 (by decide) ?_
            obtain rfl := Option.some.inj hF
            rw [← hQ]
            exact W.iret (v := v53_0) hx hb hr (fun t ht hW => ⟨⟨_, (), rfl, ⟨rfl, rfl⟩, xLf hP ht⟩, hS.F ht⟩) hS.2.2 dX8_fits_124
        · have hF := itN c55 hF
          refine lv_aload_n hx hb dX8_fits_58 rfl (lv_at hl 0 rfl) ?_
          refine lv_iload_n hx hb dX8_fits_59 rfl (lv_at hl 1 rfl) ?_
          refine lv_iload hx hb dX8_fits_60 (lv_at hl 5 rfl) ?_
          obtain ⟨u4, e4, hF⟩ := bdS hF
          refine xEndI (xRunV (As := [.int si, .int v53_2]) (rest := []) hZ (c_X8_isSo G t row kpt errs bitsOf sizeOf cels broken isFit breaks act wth facts pile trc images u3.1 u3.2.1 laid hre opnd bad usg trcd isP sizeOf_f cels_f broken_f u3.2.2.1 si v53_2 u4 e4 l H.size) m902 m903 m904 m5 m905 2 ⟨rfl, hdX8_isSo⟩ ⟨Nat.le_of_ble_eq_true rfl, Nat.le_of_ble_eq_true rfl⟩ ⟨rfl, rfl⟩ hP hD hS 0 8 rfl rfl rfl [0, 4, 5, 6, 7] rfl rfl rfl hl.1 rfl (Nat.le_of_ble_eq_true rfl) dX8_fits_62 ⟨Nat.zero_le _, Nat.zero_le _⟩) hP hD hS hA [0, 4, 5, 6, 7] rfl rfl rfl (fun H locs n4 hP hD hS => ?_)
          have hP : va_P G.1 vwCl [(t, .inr (8, [.ref row, .ref kpt, .int images, .ref errs, .ref bitsOf, .ref sizeOf, .ref cels, .ref broken, .ref isFit, .ref breaks, .int u3.1, .int u3.2.1, .ref act, .ref wth, .ref facts, .ref pile, .int laid, .int hre, .int opnd, .int bad, .int usg, .ref trc, .int trcd, .int isP])), (row, .inl (xI G, 400, .inl row_f)), (errs, .inl (xI G, 7, .inl errs_f)), (bitsOf, .inl (xI G, 4, .inl bitsOf_f)), (sizeOf, .inl (xI G, 4, .inl sizeOf_f)), (cels, .inl (xI G, 96, .inl cels_f)), (broken, .inl (xJ G, 729, .inr (.inl broken_f))), (isFit, .inl (xZ G, 729, .inl u3.2.2.1)), (breaks, .inl (xI G, 64, .inl u3.2.2.2))] H := hP
          have hD : va_D A [(t, .inr (8, [.ref row, .ref kpt, .int images, .ref errs, .ref bitsOf, .ref sizeOf, .ref cels, .ref broken, .ref isFit, .ref breaks, .int u3.1, .int u3.2.1, .ref act, .ref wth, .ref facts, .ref pile, .int laid, .int hre, .int opnd, .int bad, .int usg, .ref trc, .int trcd, .int isP])), (row, .inl (xI G, 400, .inl row_f)), (errs, .inl (xI G, 7, .inl errs_f)), (bitsOf, .inl (xI G, 4, .inl bitsOf_f)), (sizeOf, .inl (xI G, 4, .inl sizeOf_f)), (cels, .inl (xI G, 96, .inl cels_f)), (broken, .inl (xJ G, 729, .inr (.inl broken_f))), (isFit, .inl (xZ G, 729, .inl u3.2.2.1)), (breaks, .inl (xI G, 64, .inl u3.2.2.2))] := hD
          refine lv_istore (lv' := [(6, .int u4), (0, .ref t), (1, .int si), (2, .int wh), (3, .int v53_0), (4, .int v53_1), (5, .int v53_2)]) hx hb dX8_fits_65 hl (by decide) rfl (fun ls hl => ?_)
          refine lv_iload_n hx hb dX8_fits_67 rfl (lv_at hl 4 rfl) ?_
          refine lv_iload hx hb dX8_fits_68 (lv_at hl 0 rfl) ?_
          refine lv_if_eq (tgt := 77) hx hb dX8_fits_70 (by decide) (fun c70 => ?_) (fun c70 => ?_)
          · have hF := itP c70 hF
            refine lv_iconst (v := 0) hx hb dX8_fits_77 (by decide) ?_
            refine lv_iadd hx hb dX8_fits_78 ?_
            refine lv_istore_n (lv' := [(3, .int (v53_0 + (0 : Int32))), (6, .int u4), (0, .ref t), (1, .int si), (2, .int wh), (4, .int v53_1), (5, .int v53_2)]) hx hb dX8_fits_79 rfl hl (by decide) rfl (fun ls hl => ?_)
            refine lv_iload hx hb dX8_fits_80 (lv_at hl 1 rfl) ?_
            refine lv_if_eq (tgt := 90) hx hb dX8_fits_82 (by decide) (fun c82 => ?_) (fun c82 => ?_)
            · have hF := itP c82 hF
              refine lv_iload hx hb dX8_fits_90 (lv_at hl 5 rfl) ?_
              refine lv_istore (lv' := [(4, .int v53_1), (3, .int (v53_0 + (0 : Int32))), (6, .int u4), (0, .ref t), (1, .int si), (2, .int wh), (5, .int v53_2)]) hx hb dX8_fits_92 hl (by decide) rfl (fun ls hl => ?_)
              refine lv_iinc (v := (v53_2 + (-1 : Int32))) (lv' := [(5, .int (v53_2 + (-1 : Int32))), (4, .int v53_1), (3, .int (v53_0 + (0 : Int32))), (6, .int u4), (0, .ref t), (1, .int si), (2, .int wh)]) hx hb dX8_fits_94 hl (k := 6) rfl (xInc_m1 _) (by decide) rfl (fun ls hl => ?_)
              refine lv_goto (tgt := 53) hx hb dX8_fits_97 (by decide) ?_
              exact ih53 (v53_0 + (0 : Int32)) v53_1 (v53_2 + (-1 : Int32)) H locs ls ⟨hP, hD, hS, lv_sub hl [4, 5, 6, 2, 1, 0] rfl⟩ hF
            · have hF := itN c82 hF
              refine lv_iload hx hb dX8_fits_85 (lv_at hl 6 rfl) ?_
              refine lv_goto (tgt := 92) hx hb dX8_fits_87 (by decide) ?_
              refine lv_istore (lv' := [(4, .int v53_2), (3, .int (v53_0 + (0 : Int32))), (6, .int u4), (0, .ref t), (1, .int si), (2, .int wh), (5, .int v53_2)]) hx hb dX8_fits_92 hl (by decide) rfl (fun ls hl => ?_)
              refine lv_iinc (v := (v53_2 + (-1 : Int32))) (lv' := [(5, .int (v53_2 + (-1 : Int32))), (4, .int v53_2), (3, .int (v53_0 + (0 : Int32))), (6, .int u4), (0, .ref t), (1, .int si), (2, .int wh)]) hx hb dX8_fits_94 hl (k := 6) rfl (xInc_m1 _) (by decide) rfl (fun ls hl => ?_)
              refine lv_goto (tgt := 53) hx hb dX8_fits_97 (by decide) ?_
              exact ih53 (v53_0 + (0 : Int32)) v53_2 (v53_2 + (-1 : Int32)) H locs ls ⟨hP, hD, hS, lv_sub hl [4, 5, 6, 2, 1, 0] rfl⟩ hF
          · have hF := itN c70 hF
            refine lv_iconst (v := 1) hx hb dX8_fits_73 (by decide) ?_
            refine lv_goto (tgt := 78) hx hb dX8_fits_74 (by decide) ?_
            refine lv_iadd hx hb dX8_fits_78 ?_
            refine lv_istore_n (lv' := [(3, .int (v53_0 + (1 : Int32))), (6, .int u4), (0, .ref t), (1, .int si), (2, .int wh), (4, .int v53_1), (5, .int v53_2)]) hx hb dX8_fits_79 rfl hl (by decide) rfl (fun ls hl => ?_)
            refine lv_iload hx hb dX8_fits_80 (lv_at hl 1 rfl) ?_
            refine lv_if_eq (tgt := 90) hx hb dX8_fits_82 (by decide) (fun c82 => ?_) (fun c82 => ?_)
            · have hF := itP c82 hF
              refine lv_iload hx hb dX8_fits_90 (lv_at hl 5 rfl) ?_
              refine lv_istore (lv' := [(4, .int v53_1), (3, .int (v53_0 + (1 : Int32))), (6, .int u4), (0, .ref t), (1, .int si), (2, .int wh), (5, .int v53_2)]) hx hb dX8_fits_92 hl (by decide) rfl (fun ls hl => ?_)
              refine lv_iinc (v := (v53_2 + (-1 : Int32))) (lv' := [(5, .int (v53_2 + (-1 : Int32))), (4, .int v53_1), (3, .int (v53_0 + (1 : Int32))), (6, .int u4), (0, .ref t), (1, .int si), (2, .int wh)]) hx hb dX8_fits_94 hl (k := 6) rfl (xInc_m1 _) (by decide) rfl (fun ls hl => ?_)
              refine lv_goto (tgt := 53) hx hb dX8_fits_97 (by decide) ?_
              exact ih53 (v53_0 + (1 : Int32)) v53_1 (v53_2 + (-1 : Int32)) H locs ls ⟨hP, hD, hS, lv_sub hl [4, 5, 6, 2, 1, 0] rfl⟩ hF
            · have hF := itN c82 hF
              refine lv_iload hx hb dX8_fits_85 (lv_at hl 6 rfl) ?_
              refine lv_goto (tgt := 92) hx hb dX8_fits_87 (by decide) ?_
              refine lv_istore (lv' := [(4, .int v53_2), (3, .int (v53_0 + (1 : Int32))), (6, .int u4), (0, .ref t), (1, .int si), (2, .int wh), (5, .int v53_2)]) hx hb dX8_fits_92 hl (by decide) rfl (fun ls hl => ?_)
              refine lv_iinc (v := (v53_2 + (-1 : Int32))) (lv' := [(5, .int (v53_2 + (-1 : Int32))), (4, .int v53_2), (3, .int (v53_0 + (1 : Int32))), (6, .int u4), (0, .ref t), (1, .int si), (2, .int wh)]) hx hb dX8_fits_94 hl (k := 6) rfl (xInc_m1 _) (by decide) rfl (fun ls hl => ?_)
              refine lv_goto (tgt := 53) hx hb dX8_fits_97 (by decide) ?_
              exact ih53 (v53_0 + (1 : Int32)) v53_2 (v53_2 + (-1 : Int32)) H locs ls ⟨hP, hD, hS, lv_sub hl [4, 5, 6, 2, 1, 0] rfl⟩ hF
      · have hF := itP c29 hF
        refine lv_aload_n hx hb dX8_fits_32 rfl (lv_at hl 0 rfl) ?_
        refine lv_ldc (v := -1000000002) hx hb hown (hts _ (tcons _ m805)) dX8_fits_33 ?_
        obtain ⟨u3, e3, hF⟩ := bdS hF
        refine xEndI (xRunV (As := [.int (-1000000002 : Int32)]) (rest := []) hZ (c_X8_error G t row kpt errs bitsOf sizeOf cels broken isFit breaks act wth facts pile trc images mfit known laid hre opnd bad usg trcd isP errs_f (-1000000002 : Int32) u3 e3 l H.size) m193 m194 m195 m5 m196 1 ⟨rfl, hdX8_error⟩ ⟨Nat.le_of_ble_eq_true rfl, Nat.le_of_ble_eq_true rfl⟩ ⟨rfl, rfl⟩ hP hD hS 0 8 rfl rfl rfl [0, 2] rfl rfl rfl hl.1 rfl (Nat.le_of_ble_eq_true rfl) dX8_fits_35 ⟨Nat.zero_le _, Nat.zero_le _⟩) hP hD hS hA [0, 2] rfl rfl rfl (fun H locs n3 hP hD hS => ?_)
        have hP : va_P G.1 vwCl [(t, .inr (8, [.ref row, .ref kpt, .int images, .ref errs, .ref bitsOf, .ref sizeOf, .ref cels, .ref broken, .ref isFit, .ref breaks, .int mfit, .int known, .ref act, .ref wth, .ref facts, .ref pile, .int laid, .int hre, .int opnd, .int bad, .int usg, .ref trc, .int trcd, .int isP])), (row, .inl (xI G, 400, .inl row_f)), (errs, .inl (xI G, 7, .inl u3.2)), (bitsOf, .inl (xI G, 4, .inl bitsOf_f)), (sizeOf, .inl (xI G, 4, .inl sizeOf_f)), (cels, .inl (xI G, 96, .inl cels_f)), (broken, .inl (xJ G, 729, .inr (.inl broken_f))), (isFit, .inl (xZ G, 729, .inl isFit_f)), (breaks, .inl (xI G, 64, .inl breaks_f))] H := hP
        have hD : va_D A [(t, .inr (8, [.ref row, .ref kpt, .int images, .ref errs, .ref bitsOf, .ref sizeOf, .ref cels, .ref broken, .ref isFit, .ref breaks, .int mfit, .int known, .ref act, .ref wth, .ref facts, .ref pile, .int laid, .int hre, .int opnd, .int bad, .int usg, .ref trc, .int trcd, .int isP])), (row, .inl (xI G, 400, .inl row_f)), (errs, .inl (xI G, 7, .inl u3.2)), (bitsOf, .inl (xI G, 4, .inl bitsOf_f)), (sizeOf, .inl (xI G, 4, .inl sizeOf_f)), (cels, .inl (xI G, 96, .inl cels_f)), (broken, .inl (xJ G, 729, .inr (.inl broken_f))), (isFit, .inl (xZ G, 729, .inl isFit_f)), (breaks, .inl (xI G, 64, .inl breaks_f))] := hD
        obtain rfl := Option.some.inj hF
        rw [← hQ]
        exact W.iret (v := u3.1) hx hb hr (fun t ht hW => ⟨⟨_, (), rfl, ⟨rfl, rfl⟩, xLf hP ht⟩, hS.F ht⟩) hS.2.2 dX8_fits_38
    · have hF := itP c13 hF
      refine lv_aload_n hx hb dX8_fits_16 rfl (lv_at hl 0 rfl) ?_
      refine lv_ldc (v := -1000000001) hx hb hown (hts _ (tcons _ m185)) dX8_fits_17 ?_
      obtain ⟨u3, e3, hF⟩ := bdS hF
      refine xEndI (xRunV (As := [.int (-1000000001 : Int32)]) (rest := []) hZ (c_X8_error G t row kpt errs bitsOf sizeOf cels broken isFit breaks act wth facts pile trc images mfit known laid hre opnd bad usg trcd isP errs_f (-1000000001 : Int32) u3 e3 l H.size) m193 m194 m195 m5 m196 1 ⟨rfl, hdX8_error⟩ ⟨Nat.le_of_ble_eq_true rfl, Nat.le_of_ble_eq_true rfl⟩ ⟨rfl, rfl⟩ hP hD hS 0 8 rfl rfl rfl [0, 2] rfl rfl rfl hl.1 rfl (Nat.le_of_ble_eq_true rfl) dX8_fits_19 ⟨Nat.zero_le _, Nat.zero_le _⟩) hP hD hS hA [0, 2] rfl rfl rfl (fun H locs n3 hP hD hS => ?_)
      have hP : va_P G.1 vwCl [(t, .inr (8, [.ref row, .ref kpt, .int images, .ref errs, .ref bitsOf, .ref sizeOf, .ref cels, .ref broken, .ref isFit, .ref breaks, .int mfit, .int known, .ref act, .ref wth, .ref facts, .ref pile, .int laid, .int hre, .int opnd, .int bad, .int usg, .ref trc, .int trcd, .int isP])), (row, .inl (xI G, 400, .inl row_f)), (errs, .inl (xI G, 7, .inl u3.2)), (bitsOf, .inl (xI G, 4, .inl bitsOf_f)), (sizeOf, .inl (xI G, 4, .inl sizeOf_f)), (cels, .inl (xI G, 96, .inl cels_f)), (broken, .inl (xJ G, 729, .inr (.inl broken_f))), (isFit, .inl (xZ G, 729, .inl isFit_f)), (breaks, .inl (xI G, 64, .inl breaks_f))] H := hP
      have hD : va_D A [(t, .inr (8, [.ref row, .ref kpt, .int images, .ref errs, .ref bitsOf, .ref sizeOf, .ref cels, .ref broken, .ref isFit, .ref breaks, .int mfit, .int known, .ref act, .ref wth, .ref facts, .ref pile, .int laid, .int hre, .int opnd, .int bad, .int usg, .ref trc, .int trcd, .int isP])), (row, .inl (xI G, 400, .inl row_f)), (errs, .inl (xI G, 7, .inl u3.2)), (bitsOf, .inl (xI G, 4, .inl bitsOf_f)), (sizeOf, .inl (xI G, 4, .inl sizeOf_f)), (cels, .inl (xI G, 96, .inl cels_f)), (broken, .inl (xJ G, 729, .inr (.inl broken_f))), (isFit, .inl (xZ G, 729, .inl isFit_f)), (breaks, .inl (xI G, 64, .inl breaks_f))] := hD
      obtain rfl := Option.some.inj hF
      rw [← hQ]
      exact W.iret (v := u3.1) hx hb hr (fun t ht hW => ⟨⟨_, (), rfl, ⟨rfl, rfl⟩, xLf hP ht⟩, hS.F ht⟩) hS.2.2 dX8_fits_22
