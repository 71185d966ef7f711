def F_X8_drawn (mfit : Int32) (known : Int32) (row_f : Nat → Int32) (broken_f : Nat → Int64) (isFit_f : Nat → Int32) (breaks_f : Nat → Int32) (facts_f : Nat → Int32) (pile_f : Nat → Int32) : Option (Int32 × Int32 × Int32 × (Nat → Int32) × (Nat → Int32) × (Nat → Int32) × (Nat → Int32) × (Nat → Int32)) := if (row_f (2 : Int32).toNatClampNeg) ≤ 0 then (some ((0 : Int32), mfit, known, (upd row_f (0 : Int32).toNatClampNeg ((row_f (0 : Int32).toNatClampNeg) + (1 : Int32))), isFit_f, breaks_f, facts_f, pile_f)) else (bd (F_X8_draw row_f) (fun (u1 : (Int32 × (Nat → Int32))) => if (u1.2 (2 : Int32).toNatClampNeg) = 0 then none else (bd (F_X8_draw u1.2) (fun (u2 : (Int32 × (Nat → Int32))) => bd (F_X8_draw u2.2) (fun (u3 : (Int32 × (Nat → Int32))) => if (u3.1 - u3.1 / (16 : Int32) * (16 : Int32)) = 0 then (bd (F_X8_doesAvoid mfit known u3.2 broken_f isFit_f breaks_f facts_f pile_f (u1.1 - u1.1 / (u1.2 (2 : Int32).toNatClampNeg) * (u1.2 (2 : Int32).toNatClampNeg)) (u2.1 - u2.1 / (64 : Int32) * (64 : Int32))) (fun (u4 : (Int32 × Int32 × Int32 × (Nat → Int32) × (Nat → Int32) × (Nat → Int32) × (Nat → Int32))) => if u4.1 = 0 then (bd (F_X8_says u4.2.2.1 u3.2 broken_f u4.2.2.2.2.2.1 u4.2.2.2.2.2.2 (u1.1 - u1.1 / (u1.2 (2 : Int32).toNatClampNeg) * (u1.2 (2 : Int32).toNatClampNeg)) (u2.1 - u2.1 / (64 : Int32) * (64 : Int32)) (1 : Int32)) (fun (u5 : (Int32 × Int32 × (Nat → Int32) × (Nat → Int32) × (Nat → Int32))) => some (u5.1, u4.2.1, u5.2.1, (upd u5.2.2.1 (0 : Int32).toNatClampNeg ((u5.2.2.1 (0 : Int32).toNatClampNeg) + (1 : Int32))), u4.2.2.2.1, u4.2.2.2.2.1, u5.2.2.2.1, u5.2.2.2.2))) else (some ((0 : Int32), u4.2.1, u4.2.2.1, (upd u3.2 (0 : Int32).toNatClampNeg ((u3.2 (0 : Int32).toNatClampNeg) + (1 : Int32))), u4.2.2.2.1, u4.2.2.2.2.1, u4.2.2.2.2.2.1, u4.2.2.2.2.2.2)))) else (bd (F_X8_doesAvoid mfit known u3.2 broken_f isFit_f breaks_f facts_f pile_f (u1.1 - u1.1 / (u1.2 (2 : Int32).toNatClampNeg) * (u1.2 (2 : Int32).toNatClampNeg)) (u2.1 - u2.1 / (64 : Int32) * (64 : Int32))) (fun (u4 : (Int32 × Int32 × Int32 × (Nat → Int32) × (Nat → Int32) × (Nat → Int32) × (Nat → Int32))) => if u4.1 = 0 then (bd (F_X8_says u4.2.2.1 u3.2 broken_f u4.2.2.2.2.2.1 u4.2.2.2.2.2.2 (u1.1 - u1.1 / (u1.2 (2 : Int32).toNatClampNeg) * (u1.2 (2 : Int32).toNatClampNeg)) (u2.1 - u2.1 / (64 : Int32) * (64 : Int32)) (0 : Int32)) (fun (u5 : (Int32 × Int32 × (Nat → Int32) × (Nat → Int32) × (Nat → Int32))) => some (u5.1, u4.2.1, u5.2.1, (upd u5.2.2.1 (0 : Int32).toNatClampNeg ((u5.2.2.1 (0 : Int32).toNatClampNeg) + (1 : Int32))), u4.2.2.2.1, u4.2.2.2.2.1, u5.2.2.2.1, u5.2.2.2.2))) else (some ((0 : Int32), u4.2.1, u4.2.2.1, (upd u3.2 (0 : Int32).toNatClampNeg ((u3.2 (0 : Int32).toNatClampNeg) + (1 : Int32))), u4.2.2.2.1, u4.2.2.2.2.1, u4.2.2.2.2.2.1, u4.2.2.2.2.2.2)))))))))
theorem hdX8_drawn : yX8_drawn.cls ≠ "java/lang/invoke/MethodHandle" ∧ yX8_drawn.cls ≠ "java/lang/invoke/VarHandle" ∧ (parseMethodDescriptor yX8_drawn.desc).map (fun d => d.parameters.length) = some 0 := by decide +kernel
set_option maxHeartbeats 4000000 in
set_option maxRecDepth 100000 in
theorem c_X8_drawn (G : xG) (t : Nat) (row : Nat) (kpt : Nat) (errs : Nat) (bitsOf : Nat) (sizeOf : Nat) (cels : Nat) (broken : Nat) (isFit : Nat) (breaks : Nat) (act : Nat) (wth : Nat) (facts : Nat) (pile : Nat) (trc : Nat) (images : Int32) (mfit : Int32) (known : Int32) (laid : Int32) (hre : Int32) (opnd : Int32) (bad : Int32) (usg : Int32) (trcd : Int32) (isP : Int32) (row_f : Nat → Int32) (broken_f : Nat → Int64) (isFit_f : Nat → Int32) (breaks_f : Nat → Int32) (facts_f : Nat → Int32) (pile_f : Nat → Int32)  (u : (Int32 × Int32 × Int32 × (Nat → Int32) × (Nat → Int32) × (Nat → Int32) × (Nat → Int32) × (Nat → Int32))) (hF : F_X8_drawn mfit known row_f broken_f isFit_f breaks_f facts_f pile_f = some u) : Ki G .int yX8_drawn (Cond.code yX8_drawn cX8_drawn 5 (some .int) :: TBL) { frames := 6, cells := 0, slots := 0, locals := 137 } [.ref t] [(t, .inr (8, [.ref row, .ref kpt, .int images, .ref errs, .ref bitsOf, .ref sizeOf, .ref cels, .ref broken, .ref isFit, .ref breaks, .int mfit, .int known, .ref act, .ref wth, .ref facts, .ref pile, .int laid, .int hre, .int opnd, .int bad, .int usg, .ref trc, .int trcd, .int isP])), (row, .inl (xI G, 400, .inl row_f)), (broken, .inl (xJ G, 729, .inr (.inl broken_f))), (isFit, .inl (xZ G, 729, .inl isFit_f)), (breaks, .inl (xI G, 64, .inl breaks_f)), (facts, .inl (xI G, 3, .inl facts_f)), (pile, .inl (xI G, 60, .inl pile_f))] [(t, .inr (8, [.ref row, .ref kpt, .int images, .ref errs, .ref bitsOf, .ref sizeOf, .ref cels, .ref broken, .ref isFit, .ref breaks, .int u.2.1, .int u.2.2.1, .ref act, .ref wth, .ref facts, .ref pile, .int laid, .int hre, .int opnd, .int bad, .int usg, .ref trc, .int trcd, .int isP])), (row, .inl (xI G, 400, .inl u.2.2.2.1)), (broken, .inl (xJ G, 729, .inr (.inl broken_f))), (isFit, .inl (xZ G, 729, .inl u.2.2.2.2.1)), (breaks, .inl (xI G, 64, .inl u.2.2.2.2.2.1)), (facts, .inl (xI G, 3, .inl u.2.2.2.2.2.2.1)), (pile, .inl (xI G, 60, .inl u.2.2.2.2.2.2.2))] u.1 := by
  intro l sz
  refine Met.ofW (cc := cX8_drawn) (maxL := 5) (ret := (some .int)) (by decide) rfl ?_
  intro p e s m args below meth c s₁ B hml hv
  obtain ⟨rfl, hsz, hP, hD0, hm⟩ := hv
  have hx := B.exec
  have hb := B.bytes
  have hr := B.returns
  have hts := atoms_spec (ws := Cond.code yX8_drawn cX8_drawn 5 (some .int) :: TBL) B.pre
  have hown : s.vm.findClass RX8 = some m.cls := findClass_of_methodNamed B.named
  have hlocks := B.notSynchronized
  subst hsz
  have hD := hD0.self (sz := s.heap.size)
  generalize hAe : va_A [(t, .inr (8, [.ref row, .ref kpt, .int images, .ref errs, .ref bitsOf, .ref sizeOf, .ref cels, .ref broken, .ref isFit, .ref breaks, .int mfit, .int known, .ref act, .ref wth, .ref facts, .ref pile, .int laid, .int hre, .int opnd, .int bad, .int usg, .ref trc, .int trcd, .int isP])), (row, .inl (xI G, 400, .inl row_f)), (broken, .inl (xJ G, 729, .inr (.inl broken_f))), (isFit, .inl (xZ G, 729, .inl isFit_f)), (breaks, .inl (xI G, 64, .inl breaks_f)), (facts, .inl (xI G, 3, .inl facts_f)), (pile, .inl (xI G, 60, .inl pile_f))] s.heap.size = A at hD hm ⊢
  have hA : ∀ q : Nat, s.heap.size ≤ q → A q := fun q h => by rw [← hAe]; exact Or.inr h
  have hK := hm.1
  have hZ : xAnd p m c cX8_drawn 5 s _ (Cond.code yX8_drawn cX8_drawn 5 (some .int) :: TBL) RX8 G A := ⟨⟨hx, hb, hml, hown, hts⟩, tcons, hA, hm⟩
  have hP : va_P G.1 vwCl [(t, .inr (8, [.ref row, .ref kpt, .int images, .ref errs, .ref bitsOf, .ref sizeOf, .ref cels, .ref broken, .ref isFit, .ref breaks, .int mfit, .int known, .ref act, .ref wth, .ref facts, .ref pile, .int laid, .int hre, .int opnd, .int bad, .int usg, .ref trc, .int trcd, .int isP])), (row, .inl (xI G, 400, .inl row_f)), (broken, .inl (xJ G, 729, .inr (.inl broken_f))), (isFit, .inl (xZ G, 729, .inl isFit_f)), (breaks, .inl (xI G, 64, .inl breaks_f)), (facts, .inl (xI G, 3, .inl facts_f)), (pile, .inl (xI G, 60, .inl pile_f))] s.heap := hP
  have hl := lv_entry ([.ref t]) (n := 5) (Nat.le_of_ble_eq_true rfl)
  rw [lg_entry_eq]
  generalize (lg_sl ([.ref t]) ++ List.replicate (5 - (lg_sl ([.ref t])).length) Slot.unset).toArray = ls at hl ⊢
  have hl : lv_has ls 5 [(0, .ref t)] := hl
  generalize hQ : MQ below _ _ s _ _ _ = Q
  refine xGo (A := A) hP (fun H locs hP hS => ?_)
  unfold F_X8_drawn at hF
  refine lv_iconst (v := 0) hx hb dX8_drawn_0 (by decide) ?_
  refine lv_istore_n (lv' := [(1, .int (0 : Int32)), (0, .ref t)]) hx hb dX8_drawn_1 rfl hl (by decide) rfl (fun ls hl => ?_)
  refine lv_aload_n hx hb dX8_drawn_2 rfl (lv_at hl 1 rfl) ?_
  refine va_get (ci := 8) (v := .ref row) (C := RX8) (T := TX8) (N := 24) hx hb hts (fun w h => tcons w (xin8 w h)) hown hK hP 0 rfl rfl 0 (by decide) (hts _ (tcons _ m137)) (fun _ h9 => h9) rfl dX8_drawn_3 ?_
  refine lv_iconst (v := 2) hx hb dX8_drawn_6 (by decide) ?_
  refine va_iald hx hb hK hP 1 0 rfl rfl (by unfold vp_in; decide) dX8_drawn_7 ?_
  refine lv_if_le (tgt := 70) hx hb dX8_drawn_8 (by decide) (fun c8 => ?_) (fun c8 => ?_)
  · have hF := itP c8 hF
    refine lv_aload_n hx hb dX8_drawn_70 rfl (lv_at hl 1 rfl) ?_
    refine va_get (ci := 8) (v := .ref row) (C := RX8) (T := TX8) (N := 24) hx hb hts (fun w h => tcons w (xin8 w h)) hown hK hP 0 rfl rfl 0 (by decide) (hts _ (tcons _ m137)) (fun _ h9 => h9) rfl dX8_drawn_71 ?_
    refine lv_iconst (v := 0) hx hb dX8_drawn_74 (by decide) ?_
    refine lv_dup2_11 hx hb dX8_drawn_75 rfl rfl ?_
    refine va_iald hx hb hK hP 1 0 rfl rfl (by unfold vp_in; decide) dX8_drawn_76 ?_
    refine lv_iconst (v := 1) hx hb dX8_drawn_77 (by decide) ?_
    refine lv_iadd hx hb dX8_drawn_78 ?_
    refine va_iast hx hb hK hP hD hS 1 0 rfl rfl (by unfold vp_in; decide) dX8_drawn_79 (fun H locs hP hD hS => ?_)
    have hP : va_P G.1 vwCl [(t, .inr (8, [.ref row, .ref kpt, .int images, .ref errs, .ref bitsOf, .ref sizeOf, .ref cels, .ref broken, .ref isFit, .ref breaks, .int mfit, .int known, .ref act, .ref wth, .ref facts, .ref pile, .int laid, .int hre, .int opnd, .int bad, .int usg, .ref trc, .int trcd, .int isP])), (row, .inl (xI G, 400, .inl (upd row_f (0 : Int32).toNatClampNeg ((row_f (0 : Int32).toNatClampNeg) + (1 : Int32))))), (broken, .inl (xJ G, 729, .inr (.inl broken_f))), (isFit, .inl (xZ G, 729, .inl isFit_f)), (breaks, .inl (xI G, 64, .inl breaks_f)), (facts, .inl (xI G, 3, .inl facts_f)), (pile, .inl (xI G, 60, .inl pile_f))] H := hP
    have hD : va_D A [(t, .inr (8, [.ref row, .ref kpt, .int images, .ref errs, .ref bitsOf, .ref sizeOf, .ref cels, .ref broken, .ref isFit, .ref breaks, .int mfit, .int known, .ref act, .ref wth, .ref facts, .ref pile, .int laid, .int hre, .int opnd, .int bad, .int usg, .ref trc, .int trcd, .int isP])), (row, .inl (xI G, 400, .inl (upd row_f (0 : Int32).toNatClampNeg ((row_f (0 : Int32).toNatClampNeg) + (1 : Int32))))), (broken, .inl (xJ G, 729, .inr (.inl broken_f))), (isFit, .inl (xZ G, 729, .inl isFit_f)), (breaks, .inl (xI G, 64, .inl breaks_f)), (facts, .inl (xI G, 3, .inl facts_f)), (pile, .inl (xI G, 60, .inl pile_f))] := hD
    refine lv_iload_n hx hb dX8_drawn_80 rfl (lv_at hl 0 rfl) ?_
    obtain rfl := Option.some.inj hF
    rw [← hQ]
    exact W.iret (v := (0 : Int32)) hx hb hr (fun t ht hW => ⟨⟨_, (), rfl, ⟨rfl, rfl⟩, xLf hP ht⟩, hS.F ht⟩) hS.2.2 dX8_drawn_81
  · have hF := itN c8 hF
    refine lv_aload_n hx hb dX8_drawn_11 rfl (lv_at hl 1 rfl) ?_
    obtain ⟨u1, e1, hF⟩ := bdS hF
    refine xEndI (xRunV (As := []) (rest := []) hZ (c_X8_draw G t row kpt errs bitsOf sizeOf cels broken isFit breaks act wth facts pile trc images mfit known laid hre opnd bad usg trcd isP row_f u1 e1 l H.size) m762 m763 m764 m5 m765 0 ⟨rfl, hdX8_draw⟩ ⟨Nat.le_of_ble_eq_true rfl, Nat.le_of_ble_eq_true rfl⟩ ⟨rfl, rfl⟩ hP hD hS 0 8 rfl rfl rfl [0, 1] rfl rfl rfl hl.1 rfl (Nat.le_of_ble_eq_true rfl) dX8_drawn_12 ⟨Nat.zero_le _, Nat.zero_le _⟩) hP hD hS hA [0, 1] rfl rfl rfl (fun H locs n1 hP hD hS => ?_)
    have hP : va_P G.1 vwCl [(t, .inr (8, [.ref row, .ref kpt, .int images, .ref errs, .ref bitsOf, .ref sizeOf, .ref cels, .ref broken, .ref isFit, .ref breaks, .int mfit, .int known, .ref act, .ref wth, .ref facts, .ref pile, .int laid, .int hre, .int opnd, .int bad, .int usg, .ref trc, .int trcd, .int isP])), (row, .inl (xI G, 400, .inl u1.2)), (broken, .inl (xJ G, 729, .inr (.inl broken_f))), (isFit, .inl (xZ G, 729, .inl isFit_f)), (breaks, .inl (xI G, 64, .inl breaks_f)), (facts, .inl (xI G, 3, .inl facts_f)), (pile, .inl (xI G, 60, .inl pile_f))] H := hP
    have hD : va_D A [(t, .inr (8, [.ref row, .ref kpt, .int images, .ref errs, .ref bitsOf, .ref sizeOf, .ref cels, .ref broken, .ref isFit, .ref breaks, .int mfit, .int known, .ref act, .ref wth, .ref facts, .ref pile, .int laid, .int hre, .int opnd, .int bad, .int usg, .ref trc, .int trcd, .int isP])), (row, .inl (xI G, 400, .inl u1.2)), (broken, .inl (xJ G, 729, .inr (.inl broken_f))), (isFit, .inl (xZ G, 729, .inl isFit_f)), (breaks, .inl (xI G, 64, .inl breaks_f)), (facts, .inl (xI G, 3, .inl facts_f)), (pile, .inl (xI G, 60, .inl pile_f))] := hD
    refine lv_aload_n hx hb dX8_drawn_15 rfl (lv_at hl 1 rfl) ?_
    refine va_get (ci := 8) (v := .ref row) (C := RX8) (T := TX8) (N := 24) hx hb hts (fun w h => tcons w (xin8 w h)) hown hK hP 0 rfl rfl 0 (by decide) (hts _ (tcons _ m137)) (fun _ h9 => h9) rfl dX8_drawn_16 ?_
    refine lv_iconst (v := 2) hx hb dX8_drawn_19 (by decide) ?_
    refine va_iald hx hb hK hP 1 0 rfl rfl (by unfold vp_in; decide) dX8_drawn_20 ?_
    obtain ⟨g21, hF⟩ := gdS hF
    refine lv_irem hx hb dX8_drawn_21 g21 ?_
    refine lv_istore_n (lv' := [(2, .int (u1.1 - u1.1 / (u1.2 (2 : Int32).toNatClampNeg) * (u1.2 (2 : Int32).toNatClampNeg))), (1, .int (0 : Int32)), (0, .ref t)]) hx hb dX8_drawn_22 rfl hl (by decide) rfl (fun ls hl => ?_)
    refine lv_aload_n hx hb dX8_drawn_23 rfl (lv_at hl 2 rfl) ?_
    obtain ⟨u2, e2, hF⟩ := bdS hF
    refine xEndI (xRunV (As := []) (rest := []) hZ (c_X8_draw G t row kpt errs bitsOf sizeOf cels broken isFit breaks act wth facts pile trc images mfit known laid hre opnd bad usg trcd isP u1.2 u2 e2 l H.size) m762 m763 m764 m5 m765 0 ⟨rfl, hdX8_draw⟩ ⟨Nat.le_of_ble_eq_true rfl, Nat.le_of_ble_eq_true rfl⟩ ⟨rfl, rfl⟩ hP hD hS 0 8 rfl rfl rfl [0, 1] rfl rfl rfl hl.1 rfl (Nat.le_of_ble_eq_true rfl) dX8_drawn_24 ⟨Nat.zero_le _, Nat.zero_le _⟩) hP hD hS hA [0, 1] rfl rfl rfl (fun H locs n2 hP hD hS => ?_)
    have hP : va_P G.1 vwCl [(t, .inr (8, [.ref row, .ref kpt, .int images, .ref errs, .ref bitsOf, .ref sizeOf, .ref cels, .ref broken, .ref isFit, .ref breaks, .int mfit, .int known, .ref act, .ref wth, .ref facts, .ref pile, .int laid, .int hre, .int opnd, .int bad, .int usg, .ref trc, .int trcd, .int isP])), (row, .inl (xI G, 400, .inl u2.2)), (broken, .inl (xJ G, 729, .inr (.inl broken_f))), (isFit, .inl (xZ G, 729, .inl isFit_f)), (breaks, .inl (xI G, 64, .inl breaks_f)), (facts, .inl (xI G, 3, .inl facts_f)), (pile, .inl (xI G, 60, .inl pile_f))] H := hP
    have hD : va_D A [(t, .inr (8, [.ref row, .ref kpt, .int images, .ref errs, .ref bitsOf, .ref sizeOf, .ref cels, .ref broken, .ref isFit, .ref breaks, .int mfit, .int known, .ref act, .ref wth, .ref facts, .ref pile, .int laid, .int hre, .int opnd, .int bad, .int usg, .ref trc, .int trcd, .int isP])), (row, .inl (xI G, 400, .inl u2.2)), (broken, .inl (xJ G, 729, .inr (.inl broken_f))), (isFit, .inl (xZ G, 729, .inl isFit_f)), (breaks, .inl (xI G, 64, .inl breaks_f)), (facts, .inl (xI G, 3, .inl facts_f)), (pile, .inl (xI G, 60, .inl pile_f))] := hD
    refine lv_bipush (v := 64) hx hb dX8_drawn_27 (by decide) ?_
    refine lv_irem hx hb dX8_drawn_29 (by decide) ?_
    refine lv_istore_n (lv' := [(3, .int (u2.1 - u2.1 / (64 : Int32) * (64 : Int32))), (2, .int (u1.1 - u1.1 / (u1.2 (2 : Int32).toNatClampNeg) * (u1.2 (2 : Int32).toNatClampNeg))), (1, .int (0 : Int32)), (0, .ref t)]) hx hb dX8_drawn_30 rfl hl (by decide) rfl (fun ls hl => ?_)
    refine lv_aload_n hx hb dX8_drawn_31 rfl (lv_at hl 3 rfl) ?_
    obtain ⟨u3, e3, hF⟩ := bdS hF
    refine xEndI (xRunV (As := []) (rest := []) hZ (c_X8_draw G t row kpt errs bitsOf sizeOf cels broken isFit breaks act wth facts pile trc images mfit known laid hre opnd bad usg trcd isP u2.2 u3 e3 l H.size) m762 m763 m764 m5 m765 0 ⟨rfl, hdX8_draw⟩ ⟨Nat.le_of_ble_eq_true rfl, Nat.le_of_ble_eq_true rfl⟩ ⟨rfl, rfl⟩ hP hD hS 0 8 rfl rfl rfl [0, 1] rfl rfl rfl hl.1 rfl (Nat.le_of_ble_eq_true rfl) dX8_drawn_32 ⟨Nat.zero_le _, Nat.zero_le _⟩) hP hD hS hA [0, 1] rfl rfl rfl (fun H locs n3 hP hD hS => ?_)
    have hP : va_P G.1 vwCl [(t, .inr (8, [.ref row, .ref kpt, .int images, .ref errs, .ref bitsOf, .ref sizeOf, .ref cels, .ref broken, .ref isFit, .ref breaks, .int mfit, .int known, .ref act, .ref wth, .ref facts, .ref pile, .int laid, .int hre, .int opnd, .int bad, .int usg, .ref trc, .int trcd, .int isP])), (row, .inl (xI G, 400, .inl u3.2)), (broken, .inl (xJ G, 729, .inr (.inl broken_f))), (isFit, .inl (xZ G, 729, .inl isFit_f)), (breaks, .inl (xI G, 64, .inl breaks_f)), (facts, .inl (xI G, 3, .inl facts_f)), (pile, .inl (xI G, 60, .inl pile_f))] H := hP
    have hD : va_D A [(t, .inr (8, [.ref row, .ref kpt, .int images, .ref errs, .ref bitsOf, .ref sizeOf, .ref cels, .ref broken, .ref isFit, .ref breaks, .int mfit, .int known, .ref act, .ref wth, .ref facts, .ref pile, .int laid, .int hre, .int opnd, .int bad, .int usg, .ref trc, .int trcd, .int isP])), (row, .inl (xI G, 400, .inl u3.2)), (broken, .inl (xJ G, 729, .inr (.inl broken_f))), (isFit, .inl (xZ G, 729, .inl isFit_f)), (breaks, .inl (xI G, 64, .inl breaks_f)), (facts, .inl (xI G, 3, .inl facts_f)), (pile, .inl (xI G, 60, .inl pile_f))] := hD
    refine lv_bipush (v := 16) hx hb dX8_drawn_35 (by decide) ?_
    refine lv_irem hx hb dX8_drawn_37 (by decide) ?_
    refine lv_if_ne (tgt := 45) hx hb dX8_drawn_38 (by decide) (fun c38 => ?_) (fun c38 => ?_)
    · have hF := itN c38 hF
      refine lv_iconst (v := 0) hx hb dX8_drawn_45 (by decide) ?_
      refine lv_istore (lv' := [(4, .int (0 : Int32)), (3, .int (u2.1 - u2.1 / (64 : Int32) * (64 : Int32))), (2, .int (u1.1 - u1.1 / (u1.2 (2 : Int32).toNatClampNeg) * (u1.2 (2 : Int32).toNatClampNeg))), (1, .int (0 : Int32)), (0, .ref t)]) hx hb dX8_drawn_46 hl (by decide) rfl (fun ls hl => ?_)
      refine lv_aload_n hx hb dX8_drawn_48 rfl (lv_at hl 4 rfl) ?_
      refine lv_iload_n hx hb dX8_drawn_49 rfl (lv_at hl 2 rfl) ?_
      refine lv_iload_n hx hb dX8_drawn_50 rfl (lv_at hl 1 rfl) ?_
      obtain ⟨u4, e4, hF⟩ := bdS hF
      refine xEndI (xRunV (As := [.int (u1.1 - u1.1 / (u1.2 (2 : Int32).toNatClampNeg) * (u1.2 (2 : Int32).toNatClampNeg)), .int (u2.1 - u2.1 / (64 : Int32) * (64 : Int32))]) (rest := []) hZ (c_X8_doesAvoid G t row kpt errs bitsOf sizeOf cels broken isFit breaks act wth facts pile trc images mfit known laid hre opnd bad usg trcd isP u3.2 broken_f isFit_f breaks_f facts_f pile_f (u1.1 - u1.1 / (u1.2 (2 : Int32).toNatClampNeg) * (u1.2 (2 : Int32).toNatClampNeg)) (u2.1 - u2.1 / (64 : Int32) * (64 : Int32)) u4 e4 l H.size) m299 m300 m301 m5 m302 2 ⟨rfl, hdX8_doesAvoid⟩ ⟨Nat.le_of_ble_eq_true rfl, Nat.le_of_ble_eq_true rfl⟩ ⟨rfl, rfl⟩ hP hD hS 0 8 rfl rfl rfl [0, 1, 2, 3, 4, 5, 6] rfl rfl rfl hl.1 rfl (Nat.le_of_ble_eq_true rfl) dX8_drawn_51 ⟨Nat.zero_le _, Nat.zero_le _⟩) hP hD hS hA [0, 1, 2, 3, 4, 5, 6] rfl rfl rfl (fun H locs n4 hP hD hS => ?_)
      have hP : va_P G.1 vwCl [(t, .inr (8, [.ref row, .ref kpt, .int images, .ref errs, .ref bitsOf, .ref sizeOf, .ref cels, .ref broken, .ref isFit, .ref breaks, .int u4.2.1, .int u4.2.2.1, .ref act, .ref wth, .ref facts, .ref pile, .int laid, .int hre, .int opnd, .int bad, .int usg, .ref trc, .int trcd, .int isP])), (row, .inl (xI G, 400, .inl u3.2)), (broken, .inl (xJ G, 729, .inr (.inl broken_f))), (isFit, .inl (xZ G, 729, .inl u4.2.2.2.1)), (breaks, .inl (xI G, 64, .inl u4.2.2.2.2.1)), (facts, .inl (xI G, 3, .inl u4.2.2.2.2.2.1)), (pile, .inl (xI G, 60, .inl u4.2.2.2.2.2.2))] H := hP
      have hD : va_D A [(t, .inr (8, [.ref row, .ref kpt, .int images, .ref errs, .ref bitsOf, .ref sizeOf, .ref cels, .ref broken, .ref isFit, .ref breaks, .int u4.2.1, .int u4.2.2.1, .ref act, .ref wth, .ref facts, .ref pile, .int laid, .int hre, .int opnd, .int bad, .int usg, .ref trc, .int trcd, .int isP])), (row, .inl (xI G, 400, .inl u3.2)), (broken, .inl (xJ G, 729, .inr (.inl broken_f))), (isFit, .inl (xZ G, 729, .inl u4.2.2.2.1)), (breaks, .inl (xI G, 64, .inl u4.2.2.2.2.1)), (facts, .inl (xI G, 3, .inl u4.2.2.2.2.2.1)), (pile, .inl (xI G, 60, .inl u4.2.2.2.2.2.2))] := hD
      refine lv_if_eq (tgt := 61) hx hb dX8_drawn_54 (by decide) (fun c54 => ?_) (fun c54 => ?_)
      · have hF := itP c54 hF
        refine lv_aload_n hx hb dX8_drawn_61 rfl (lv_at hl 4 rfl) ?_
        refine lv_iload_n hx hb dX8_drawn_62 rfl (lv_at hl 2 rfl) ?_
        refine lv_iload_n hx hb dX8_drawn_63 rfl (lv_at hl 1 rfl) ?_
        refine lv_iload hx hb dX8_drawn_64 (lv_at hl 0 rfl) ?_
        obtain ⟨u5, e5, hF⟩ := bdS hF
        refine xEndI (xRunV (As := [.int (u1.1 - u1.1 / (u1.2 (2 : Int32).toNatClampNeg) * (u1.2 (2 : Int32).toNatClampNeg)), .int (u2.1 - u2.1 / (64 : Int32) * (64 : Int32)), .int (0 : Int32)]) (rest := []) hZ (c_X8_says G t row kpt errs bitsOf sizeOf cels broken isFit breaks act wth facts pile trc images u4.2.1 u4.2.2.1 laid hre opnd bad usg trcd isP u3.2 broken_f u4.2.2.2.2.2.1 u4.2.2.2.2.2.2 (u1.1 - u1.1 / (u1.2 (2 : Int32).toNatClampNeg) * (u1.2 (2 : Int32).toNatClampNeg)) (u2.1 - u2.1 / (64 : Int32) * (64 : Int32)) (0 : Int32) u5 e5 l H.size) m478 m479 m480 m5 m481 3 ⟨rfl, hdX8_says⟩ ⟨Nat.le_of_ble_eq_true rfl, Nat.le_of_ble_eq_true rfl⟩ ⟨rfl, rfl⟩ hP hD hS 0 8 rfl rfl rfl [0, 1, 2, 5, 6] rfl rfl rfl hl.1 rfl (Nat.le_of_ble_eq_true rfl) dX8_drawn_66 ⟨Nat.zero_le _, Nat.zero_le _⟩) hP hD hS hA [0, 1, 2, 5, 6] rfl rfl rfl (fun H locs n5 hP hD hS => ?_)
        have hP : va_P G.1 vwCl [(t, .inr (8, [.ref row, .ref kpt, .int images, .ref errs, .ref bitsOf, .ref sizeOf, .ref cels, .ref broken, .ref isFit, .ref breaks, .int u4.2.1, .int u5.2.1, .ref act, .ref wth, .ref facts, .ref pile, .int laid, .int hre, .int opnd, .int bad, .int usg, .ref trc, .int trcd, .int isP])), (row, .inl (xI G, 400, .inl u5.2.2.1)), (broken, .inl (xJ G, 729, .inr (.inl broken_f))), (isFit, .inl (xZ G, 729, .inl u4.2.2.2.1)), (breaks, .inl (xI G, 64, .inl u4.2.2.2.2.1)), (facts, .inl (xI G, 3, .inl u5.2.2.2.1)), (pile, .inl (xI G, 60, .inl u5.2.2.2.2))] H := hP
        have hD : va_D A [(t, .inr (8, [.ref row, .ref kpt, .int images, .ref errs, .ref bitsOf, .ref sizeOf, .ref cels, .ref broken, .ref isFit, .ref breaks, .int u4.2.1, .int u5.2.1, .ref act, .ref wth, .ref facts, .ref pile, .int laid, .int hre, .int opnd, .int bad, .int usg, .ref trc, .int trcd, .int isP])), (row, .inl (xI G, 400, .inl u5.2.2.1)), (broken, .inl (xJ G, 729, .inr (.inl broken_f))), (isFit, .inl (xZ G, 729, .inl u4.2.2.2.1)), (breaks, .inl (xI G, 64, .inl u4.2.2.2.2.1)), (facts, .inl (xI G, 3, .inl u5.2.2.2.1)), (pile, .inl (xI G, 60, .inl u5.2.2.2.2))] := hD
        refine lv_istore_n (lv' := [(1, .int u5.1), (4, .int (0 : Int32)), (3, .int (u2.1 - u2.1 / (64 : Int32) * (64 : Int32))), (2, .int (u1.1 - u1.1 / (u1.2 (2 : Int32).toNatClampNeg) * (u1.2 (2 : Int32).toNatClampNeg))), (0, .ref t)]) hx hb dX8_drawn_69 rfl hl (by decide) rfl (fun ls hl => ?_)
        refine lv_aload_n hx hb dX8_drawn_70 rfl (lv_at hl 4 rfl) ?_
        refine va_get (ci := 8) (v := .ref row) (C := RX8) (T := TX8) (N := 24) hx hb hts (fun w h => tcons w (xin8 w h)) hown hK hP 0 rfl rfl 0 (by decide) (hts _ (tcons _ m137)) (fun _ h9 => h9) rfl dX8_drawn_71 ?_
        refine lv_iconst (v := 0) hx hb dX8_drawn_74 (by decide) ?_
        refine lv_dup2_11 hx hb dX8_drawn_75 rfl rfl ?_
        refine va_iald hx hb hK hP 1 0 rfl rfl (by unfold vp_in; decide) dX8_drawn_76 ?_
        refine lv_iconst (v := 1) hx hb dX8_drawn_77 (by decide) ?_
        refine lv_iadd hx hb dX8_drawn_78 ?_
        refine va_iast hx hb hK hP hD hS 1 0 rfl rfl (by unfold vp_in; decide) dX8_drawn_79 (fun H locs hP hD hS => ?_)
        have hP : va_P G.1 vwCl [(t, .inr (8, [.ref row, .ref kpt, .int images, .ref errs, .ref bitsOf, .ref sizeOf, .ref cels, .ref broken, .ref isFit, .ref breaks, .int u4.2.1, .int u5.2.1, .ref act, .ref wth, .ref facts, .ref pile, .int laid, .int hre, .int opnd, .int bad, .int usg, .ref trc, .int trcd, .int isP])), (row, .inl (xI G, 400, .inl (upd u5.2.2.1 (0 : Int32).toNatClampNeg ((u5.2.2.1 (0 : Int32).toNatClampNeg) + (1 : Int32))))), (broken, .inl (xJ G, 729, .inr (.inl broken_f))), (isFit, .inl (xZ G, 729, .inl u4.2.2.2.1)), (breaks, .inl (xI G, 64, .inl u4.2.2.2.2.1)), (facts, .inl (xI G, 3, .inl u5.2.2.2.1)), (pile, .inl (xI G, 60, .inl u5.2.2.2.2))] H := hP
        have hD : va_D A [(t, .inr (8, [.ref row, .ref kpt, .int images, .ref errs, .ref bitsOf, .ref sizeOf, .ref cels, .ref broken, .ref isFit, .ref breaks, .int u4.2.1, .int u5.2.1, .ref act, .ref wth, .ref facts, .ref pile, .int laid, .int hre, .int opnd, .int bad, .int usg, .ref trc, .int trcd, .int isP])), (row, .inl (xI G, 400, .inl (upd u5.2.2.1 (0 : Int32).toNatClampNeg ((u5.2.2.1 (0 : Int32).toNatClampNeg) + (1 : Int32))))), (broken, .inl (xJ G, 729, .inr (.inl broken_f))), (isFit, .inl (xZ G, 729, .inl u4.2.2.2.1)), (breaks, .inl (xI G, 64, .inl u4.2.2.2.2.1)), (facts, .inl (xI G, 3, .inl u5.2.2.2.1)), (pile, .inl (xI G, 60, .inl u5.2.2.2.2))] := hD
        refine lv_iload_n hx hb dX8_drawn_80 rfl (lv_at hl 0 rfl) ?_
        obtain rfl := Option.some.inj hF
        rw [← hQ]
        exact W.iret (v := u5.1) hx hb hr (fun t ht hW => ⟨⟨_, (), rfl, ⟨rfl, rfl⟩, xLf hP ht⟩, hS.F ht⟩) hS.2.2 dX8_drawn_81
      · have hF := itN c54 hF
        refine lv_iconst (v := 0) hx hb dX8_drawn_57 (by decide) ?_
        refine lv_goto (tgt := 69) hx hb dX8_drawn_58 (by decide) ?_
        refine lv_istore_n (lv' := [(1, .int (0 : Int32)), (4, .int (0 : Int32)), (3, .int (u2.1 - u2.1 / (64 : Int32) * (64 : Int32))), (2, .int (u1.1 - u1.1 / (u1.2 (2 : Int32).toNatClampNeg) * (u1.2 (2 : Int32).toNatClampNeg))), (0, .ref t)]) hx hb dX8_drawn_69 rfl hl (by decide) rfl (fun ls hl => ?_)
        refine lv_aload_n hx hb dX8_drawn_70 rfl (lv_at hl 4 rfl) ?_
        refine va_get (ci := 8) (v := .ref row) (C := RX8) (T := TX8) (N := 24) hx hb hts (fun w h => tcons w (xin8 w h)) hown hK hP 0 rfl rfl 0 (by decide) (hts _ (tcons _ m137)) (fun _ h9 => h9) rfl dX8_drawn_71 ?_
        refine lv_iconst (v := 0) hx hb dX8_drawn_74 (by decide) ?_
        refine lv_dup2_11 hx hb dX8_drawn_75 rfl rfl ?_
        refine va_iald hx hb hK hP 1 0 rfl rfl (by unfold vp_in; decide) dX8_drawn_76 ?_
        refine lv_iconst (v := 1) hx hb dX8_drawn_77 (by decide) ?_
        refine lv_iadd hx hb dX8_drawn_78 ?_
        refine va_iast hx hb hK hP hD hS 1 0 rfl rfl (by unfold vp_in; decide) dX8_drawn_79 (fun H locs hP hD hS => ?_)
        have hP : va_P G.1 vwCl [(t, .inr (8, [.ref row, .ref kpt, .int images, .ref errs, .ref bitsOf, .ref sizeOf, .ref cels, .ref broken, .ref isFit, .ref breaks, .int u4.2.1, .int u4.2.2.1, .ref act, .ref wth, .ref facts, .ref pile, .int laid, .int hre, .int opnd, .int bad, .int usg, .ref trc, .int trcd, .int isP])), (row, .inl (xI G, 400, .inl (upd u3.2 (0 : Int32).toNatClampNeg ((u3.2 (0 : Int32).toNatClampNeg) + (1 : Int32))))), (broken, .inl (xJ G, 729, .inr (.inl broken_f))), (isFit, .inl (xZ G, 729, .inl u4.2.2.2.1)), (breaks, .inl (xI G, 64, .inl u4.2.2.2.2.1)), (facts, .inl (xI G, 3, .inl u4.2.2.2.2.2.1)), (pile, .inl (xI G, 60, .inl u4.2.2.2.2.2.2))] H := hP
        have hD : va_D A [(t, .inr (8, [.ref row, .ref kpt, .int images, .ref errs, .ref bitsOf, .ref sizeOf, .ref cels, .ref broken, .ref isFit, .ref breaks, .int u4.2.1, .int u4.2.2.1, .ref act, .ref wth, .ref facts, .ref pile, .int laid, .int hre, .int opnd, .int bad, .int usg, .ref trc, .int trcd, .int isP])), (row, .inl (xI G, 400, .inl (upd u3.2 (0 : Int32).toNatClampNeg ((u3.2 (0 : Int32).toNatClampNeg) + (1 : Int32))))), (broken, .inl (xJ G, 729, .inr (.inl broken_f))), (isFit, .inl (xZ G, 729, .inl u4.2.2.2.1)), (breaks, .inl (xI G, 64, .inl u4.2.2.2.2.1)), (facts, .inl (xI G, 3, .inl u4.2.2.2.2.2.1)), (pile, .inl (xI G, 60, .inl u4.2.2.2.2.2.2))] := hD
        refine lv_iload_n hx hb dX8_drawn_80 rfl (lv_at hl 0 rfl) ?_
        obtain rfl := Option.some.inj hF
        rw [← hQ]
        exact W.iret (v := (0 : Int32)) hx hb hr (fun t ht hW => ⟨⟨_, (), rfl, ⟨rfl, rfl⟩, xLf hP ht⟩, hS.F ht⟩) hS.2.2 dX8_drawn_81
    · have hF := itP c38 hF
      refine lv_iconst (v := 1) hx hb dX8_drawn_41 (by decide) ?_
      refine lv_goto (tgt := 46) hx hb dX8_drawn_42 (by decide) ?_
      refine lv_istore (lv' := [(4, .int (1 : Int32)), (3, .int (u2.1 - u2.1 / (64 : Int32) * (64 : Int32))), (2, .int (u1.1 - u1.1 / (u1.2 (2 : Int32).toNatClampNeg) * (u1.2 (2 : Int32).toNatClampNeg))), (1, .int (0 : Int32)), (0, .ref t)]) hx hb dX8_drawn_46 hl (by decide) rfl (fun ls hl => ?_)
      refine lv_aload_n hx hb dX8_drawn_48 rfl (lv_at hl 4 rfl) ?_
      refine lv_iload_n hx hb dX8_drawn_49 rfl (lv_at hl 2 rfl) ?_
      refine lv_iload_n hx hb dX8_drawn_50 rfl (lv_at hl 1 rfl) ?_
      obtain ⟨u4, e4, hF⟩ := bdS hF
      refine xEndI (xRunV (As := [.int (u1.1 - u1.1 / (u1.2 (2 : Int32).toNatClampNeg) * (u1.2 (2 : Int32).toNatClampNeg)), .int (u2.1 - u2.1 / (64 : Int32) * (64 : Int32))]) (rest := []) hZ (c_X8_doesAvoid G t row kpt errs bitsOf sizeOf cels broken isFit breaks act wth facts pile trc images mfit known laid hre opnd bad usg trcd isP u3.2 broken_f isFit_f breaks_f facts_f pile_f (u1.1 - u1.1 / (u1.2 (2 : Int32).toNatClampNeg) * (u1.2 (2 : Int32).toNatClampNeg)) (u2.1 - u2.1 / (64 : Int32) * (64 : Int32)) u4 e4 l H.size) m299 m300 m301 m5 m302 2 ⟨rfl, hdX8_doesAvoid⟩ ⟨Nat.le_of_ble_eq_true rfl, Nat.le_of_ble_eq_true rfl⟩ ⟨rfl, rfl⟩ hP hD hS 0 8 rfl rfl rfl [0, 1, 2, 3, 4, 5, 6] rfl rfl rfl hl.1 rfl (Nat.le_of_ble_eq_true rfl) dX8_drawn_51 ⟨Nat.zero_le _, Nat.zero_le _⟩) hP hD hS hA [0, 1, 2, 3, 4, 5, 6] rfl rfl rfl (fun H locs n4 hP hD hS => ?_)
      have hP : va_P G.1 vwCl [(t, .inr (8, [.ref row, .ref kpt, .int images, .ref errs, .ref bitsOf, .ref sizeOf, .ref cels, .ref broken, .ref isFit, .ref breaks, .int u4.2.1, .int u4.2.2.1, .ref act, .ref wth, .ref facts, .ref pile, .int laid, .int hre, .int opnd, .int bad, .int usg, .ref trc, .int trcd, .int isP])), (row, .inl (xI G, 400, .inl u3.2)), (broken, .inl (xJ G, 729, .inr (.inl broken_f))), (isFit, .inl (xZ G, 729, .inl u4.2.2.2.1)), (breaks, .inl (xI G, 64, .inl u4.2.2.2.2.1)), (facts, .inl (xI G, 3, .inl u4.2.2.2.2.2.1)), (pile, .inl (xI G, 60, .inl u4.2.2.2.2.2.2))] H := hP
      have hD : va_D A [(t, .inr (8, [.ref row, .ref kpt, .int images, .ref errs, .ref bitsOf, .ref sizeOf, .ref cels, .ref broken, .ref isFit, .ref breaks, .int u4.2.1, .int u4.2.2.1, .ref act, .ref wth, .ref facts, .ref pile, .int laid, .int hre, .int opnd, .int bad, .int usg, .ref trc, .int trcd, .int isP])), (row, .inl (xI G, 400, .inl u3.2)), (broken, .inl (xJ G, 729, .inr (.inl broken_f))), (isFit, .inl (xZ G, 729, .inl u4.2.2.2.1)), (breaks, .inl (xI G, 64, .inl u4.2.2.2.2.1)), (facts, .inl (xI G, 3, .inl u4.2.2.2.2.2.1)), (pile, .inl (xI G, 60, .inl u4.2.2.2.2.2.2))] := hD
      refine lv_if_eq (tgt := 61) hx hb dX8_drawn_54 (by decide) (fun c54 => ?_) (fun c54 => ?_)
      · have hF := itP c54 hF
        refine lv_aload_n hx hb dX8_drawn_61 rfl (lv_at hl 4 rfl) ?_
        refine lv_iload_n hx hb dX8_drawn_62 rfl (lv_at hl 2 rfl) ?_
        refine lv_iload_n hx hb dX8_drawn_63 rfl (lv_at hl 1 rfl) ?_
        refine lv_iload hx hb dX8_drawn_64 (lv_at hl 0 rfl) ?_
        obtain ⟨u5, e5, hF⟩ := bdS hF
        refine xEndI (xRunV (As := [.int (u1.1 - u1.1 / (u1.2 (2 : Int32).toNatClampNeg) * (u1.2 (2 : Int32).toNatClampNeg)), .int (u2.1 - u2.1 / (64 : Int32) * (64 : Int32)), .int (1 : Int32)]) (rest := []) hZ (c_X8_says G t row kpt errs bitsOf sizeOf cels broken isFit breaks act wth facts pile trc images u4.2.1 u4.2.2.1 laid hre opnd bad usg trcd isP u3.2 broken_f u4.2.2.2.2.2.1 u4.2.2.2.2.2.2 (u1.1 - u1.1 / (u1.2 (2 : Int32).toNatClampNeg) * (u1.2 (2 : Int32).toNatClampNeg)) (u2.1 - u2.1 / (64 : Int32) * (64 : Int32)) (1 : Int32) u5 e5 l H.size) m478 m479 m480 m5 m481 3 ⟨rfl, hdX8_says⟩ ⟨Nat.le_of_ble_eq_true rfl, Nat.le_of_ble_eq_true rfl⟩ ⟨rfl, rfl⟩ hP hD hS 0 8 rfl rfl rfl [0, 1, 2, 5, 6] rfl rfl rfl hl.1 rfl (Nat.le_of_ble_eq_true rfl) dX8_drawn_66 ⟨Nat.zero_le _, Nat.zero_le _⟩) hP hD hS hA [0, 1, 2, 5, 6] rfl rfl rfl (fun H locs n5 hP hD hS => ?_)
        have hP : va_P G.1 vwCl [(t, .inr (8, [.ref row, .ref kpt, .int images, .ref errs, .ref bitsOf, .ref sizeOf, .ref cels, .ref broken, .ref isFit, .ref breaks, .int u4.2.1, .int u5.2.1, .ref act, .ref wth, .ref facts, .ref pile, .int laid, .int hre, .int opnd, .int bad, .int usg, .ref trc, .int trcd, .int isP])), (row, .inl (xI G, 400, .inl u5.2.2.1)), (broken, .inl (xJ G, 729, .inr (.inl broken_f))), (isFit, .inl (xZ G, 729, .inl u4.2.2.2.1)), (breaks, .inl (xI G, 64, .inl u4.2.2.2.2.1)), (facts, .inl (xI G, 3, .inl u5.2.2.2.1)), (pile, .inl (xI G, 60, .inl u5.2.2.2.2))] H := hP
        have hD : va_D A [(t, .inr (8, [.ref row, .ref kpt, .int images, .ref errs, .ref bitsOf, .ref sizeOf, .ref cels, .ref broken, .ref isFit, .ref breaks, .int u4.2.1, .int u5.2.1, .ref act, .ref wth, .ref facts, .ref pile, .int laid, .int hre, .int opnd, .int bad, .int usg, .ref trc, .int trcd, .int isP])), (row, .inl (xI G, 400, .inl u5.2.2.1)), (broken, .inl (xJ G, 729, .inr (.inl broken_f))), (isFit, .inl (xZ G, 729, .inl u4.2.2.2.1)), (breaks, .inl (xI G, 64, .inl u4.2.2.2.2.1)), (facts, .inl (xI G, 3, .inl u5.2.2.2.1)), (pile, .inl (xI G, 60, .inl u5.2.2.2.2))] := hD
        refine lv_istore_n (lv' := [(1, .int u5.1), (4, .int (1 : Int32)), (3, .int (u2.1 - u2.1 / (64 : Int32) * (64 : Int32))), (2, .int (u1.1 - u1.1 / (u1.2 (2 : Int32).toNatClampNeg) * (u1.2 (2 : Int32).toNatClampNeg))), (0, .ref t)]) hx hb dX8_drawn_69 rfl hl (by decide) rfl (fun ls hl => ?_)
        refine lv_aload_n hx hb dX8_drawn_70 rfl (lv_at hl 4 rfl) ?_
        refine va_get (ci := 8) (v := .ref row) (C := RX8) (T := TX8) (N := 24) hx hb hts (fun w h => tcons w (xin8 w h)) hown hK hP 0 rfl rfl 0 (by decide) (hts _ (tcons _ m137)) (fun _ h9 => h9) rfl dX8_drawn_71 ?_
        refine lv_iconst (v := 0) hx hb dX8_drawn_74 (by decide) ?_
        refine lv_dup2_11 hx hb dX8_drawn_75 rfl rfl ?_
        refine va_iald hx hb hK hP 1 0 rfl rfl (by unfold vp_in; decide) dX8_drawn_76 ?_
        refine lv_iconst (v := 1) hx hb dX8_drawn_77 (by decide) ?_
        refine lv_iadd hx hb dX8_drawn_78 ?_
        refine va_iast hx hb hK hP hD hS 1 0 rfl rfl (by unfold vp_in; decide) dX8_drawn_79 (fun H locs hP hD hS => ?_)
        have hP : va_P G.1 vwCl [(t, .inr (8, [.ref row, .ref kpt, .int images, .ref errs, .ref bitsOf, .ref sizeOf, .ref cels, .ref broken, .ref isFit, .ref breaks, .int u4.2.1, .int u5.2.1, .ref act, .ref wth, .ref facts, .ref pile, .int laid, .int hre, .int opnd, .int bad, .int usg, .ref trc, .int trcd, .int isP])), (row, .inl (xI G, 400, .inl (upd u5.2.2.1 (0 : Int32).toNatClampNeg ((u5.2.2.1 (0 : Int32).toNatClampNeg) + (1 : Int32))))), (broken, .inl (xJ G, 729, .inr (.inl broken_f))), (isFit, .inl (xZ G, 729, .inl u4.2.2.2.1)), (breaks, .inl (xI G, 64, .inl u4.2.2.2.2.1)), (facts, .inl (xI G, 3, .inl u5.2.2.2.1)), (pile, .inl (xI G, 60, .inl u5.2.2.2.2))] H := hP
        have hD : va_D A [(t, .inr (8, [.ref row, .ref kpt, .int images, .ref errs, .ref bitsOf, .ref sizeOf, .ref cels, .ref broken, .ref isFit, .ref breaks, .int u4.2.1, .int u5.2.1, .ref act, .ref wth, .ref facts, .ref pile, .int laid, .int hre, .int opnd, .int bad, .int usg, .ref trc, .int trcd, .int isP])), (row, .inl (xI G, 400, .inl (upd u5.2.2.1 (0 : Int32).toNatClampNeg ((u5.2.2.1 (0 : Int32).toNatClampNeg) + (1 : Int32))))), (broken, .inl (xJ G, 729, .inr (.inl broken_f))), (isFit, .inl (xZ G, 729, .inl u4.2.2.2.1)), (breaks, .inl (xI G, 64, .inl u4.2.2.2.2.1)), (facts, .inl (xI G, 3, .inl u5.2.2.2.1)), (pile, .inl (xI G, 60, .inl u5.2.2.2.2))] := hD
        refine lv_iload_n hx hb dX8_drawn_80 rfl (lv_at hl 0 rfl) ?_
        obtain rfl := Option.some.inj hF
        rw [← hQ]
        exact W.iret (v := u5.1) hx hb hr (fun t ht hW => ⟨⟨_, (), rfl, ⟨rfl, rfl⟩, xLf hP ht⟩, hS.F ht⟩) hS.2.2 dX8_drawn_81
      · have hF := itN c54 hF
        refine lv_iconst (v := 0) hx hb dX8_drawn_57 (by decide) ?_
        refine lv_goto (tgt := 69) hx hb dX8_drawn_58 (by decide) ?_
        refine lv_istore_n (lv' := [(1, .int (0 : Int32)), (4, .int (1 : Int32)), (3, .int (u2.1 - u2.1 / (64 : Int32) * (64 : Int32))), (2, .int (u1.1 - u1.1 / (u1.2 (2 : Int32).toNatClampNeg) * (u1.2 (2 : Int32).toNatClampNeg))), (0, .ref t)]) hx hb dX8_drawn_69 rfl hl (by decide) rfl (fun ls hl => ?_)
        refine lv_aload_n hx hb dX8_drawn_70 rfl (lv_at hl 4 rfl) ?_
        refine va_get (ci := 8) (v := .ref row) (C := RX8) (T := TX8) (N := 24) hx hb hts (fun w h => tcons w (xin8 w h)) hown hK hP 0 rfl rfl 0 (by decide) (hts _ (tcons _ m137)) (fun _ h9 => h9) rfl dX8_drawn_71 ?_
        refine lv_iconst (v := 0) hx hb dX8_drawn_74 (by decide) ?_
        refine lv_dup2_11 hx hb dX8_drawn_75 rfl rfl ?_
        refine va_iald hx hb hK hP 1 0 rfl rfl (by unfold vp_in; decide) dX8_drawn_76 ?_
        refine lv_iconst (v := 1) hx hb dX8_drawn_77 (by decide) ?_
        refine lv_iadd hx hb dX8_drawn_78 ?_
        refine va_iast hx hb hK hP hD hS 1 0 rfl rfl (by unfold vp_in; decide) dX8_drawn_79 (fun H locs hP hD hS => ?_)
        have hP : va_P G.1 vwCl [(t, .inr (8, [.ref row, .ref kpt, .int images, .ref errs, .ref bitsOf, .ref sizeOf, .ref cels, .ref broken, .ref isFit, .ref breaks, .int u4.2.1, .int u4.2.2.1, .ref act, .ref wth, .ref facts, .ref pile, .int laid, .int hre, .int opnd, .int bad, .int usg, .ref trc, .int trcd, .int isP])), (row, .inl (xI G, 400, .inl (upd u3.2 (0 : Int32).toNatClampNeg ((u3.2 (0 : Int32).toNatClampNeg) + (1 : Int32))))), (broken, .inl (xJ G, 729, .inr (.inl broken_f))), (isFit, .inl (xZ G, 729, .inl u4.2.2.2.1)), (breaks, .inl (xI G, 64, .inl u4.2.2.2.2.1)), (facts, .inl (xI G, 3, .inl u4.2.2.2.2.2.1)), (pile, .inl (xI G, 60, .inl u4.2.2.2.2.2.2))] H := hP
        have hD : va_D A [(t, .inr (8, [.ref row, .ref kpt, .int images, .ref errs, .ref bitsOf, .ref sizeOf, .ref cels, .ref broken, .ref isFit, .ref breaks, .int u4.2.1, .int u4.2.2.1, .ref act, .ref wth, .ref facts, .ref pile, .int laid, .int hre, .int opnd, .int bad, .int usg, .ref trc, .int trcd, .int isP])), (row, .inl (xI G, 400, .inl (upd u3.2 (0 : Int32).toNatClampNeg ((u3.2 (0 : Int32).toNatClampNeg) + (1 : Int32))))), (broken, .inl (xJ G, 729, .inr (.inl broken_f))), (isFit, .inl (xZ G, 729, .inl u4.2.2.2.1)), (breaks, .inl (xI G, 64, .inl u4.2.2.2.2.1)), (facts, .inl (xI G, 3, .inl u4.2.2.2.2.2.1)), (pile, .inl (xI G, 60, .inl u4.2.2.2.2.2.2))] := hD
        refine lv_iload_n hx hb dX8_drawn_80 rfl (lv_at hl 0 rfl) ?_
        obtain rfl := Option.some.inj hF
        rw [← hQ]
        exact W.iret (v := (0 : Int32)) hx hb hr (fun t ht hW => ⟨⟨_, (), rfl, ⟨rfl, rfl⟩, xLf hP ht⟩, hS.F ht⟩) hS.2.2 dX8_drawn_81
def B_X8_figuresOf_6 (k6 : (Int32 × Int32 × Int32) → Option Int32) (v6 : (Int32 × Int32 × Int32)) : Option Int32 := if (6 : Int32) ≤ v6.2.2 then (some v6.1) else (if (v6.2.1 - v6.2.1 / (3 : Int32) * (3 : Int32)) = (2 : Int32) then (k6 ((v6.1 + (0 : Int32)), (v6.2.1 / (3 : Int32)), (v6.2.2 + (1 : Int32)))) else (k6 ((v6.1 + (1 : Int32)), (v6.2.1 / (3 : Int32)), (v6.2.2 + (1 : Int32)))))
def F_X8_figuresOf (vo : Int32) : Option Int32 := lp B_X8_figuresOf_6 fuelC ((0 : Int32), vo, (0 : Int32))
theorem hdX8_figuresOf : yX8_figuresOf.cls ≠ "java/lang/invoke/MethodHandle" ∧ yX8_figuresOf.cls ≠ "java/lang/invoke/VarHandle" ∧ (parseMethodDescriptor yX8_figuresOf.desc).map (fun d => d.parameters.length) = some 1 := by decide +kernel
set_option maxHeartbeats 4000000 in
set_option maxRecDepth 100000 in
theorem c_X8_figuresOf (G : xG) (vo : Int32)  (u : Int32) (hF : F_X8_figuresOf vo = some u) : Ki G .int yX8_figuresOf (Cond.code yX8_figuresOf cX8_figuresOf 4 (some .int) :: TBL) { frames := 0, cells := 0, slots := 0, locals := 0 } [.int vo] [] [] u := by
  intro l sz
  refine Met.ofW (cc := cX8_figuresOf) (maxL := 4) (ret := (some .int)) (by decide) rfl ?_
  intro p e s m args below meth c s₁ B hml hv
  obtain ⟨rfl, hsz, hP, hD0, hm⟩ := hv
  have hx := B.exec
  have hb := B.bytes
  have hr := B.returns
  have hts := atoms_spec (ws := Cond.code yX8_figuresOf cX8_figuresOf 4 (some .int) :: TBL) B.pre
  have hown : s.vm.findClass RX8 = some m.cls := findClass_of_methodNamed B.named
  have hlocks := B.notSynchronized
  subst hsz
  have hD := hD0.self (sz := s.heap.size)
  generalize hAe : va_A [] s.heap.size = A at hD hm ⊢
  have hA : ∀ q : Nat, s.heap.size ≤ q → A q := fun q h => by rw [← hAe]; exact Or.inr h
  have hK := hm.1
  have hZ : xAnd p m c cX8_figuresOf 4 s _ (Cond.code yX8_figuresOf cX8_figuresOf 4 (some .int) :: TBL) RX8 G A := ⟨⟨hx, hb, hml, hown, hts⟩, tcons, hA, hm⟩
  have hP : va_P G.1 vwCl [] s.heap := hP
  have hl := lv_entry ([.int vo]) (n := 4) (Nat.le_of_ble_eq_true rfl)
  rw [lg_entry_eq]
  generalize (lg_sl ([.int vo]) ++ List.replicate (4 - (lg_sl ([.int vo])).length) Slot.unset).toArray = ls at hl ⊢
  have hl : lv_has ls 4 [(0, .int vo)] := hl
  generalize hQ : MQ below _ _ s _ _ _ = Q
  refine xGo (A := A) hP (fun H locs hP hS => ?_)
  unfold F_X8_figuresOf at hF
  refine lv_iconst (v := 0) hx hb dX8_figuresOf_0 (by decide) ?_
  refine lv_istore_n (lv' := [(1, .int (0 : Int32)), (0, .int vo)]) hx hb dX8_figuresOf_1 rfl hl (by decide) rfl (fun ls hl => ?_)
  refine lv_iload_n hx hb dX8_figuresOf_2 rfl (lv_at hl 1 rfl) ?_
  refine lv_istore_n (lv' := [(2, .int vo), (1, .int (0 : Int32)), (0, .int vo)]) hx hb dX8_figuresOf_3 rfl hl (by decide) rfl (fun ls hl => ?_)
  refine lv_iconst (v := 0) hx hb dX8_figuresOf_4 (by decide) ?_
  refine lv_istore_n (lv' := [(3, .int (0 : Int32)), (2, .int vo), (1, .int (0 : Int32)), (0, .int vo)]) hx hb dX8_figuresOf_5 rfl hl (by decide) rfl (fun ls hl => ?_)
  refine xLoop3 (body := B_X8_figuresOf_6) (fun (v6_0 : Int32) (v6_1 : Int32) (v6_2 : Int32) H locs ls => va_P G.1 vwCl [] H ∧ va_D A [] ∧ va_S A s.heap H locs ∧ lv_has ls 4 [(0, .int vo), (1, .int v6_0), (2, .int v6_1), (3, .int v6_2)]) (fun N6 v6_0 v6_1 v6_2 ih6 H locs ls hI hF => ?_) fuelC (0 : Int32) vo (0 : Int32) H locs ls ⟨hP, hD, hS, lv_sub hl [3, 2, 1, 0] rfl⟩ hF
  obtain ⟨hP, hD, hS, hl⟩ := hI
  unfold B_X8_figuresOf_6 at hF
  refine lv_iload_n hx hb dX8_figuresOf_6 rfl (lv_at hl 3 rfl) ?_
  refine lv_bipush (v := 6) hx hb dX8_figuresOf_7 (by decide) ?_
  refine lv_icmp_ge (tgt := 37) hx hb dX8_figuresOf_9 (by decide) (fun c9 => ?_) (fun c9 => ?_)
  · have hF := itP c9 hF
    refine lv_iload_n hx hb dX8_figuresOf_37 rfl (lv_at hl 1 rfl) ?_
    obtain rfl := Option.some.inj hF
    rw [← hQ]
    exact W.iret (v := v6_0) hx hb hr (fun t ht hW => ⟨⟨_, (), rfl, ⟨rfl, rfl⟩, xLf hP ht⟩, hS.F ht⟩) hS.2.2 dX8_figuresOf_38
  · have hF := itN c9 hF
    refine lv_iload_n hx hb dX8_figuresOf_12 rfl (lv_at hl 1 rfl) ?_
    refine lv_iload_n hx hb dX8_figuresOf_13 rfl (lv_at hl 2 rfl) ?_
    refine lv_iconst (v := 3) hx hb dX8_figuresOf_14 (by decide) ?_
    refine lv_irem hx hb dX8_figuresOf_15 (by decide) ?_
    refine lv_iconst (v := 2) hx hb dX8_figuresOf_16 (by decide) ?_
    refine lv_icmp_ne (tgt := 24) hx hb dX8_figuresOf_17 (by decide) (fun c17 => ?_) (fun c17 => ?_)
    · have hF := itN c17 hF
      refine lv_iconst (v := 1) hx hb dX8_figuresOf_24 (by decide) ?_
      refine lv_iadd hx hb dX8_figuresOf_25 ?_
      refine lv_istore_n (lv' := [(1, .int (v6_0 + (1 : Int32))), (0, .int vo), (2, .int v6_1), (3, .int v6_2)]) hx hb dX8_figuresOf_26 rfl hl (by decide) rfl (fun ls hl => ?_)
      refine lv_iload_n hx hb dX8_figuresOf_27 rfl (lv_at hl 2 rfl) ?_
      refine lv_iconst (v := 3) hx hb dX8_figuresOf_28 (by decide) ?_
      refine lv_idiv hx hb dX8_figuresOf_29 (by decide) ?_
      refine lv_istore_n (lv' := [(2, .int (v6_1 / (3 : Int32))), (1, .int (v6_0 + (1 : Int32))), (0, .int vo), (3, .int v6_2)]) hx hb dX8_figuresOf_30 rfl hl (by decide) rfl (fun ls hl => ?_)
      refine lv_iinc (v := (v6_2 + (1 : Int32))) (lv' := [(3, .int (v6_2 + (1 : Int32))), (2, .int (v6_1 / (3 : Int32))), (1, .int (v6_0 + (1 : Int32))), (0, .int vo)]) hx hb dX8_figuresOf_31 hl (k := 3) rfl (xInc_1 _) (by decide) rfl (fun ls hl => ?_)
      refine lv_goto (tgt := 6) hx hb dX8_figuresOf_34 (by decide) ?_
      exact ih6 (v6_0 + (1 : Int32)) (v6_1 / (3 : Int32)) (v6_2 + (1 : Int32)) H locs ls ⟨hP, hD, hS, lv_sub hl [3, 2, 1, 0] rfl⟩ hF
    · have hF := itP c17 hF
      refine lv_iconst (v := 0) hx hb dX8_figuresOf_20 (by decide) ?_
      refine lv_goto (tgt := 25) hx hb dX8_figuresOf_21 (by decide) ?_
      refine lv_iadd hx hb dX8_figuresOf_25 ?_
      refine lv_istore_n (lv' := [(1, .int (v6_0 + (0 : Int32))), (0, .int vo), (2, .int v6_1), (3, .int v6_2)]) hx hb dX8_figuresOf_26 rfl hl (by decide) rfl (fun ls hl => ?_)
      refine lv_iload_n hx hb dX8_figuresOf_27 rfl (lv_at hl 2 rfl) ?_
      refine lv_iconst (v := 3) hx hb dX8_figuresOf_28 (by decide) ?_
      refine lv_idiv hx hb dX8_figuresOf_29 (by decide) ?_
      refine lv_istore_n (lv' := [(2, .int (v6_1 / (3 : Int32))), (1, .int (v6_0 + (0 : Int32))), (0, .int vo), (3, .int v6_2)]) hx hb dX8_figuresOf_30 rfl hl (by decide) rfl (fun ls hl => ?_)
      refine lv_iinc (v := (v6_2 + (1 : Int32))) (lv' := [(3, .int (v6_2 + (1 : Int32))), (2, .int (v6_1 / (3 : Int32))), (1, .int (v6_0 + (0 : Int32))), (0, .int vo)]) hx hb dX8_figuresOf_31 hl (k := 3) rfl (xInc_1 _) (by decide) rfl (fun ls hl => ?_)
      refine lv_goto (tgt := 6) hx hb dX8_figuresOf_34 (by decide) ?_
      exact ih6 (v6_0 + (0 : Int32)) (v6_1 / (3 : Int32)) (v6_2 + (1 : Int32)) H locs ls ⟨hP, hD, hS, lv_sub hl [3, 2, 1, 0] rfl⟩ hF
def F_X8_lesserOf (mfit : Int32) (breaks_f : Nat → Int32) (sy : Int32) : Option Int32 := if (sy < 0 ∨ 64 ≤ sy.toNatClampNeg) then none else (if (sy < 0 ∨ 64 ≤ sy.toNatClampNeg) then none else (if (mfit - (breaks_f sy.toNatClampNeg)) ≤ (breaks_f sy.toNatClampNeg) then (if (sy < 0 ∨ 64 ≤ sy.toNatClampNeg) then none else (some (mfit - (breaks_f sy.toNatClampNeg)))) else (if (sy < 0 ∨ 64 ≤ sy.toNatClampNeg) then none else (some (breaks_f sy.toNatClampNeg)))))
theorem hdX8_lesserOf : yX8_lesserOf.cls ≠ "java/lang/invoke/MethodHandle" ∧ yX8_lesserOf.cls ≠ "java/lang/invoke/VarHandle" ∧ (parseMethodDescriptor yX8_lesserOf.desc).map (fun d => d.parameters.length) = some 1 := by decide +kernel
set_option maxHeartbeats 4000000 in
set_option maxRecDepth 100000 in
theorem c_X8_lesserOf (G : xG) (t : Nat) (row : Nat) (kpt : Nat) (errs : Nat) (bitsOf : Nat) (sizeOf : Nat) (cels : Nat) (broken : Nat) (isFit : Nat) (breaks : Nat) (act : Nat) (wth : Nat) (facts : Nat) (pile : Nat) (trc : Nat) (images : Int32) (mfit : Int32) (known : Int32) (laid : Int32) (hre : Int32) (opnd : Int32) (bad : Int32) (usg : Int32) (trcd : Int32) (isP : Int32) (breaks_f : Nat → Int32) (sy : Int32)  (u : Int32) (hF : F_X8_lesserOf mfit breaks_f sy = some u) : Ki G .int yX8_lesserOf (Cond.code yX8_lesserOf cX8_lesserOf 2 (some .int) :: TBL) { frames := 0, cells := 0, slots := 0, locals := 0 } [.ref t, .int sy] [(t, .inr (8, [.ref row, .ref kpt, .int images, .ref errs, .ref bitsOf, .ref sizeOf, .ref cels, .ref broken, .ref isFit, .ref breaks, .int mfit, .int known, .ref act, .ref wth, .ref facts, .ref pile, .int laid, .int hre, .int opnd, .int bad, .int usg, .ref trc, .int trcd, .int isP])), (breaks, .inl (xI G, 64, .inl breaks_f))] [(t, .inr (8, [.ref row, .ref kpt, .int images, .ref errs, .ref bitsOf, .ref sizeOf, .ref cels, .ref broken, .ref isFit, .ref breaks, .int mfit, .int known, .ref act, .ref wth, .ref facts, .ref pile, .int laid, .int hre, .int opnd, .int bad, .int usg, .ref trc, .int trcd, .int isP])), (breaks, .inl (xI G, 64, .inl breaks_f))] u := by
  intro l sz
  refine Met.ofW (cc := cX8_lesserOf) (maxL := 2) (ret := (some .int)) (by decide) rfl ?_
  intro p e s m args below meth c s₁ B hml hv
  obtain ⟨rfl, hsz, hP, hD0, hm⟩ := hv
  have hx := B.exec
  have hb := B.bytes
  have hr := B.returns
  have hts := atoms_spec (ws := Cond.code yX8_lesserOf cX8_lesserOf 2 (some .int) :: TBL) B.pre
  have hown : s.vm.findClass RX8 = some m.cls := findClass_of_methodNamed B.named
  have hlocks := B.notSynchronized
  subst hsz
  have hD := hD0.self (sz := s.heap.size)
  generalize hAe : va_A [(t, .inr (8, [.ref row, .ref kpt, .int images, .ref errs, .ref bitsOf, .ref sizeOf, .ref cels, .ref broken, .ref isFit, .ref breaks, .int mfit, .int known, .ref act, .ref wth, .ref facts, .ref pile, .int laid, .int hre, .int opnd, .int bad, .int usg, .ref trc, .int trcd, .int isP])), (breaks, .inl (xI G, 64, .inl breaks_f))] s.heap.size = A at hD hm ⊢
  have hA : ∀ q : Nat, s.heap.size ≤ q → A q := fun q h => by rw [← hAe]; exact Or.inr h
  have hK := hm.1
  have hZ : xAnd p m c cX8_lesserOf 2 s _ (Cond.code yX8_lesserOf cX8_lesserOf 2 (some .int) :: TBL) RX8 G A := ⟨⟨hx, hb, hml, hown, hts⟩, tcons, hA, hm⟩
  have hP : va_P G.1 vwCl [(t, .inr (8, [.ref row, .ref kpt, .int images, .ref errs, .ref bitsOf, .ref sizeOf, .ref cels, .ref broken, .ref isFit, .ref breaks, .int mfit, .int known, .ref act, .ref wth, .ref facts, .ref pile, .int laid, .int hre, .int opnd, .int bad, .int usg, .ref trc, .int trcd, .int isP])), (breaks, .inl (xI G, 64, .inl breaks_f))] s.heap := hP
  have hl := lv_entry ([.ref t, .int sy]) (n := 2) (Nat.le_of_ble_eq_true rfl)
  rw [lg_entry_eq]
  generalize (lg_sl ([.ref t, .int sy]) ++ List.replicate (2 - (lg_sl ([.ref t, .int sy])).length) Slot.unset).toArray = ls at hl ⊢
  have hl : lv_has ls 2 [(0, .ref t), (1, .int sy)] := hl
  generalize hQ : MQ below _ _ s _ _ _ = Q
  refine xGo (A := A) hP (fun H locs hP hS => ?_)
  unfold F_X8_lesserOf at hF
  refine lv_aload_n hx hb dX8_lesserOf_0 rfl (lv_at hl 0 rfl) ?_
  refine va_get (ci := 8) (v := .ref breaks) (C := RX8) (T := TX8) (N := 24) hx hb hts (fun w h => tcons w (xin8 w h)) hown hK hP 0 rfl rfl 9 (by decide) (hts _ (tcons _ m145)) (fun _ h9 => h9) rfl dX8_lesserOf_1 ?_
  refine lv_iload_n hx hb dX8_lesserOf_4 rfl (lv_at hl 1 rfl) ?_
  obtain ⟨g5, hF⟩ := gdS hF
  refine va_iald hx hb hK hP 1 0 rfl rfl g5 dX8_lesserOf_5 ?_
  refine lv_aload_n hx hb dX8_lesserOf_6 rfl (lv_at hl 0 rfl) ?_
  refine va_get (ci := 8) (v := .int mfit) (C := RX8) (T := TX8) (N := 24) hx hb hts (fun w h => tcons w (xin8 w h)) hown hK hP 0 rfl rfl 10 (by decide) (hts _ (tcons _ m303)) (fun _ h9 => h9) rfl dX8_lesserOf_7 ?_
  refine lv_aload_n hx hb dX8_lesserOf_10 rfl (lv_at hl 0 rfl) ?_
  refine va_get (ci := 8) (v := .ref breaks) (C := RX8) (T := TX8) (N := 24) hx hb hts (fun w h => tcons w (xin8 w h)) hown hK hP 0 rfl rfl 9 (by decide) (hts _ (tcons _ m145)) (fun _ h9 => h9) rfl dX8_lesserOf_11 ?_
  refine lv_iload_n hx hb dX8_lesserOf_14 rfl (lv_at hl 1 rfl) ?_
  obtain ⟨g15, hF⟩ := gdS hF
  refine va_iald hx hb hK hP 1 0 rfl rfl g15 dX8_lesserOf_15 ?_
  refine lv_isub hx hb dX8_lesserOf_16 ?_
  refine lv_icmp_ge (tgt := 29) hx hb dX8_lesserOf_17 (by decide) (fun c17 => ?_) (fun c17 => ?_)
  · have hF := itP c17 hF
    refine lv_aload_n hx hb dX8_lesserOf_29 rfl (lv_at hl 0 rfl) ?_
    refine va_get (ci := 8) (v := .int mfit) (C := RX8) (T := TX8) (N := 24) hx hb hts (fun w h => tcons w (xin8 w h)) hown hK hP 0 rfl rfl 10 (by decide) (hts _ (tcons _ m303)) (fun _ h9 => h9) rfl dX8_lesserOf_30 ?_
    refine lv_aload_n hx hb dX8_lesserOf_33 rfl (lv_at hl 0 rfl) ?_
    refine va_get (ci := 8) (v := .ref breaks) (C := RX8) (T := TX8) (N := 24) hx hb hts (fun w h => tcons w (xin8 w h)) hown hK hP 0 rfl rfl 9 (by decide) (hts _ (tcons _ m145)) (fun _ h9 => h9) rfl dX8_lesserOf_34 ?_
    refine lv_iload_n hx hb dX8_lesserOf_37 rfl (lv_at hl 1 rfl) ?_
    obtain ⟨g38, hF⟩ := gdS hF
    refine va_iald hx hb hK hP 1 0 rfl rfl g38 dX8_lesserOf_38 ?_
    refine lv_isub hx hb dX8_lesserOf_39 ?_
    obtain rfl := Option.some.inj hF
    rw [← hQ]
    exact W.iret (v := (mfit - (breaks_f sy.toNatClampNeg))) hx hb hr (fun t ht hW => ⟨⟨_, (), rfl, ⟨rfl, rfl⟩, xLf hP ht⟩, hS.F ht⟩) hS.2.2 dX8_lesserOf_40
  · have hF := itN c17 hF
    refine lv_aload_n hx hb dX8_lesserOf_20 rfl (lv_at hl 0 rfl) ?_
    refine va_get (ci := 8) (v := .ref breaks) (C := RX8) (T := TX8) (N := 24) hx hb hts (fun w h => tcons w (xin8 w h)) hown hK hP 0 rfl rfl 9 (by decide) (hts _ (tcons _ m145)) (fun _ h9 => h9) rfl dX8_lesserOf_21 ?_
    refine lv_iload_n hx hb dX8_lesserOf_24 rfl (lv_at hl 1 rfl) ?_
    obtain ⟨g25, hF⟩ := gdS hF
    refine va_iald hx hb hK hP 1 0 rfl rfl g25 dX8_lesserOf_25 ?_
    refine lv_goto (tgt := 40) hx hb dX8_lesserOf_26 (by decide) ?_
    obtain rfl := Option.some.inj hF
    rw [← hQ]
    exact W.iret (v := (breaks_f sy.toNatClampNeg)) hx hb hr (fun t ht hW => ⟨⟨_, (), rfl, ⟨rfl, rfl⟩, xLf hP ht⟩, hS.F ht⟩) hS.2.2 dX8_lesserOf_40
def B_X8_freedomOf_4 (row_f : Nat → Int32) (broken_f : Nat → Int64) (br : Int32) (k4 : (Int32 × Int32 × Int32 × Int32 × (Nat → Int32) × (Nat → Int32) × (Nat → Int32) × (Nat → Int32)) → Option (Int32 × Int32 × Int32 × (Nat → Int32) × (Nat → Int32) × (Nat → Int32) × (Nat → Int32))) (v4 : (Int32 × Int32 × Int32 × Int32 × (Nat → Int32) × (Nat → Int32) × (Nat → Int32) × (Nat → Int32))) : Option (Int32 × Int32 × Int32 × (Nat → Int32) × (Nat → Int32) × (Nat → Int32) × (Nat → Int32)) := if (64 : Int32) ≤ v4.2.1 then (some (v4.1, v4.2.2.1, v4.2.2.2.1, v4.2.2.2.2.1, v4.2.2.2.2.2.1, v4.2.2.2.2.2.2.1, v4.2.2.2.2.2.2.2)) else (bd (F_X8_breaksBy v4.2.2.1 v4.2.2.2.1 row_f broken_f v4.2.2.2.2.1 v4.2.2.2.2.2.1 v4.2.1) (fun (u1 : (Int32 × Int32 × Int32 × (Nat → Int32) × (Nat → Int32))) => if u1.1 = 0 then (bd (F_X8_doesAvoid u1.2.1 u1.2.2.1 row_f broken_f u1.2.2.2.1 u1.2.2.2.2 v4.2.2.2.2.2.2.1 v4.2.2.2.2.2.2.2 br v4.2.1) (fun (u2 : (Int32 × Int32 × Int32 × (Nat → Int32) × (Nat → Int32) × (Nat → Int32) × (Nat → Int32))) => if u2.1 = 0 then (bd (F_X8_talkOf row_f u2.2.2.2.2.2.1 u2.2.2.2.2.2.2 br v4.2.1) (fun (u3 : (Int32 × (Nat → Int32) × (Nat → Int32))) => k4 ((v4.1 + u3.1), (v4.2.1 + (1 : Int32)), u2.2.1, u2.2.2.1, u2.2.2.2.1, u2.2.2.2.2.1, u3.2.1, u3.2.2))) else (k4 ((v4.1 + (0 : Int32)), (v4.2.1 + (1 : Int32)), u2.2.1, u2.2.2.1, u2.2.2.2.1, u2.2.2.2.2.1, u2.2.2.2.2.2.1, u2.2.2.2.2.2.2)))) else (k4 ((v4.1 + (0 : Int32)), (v4.2.1 + (1 : Int32)), u1.2.1, u1.2.2.1, u1.2.2.2.1, u1.2.2.2.2, v4.2.2.2.2.2.2.1, v4.2.2.2.2.2.2.2))))
def F_X8_freedomOf (mfit : Int32) (known : Int32) (row_f : Nat → Int32) (broken_f : Nat → Int64) (isFit_f : Nat → Int32) (breaks_f : Nat → Int32) (facts_f : Nat → Int32) (pile_f : Nat → Int32) (br : Int32) : Option (Int32 × Int32 × Int32 × (Nat → Int32) × (Nat → Int32) × (Nat → Int32) × (Nat → Int32)) := lp (B_X8_freedomOf_4 row_f broken_f br) fuelC ((0 : Int32), (0 : Int32), mfit, known, isFit_f, breaks_f, facts_f, pile_f)
theorem hdX8_freedomOf : yX8_freedomOf.cls ≠ "java/lang/invoke/MethodHandle" ∧ yX8_freedomOf.cls ≠ "java/lang/invoke/VarHandle" ∧ (parseMethodDescriptor yX8_freedomOf.desc).map (fun d => d.parameters.length) = some 1 := by decide +kernel
set_option maxHeartbeats 4000000 in
set_option maxRecDepth 100000 in
theorem c_X8_freedomOf (G : xG) (t : Nat) (row : Nat) (kpt : Nat) (errs : Nat) (bitsOf : Nat) (sizeOf : Nat) (cels : Nat) (broken : Nat) (isFit : Nat) (breaks : Nat) (act : Nat) (wth : Nat) (facts : Nat) (pile : Nat) (trc : Nat) (images : Int32) (mfit : Int32) (known : Int32) (laid : Int32) (hre : Int32) (opnd : Int32) (bad : Int32) (usg : Int32) (trcd : Int32) (isP : Int32) (row_f : Nat → Int32) (broken_f : Nat → Int64) (isFit_f : Nat → Int32) (breaks_f : Nat → Int32) (facts_f : Nat → Int32) (pile_f : Nat → Int32) (br : Int32)  (u : (Int32 × Int32 × Int32 × (Nat → Int32) × (Nat → Int32) × (Nat → Int32) × (Nat → Int32))) (hF : F_X8_freedomOf mfit known row_f broken_f isFit_f breaks_f facts_f pile_f br = some u) : Ki G .int yX8_freedomOf (Cond.code yX8_freedomOf cX8_freedomOf 4 (some .int) :: TBL) { frames := 6, cells := 0, slots := 0, locals := 137 } [.ref t, .int br] [(t, .inr (8, [.ref row, .ref kpt, .int images, .ref errs, .ref bitsOf, .ref sizeOf, .ref cels, .ref broken, .ref isFit, .ref breaks, .int mfit, .int known, .ref act, .ref wth, .ref facts, .ref pile, .int laid, .int hre, .int opnd, .int bad, .int usg, .ref trc, .int trcd, .int isP])), (row, .inl (xI G, 400, .inl row_f)), (broken, .inl (xJ G, 729, .inr (.inl broken_f))), (isFit, .inl (xZ G, 729, .inl isFit_f)), (breaks, .inl (xI G, 64, .inl breaks_f)), (facts, .inl (xI G, 3, .inl facts_f)), (pile, .inl (xI G, 60, .inl pile_f))] [(t, .inr (8, [.ref row, .ref kpt, .int images, .ref errs, .ref bitsOf, .ref sizeOf, .ref cels, .ref broken, .ref isFit, .ref breaks, .int u.2.1, .int u.2.2.1, .ref act, .ref wth, .ref facts, .ref pile, .int laid, .int hre, .int opnd, .int bad, .int usg, .ref trc, .int trcd, .int isP])), (row, .inl (xI G, 400, .inl row_f)), (broken, .inl (xJ G, 729, .inr (.inl broken_f))), (isFit, .inl (xZ G, 729, .inl u.2.2.2.1)), (breaks, .inl (xI G, 64, .inl u.2.2.2.2.1)), (facts, .inl (xI G, 3, .inl u.2.2.2.2.2.1)), (pile, .inl (xI G, 60, .inl u.2.2.2.2.2.2))] u.1 := by
  intro l sz
  refine Met.ofW (cc := cX8_freedomOf) (maxL := 4) (ret := (some .int)) (by decide) rfl ?_
  intro p e s m args below meth c s₁ B hml hv
  obtain ⟨rfl, hsz, hP, hD0, hm⟩ := hv
  have hx := B.exec
  have hb := B.bytes
  have hr := B.returns
  have hts := atoms_spec (ws := Cond.code yX8_freedomOf cX8_freedomOf 4 (some .int) :: TBL) B.pre
  have hown : s.vm.findClass RX8 = some m.cls := findClass_of_methodNamed B.named
  have hlocks := B.notSynchronized
  subst hsz
  have hD := hD0.self (sz := s.heap.size)
  generalize hAe : va_A [(t, .inr (8, [.ref row, .ref kpt, .int images, .ref errs, .ref bitsOf, .ref sizeOf, .ref cels, .ref broken, .ref isFit, .ref breaks, .int mfit, .int known, .ref act, .ref wth, .ref facts, .ref pile, .int laid, .int hre, .int opnd, .int bad, .int usg, .ref trc, .int trcd, .int isP])), (row, .inl (xI G, 400, .inl row_f)), (broken, .inl (xJ G, 729, .inr (.inl broken_f))), (isFit, .inl (xZ G, 729, .inl isFit_f)), (breaks, .inl (xI G, 64, .inl breaks_f)), (facts, .inl (xI G, 3, .inl facts_f)), (pile, .inl (xI G, 60, .inl pile_f))] s.heap.size = A at hD hm ⊢
  have hA : ∀ q : Nat, s.heap.size ≤ q → A q := fun q h => by rw [← hAe]; exact Or.inr h
  have hK := hm.1
  have hZ : xAnd p m c cX8_freedomOf 4 s _ (Cond.code yX8_freedomOf cX8_freedomOf 4 (some .int) :: TBL) RX8 G A := ⟨⟨hx, hb, hml, hown, hts⟩, tcons, hA, hm⟩
  have hP : va_P G.1 vwCl [(t, .inr (8, [.ref row, .ref kpt, .int images, .ref errs, .ref bitsOf, .ref sizeOf, .ref cels, .ref broken, .ref isFit, .ref breaks, .int mfit, .int known, .ref act, .ref wth, .ref facts, .ref pile, .int laid, .int hre, .int opnd, .int bad, .int usg, .ref trc, .int trcd, .int isP])), (row, .inl (xI G, 400, .inl row_f)), (broken, .inl (xJ G, 729, .inr (.inl broken_f))), (isFit, .inl (xZ G, 729, .inl isFit_f)), (breaks, .inl (xI G, 64, .inl breaks_f)), (facts, .inl (xI G, 3, .inl facts_f)), (pile, .inl (xI G, 60, .inl pile_f))] s.heap := hP
  have hl := lv_entry ([.ref t, .int br]) (n := 4) (Nat.le_of_ble_eq_true rfl)
  rw [lg_entry_eq]
  generalize (lg_sl ([.ref t, .int br]) ++ List.replicate (4 - (lg_sl ([.ref t, .int br])).length) Slot.unset).toArray = ls at hl ⊢
  have hl : lv_has ls 4 [(0, .ref t), (1, .int br)] := hl
  generalize hQ : MQ below _ _ s _ _ _ = Q
  refine xGo (A := A) hP (fun H locs hP hS => ?_)
  unfold F_X8_freedomOf at hF
  refine lv_iconst (v := 0) hx hb dX8_freedomOf_0 (by decide) ?_
  refine lv_istore_n (lv' := [(2, .int (0 : Int32)), (0, .ref t), (1, .int br)]) hx hb dX8_freedomOf_1 rfl hl (by decide) rfl (fun ls hl => ?_)
  refine lv_iconst (v := 0) hx hb dX8_freedomOf_2 (by decide) ?_
  refine lv_istore_n (lv' := [(3, .int (0 : Int32)), (2, .int (0 : Int32)), (0, .ref t), (1, .int br)]) hx hb dX8_freedomOf_3 rfl hl (by decide) rfl (fun ls hl => ?_)
  refine xLoop8 (body := (B_X8_freedomOf_4 row_f broken_f br)) (fun (v4_0 : Int32) (v4_1 : Int32) (v4_2 : Int32) (v4_3 : Int32) (v4_4 : Nat → Int32) (v4_5 : Nat → Int32) (v4_6 : Nat → Int32) (v4_7 : Nat → Int32) H locs ls => va_P G.1 vwCl [(t, .inr (8, [.ref row, .ref kpt, .int images, .ref errs, .ref bitsOf, .ref sizeOf, .ref cels, .ref broken, .ref isFit, .ref breaks, .int v4_2, .int v4_3, .ref act, .ref wth, .ref facts, .ref pile, .int laid, .int hre, .int opnd, .int bad, .int usg, .ref trc, .int trcd, .int isP])), (row, .inl (xI G, 400, .inl row_f)), (broken, .inl (xJ G, 729, .inr (.inl broken_f))), (isFit, .inl (xZ G, 729, .inl v4_4)), (breaks, .inl (xI G, 64, .inl v4_5)), (facts, .inl (xI G, 3, .inl v4_6)), (pile, .inl (xI G, 60, .inl v4_7))] H ∧ va_D A [(t, .inr (8, [.ref row, .ref kpt, .int images, .ref errs, .ref bitsOf, .ref sizeOf, .ref cels, .ref broken, .ref isFit, .ref breaks, .int v4_2, .int v4_3, .ref act, .ref wth, .ref facts, .ref pile, .int laid, .int hre, .int opnd, .int bad, .int usg, .ref trc, .int trcd, .int isP])), (row, .inl (xI G, 400, .inl row_f)), (broken, .inl (xJ G, 729, .inr (.inl broken_f))), (isFit, .inl (xZ G, 729, .inl v4_4)), (breaks, .inl (xI G, 64, .inl v4_5)), (facts, .inl (xI G, 3, .inl v4_6)), (pile, .inl (xI G, 60, .inl v4_7))] ∧ va_S A s.heap H locs ∧ lv_has ls 4 [(0, .ref t), (1, .int br), (2, .int v4_0), (3, .int v4_1)]) (fun N4 v4_0 v4_1 v4_2 v4_3 v4_4 v4_5 v4_6 v4_7 ih4 H locs ls hI hF => ?_) fuelC (0 : Int32) (0 : Int32) mfit known isFit_f breaks_f facts_f pile_f H locs ls ⟨hP, hD, hS, lv_sub hl [2, 3, 1, 0] rfl⟩ hF
  obtain ⟨hP, hD, hS, hl⟩ := hI
  unfold B_X8_freedomOf_4 at hF
  refine lv_iload_n hx hb dX8_freedomOf_4 rfl (lv_at hl 3 rfl) ?_
  refine lv_bipush (v := 64) hx hb dX8_freedomOf_5 (by decide) ?_
  refine lv_icmp_ge (tgt := 46) hx hb dX8_freedomOf_7 (by decide) (fun c7 => ?_) (fun c7 => ?_)
  · have hF := itP c7 hF
    refine lv_iload_n hx hb dX8_freedomOf_46 rfl (lv_at hl 2 rfl) ?_
    obtain rfl := Option.some.inj hF
    rw [← hQ]
    exact W.iret (v := v4_0) hx hb hr (fun t ht hW => ⟨⟨_, (), rfl, ⟨rfl, rfl⟩, xLf hP ht⟩, hS.F ht⟩) hS.2.2 dX8_freedomOf_47
  · have hF := itN c7 hF
    refine lv_iload_n hx hb dX8_freedomOf_10 rfl (lv_at hl 2 rfl) ?_
    refine lv_aload_n hx hb dX8_freedomOf_11 rfl (lv_at hl 0 rfl) ?_
    refine lv_iload_n hx hb dX8_freedomOf_12 rfl (lv_at hl 3 rfl) ?_
    obtain ⟨u1, e1, hF⟩ := bdS hF
    refine xEndI (xRunV (As := [.int v4_1]) (rest := [.int v4_0]) hZ (c_X8_breaksBy G t row kpt errs bitsOf sizeOf cels broken isFit breaks act wth facts pile trc images v4_2 v4_3 laid hre opnd bad usg trcd isP row_f broken_f v4_4 v4_5 v4_1 u1 e1 l H.size) m308 m309 m310 m5 m311 1 ⟨rfl, hdX8_breaksBy⟩ ⟨Nat.le_of_ble_eq_true rfl, Nat.le_of_ble_eq_true rfl⟩ ⟨rfl, rfl⟩ hP hD hS 0 8 rfl rfl rfl [0, 1, 2, 3, 4] rfl rfl rfl hl.1 rfl (Nat.le_of_ble_eq_true rfl) dX8_freedomOf_13 ⟨Nat.zero_le _, Nat.zero_le _⟩) hP hD hS hA [0, 1, 2, 3, 4] rfl rfl rfl (fun H locs n1 hP hD hS => ?_)
    have hP : va_P G.1 vwCl [(t, .inr (8, [.ref row, .ref kpt, .int images, .ref errs, .ref bitsOf, .ref sizeOf, .ref cels, .ref broken, .ref isFit, .ref breaks, .int u1.2.1, .int u1.2.2.1, .ref act, .ref wth, .ref facts, .ref pile, .int laid, .int hre, .int opnd, .int bad, .int usg, .ref trc, .int trcd, .int isP])), (row, .inl (xI G, 400, .inl row_f)), (broken, .inl (xJ G, 729, .inr (.inl broken_f))), (isFit, .inl (xZ G, 729, .inl u1.2.2.2.1)), (breaks, .inl (xI G, 64, .inl u1.2.2.2.2)), (facts, .inl (xI G, 3, .inl v4_6)), (pile, .inl (xI G, 60, .inl v4_7))] H := hP
    have hD : va_D A [(t, .inr (8, [.ref row, .ref kpt, .int images, .ref errs, .ref bitsOf, .ref sizeOf, .ref cels, .ref broken, .ref isFit, .ref breaks, .int u1.2.1, .int u1.2.2.1, .ref act, .ref wth, .ref facts, .ref pile, .int laid, .int hre, .int opnd, .int bad, .int usg, .ref trc, .int trcd, .int isP])), (row, .inl (xI G, 400, .inl row_f)), (broken, .inl (xJ G, 729, .inr (.inl broken_f))), (isFit, .inl (xZ G, 729, .inl u1.2.2.2.1)), (breaks, .inl (xI G, 64, .inl u1.2.2.2.2)), (facts, .inl (xI G, 3, .inl v4_6)), (pile, .inl (xI G, 60, .inl v4_7))] := hD
    refine lv_if_ne (tgt := 37) hx hb dX8_freedomOf_16 (by decide) (fun c16 => ?_) (fun c16 => ?_)
    · have hF := itN c16 hF
      refine lv_iconst (v := 0) hx hb dX8_freedomOf_37 (by decide) ?_
      refine lv_iadd hx hb dX8_freedomOf_38 ?_
      refine lv_istore_n (lv' := [(2, .int (v4_0 + (0 : Int32))), (0, .ref t), (1, .int br), (3, .int v4_1)]) hx hb dX8_freedomOf_39 rfl hl (by decide) rfl (fun ls hl => ?_)
      refine lv_iinc (v := (v4_1 + (1 : Int32))) (lv' := [(3, .int (v4_1 + (1 : Int32))), (2, .int (v4_0 + (0 : Int32))), (0, .ref t), (1, .int br)]) hx hb dX8_freedomOf_40 hl (k := 3) rfl (xInc_1 _) (by decide) rfl (fun ls hl => ?_)
      refine lv_goto (tgt := 4) hx hb dX8_freedomOf_43 (by decide) ?_
      exact ih4 (v4_0 + (0 : Int32)) (v4_1 + (1 : Int32)) u1.2.1 u1.2.2.1 u1.2.2.2.1 u1.2.2.2.2 v4_6 v4_7 H locs ls ⟨hP, hD, hS, lv_sub hl [2, 3, 1, 0] rfl⟩ hF
    · have hF := itP c16 hF
      refine lv_aload_n hx hb dX8_freedomOf_19 rfl (lv_at hl 0 rfl) ?_
      refine lv_iload_n hx hb dX8_freedomOf_20 rfl (lv_at hl 1 rfl) ?_
      refine lv_iload_n hx hb dX8_freedomOf_21 rfl (lv_at hl 3 rfl) ?_
      obtain ⟨u2, e2, hF⟩ := bdS hF
      refine xEndI (xRunV (As := [.int br, .int v4_1]) (rest := [.int v4_0]) hZ (c_X8_doesAvoid G t row kpt errs bitsOf sizeOf cels broken isFit breaks act wth facts pile trc images u1.2.1 u1.2.2.1 laid hre opnd bad usg trcd isP row_f broken_f u1.2.2.2.1 u1.2.2.2.2 v4_6 v4_7 br v4_1 u2 e2 l H.size) m299 m300 m301 m5 m302 2 ⟨rfl, hdX8_doesAvoid⟩ ⟨Nat.le_of_ble_eq_true rfl, Nat.le_of_ble_eq_true rfl⟩ ⟨rfl, rfl⟩ hP hD hS 0 8 rfl rfl rfl [0, 1, 2, 3, 4, 5, 6] rfl rfl rfl hl.1 rfl (Nat.le_of_ble_eq_true rfl) dX8_freedomOf_22 ⟨Nat.zero_le _, Nat.zero_le _⟩) hP hD hS hA [0, 1, 2, 3, 4, 5, 6] rfl rfl rfl (fun H locs n2 hP hD hS => ?_)
      have hP : va_P G.1 vwCl [(t, .inr (8, [.ref row, .ref kpt, .int images, .ref errs, .ref bitsOf, .ref sizeOf, .ref cels, .ref broken, .ref isFit, .ref breaks, .int u2.2.1, .int u2.2.2.1, .ref act, .ref wth, .ref facts, .ref pile, .int laid, .int hre, .int opnd, .int bad, .int usg, .ref trc, .int trcd, .int isP])), (row, .inl (xI G, 400, .inl row_f)), (broken, .inl (xJ G, 729, .inr (.inl broken_f))), (isFit, .inl (xZ G, 729, .inl u2.2.2.2.1)), (breaks, .inl (xI G, 64, .inl u2.2.2.2.2.1)), (facts, .inl (xI G, 3, .inl u2.2.2.2.2.2.1)), (pile, .inl (xI G, 60, .inl u2.2.2.2.2.2.2))] H := hP
      have hD : va_D A [(t, .inr (8, [.ref row, .ref kpt, .int images, .ref errs, .ref bitsOf, .ref sizeOf, .ref cels, .ref broken, .ref isFit, .ref breaks, .int u2.2.1, .int u2.2.2.1, .ref act, .ref wth, .ref facts, .ref pile, .int laid, .int hre, .int opnd, .int bad, .int usg, .ref trc, .int trcd, .int isP])), (row, .inl (xI G, 400, .inl row_f)), (broken, .inl (xJ G, 729, .inr (.inl broken_f))), (isFit, .inl (xZ G, 729, .inl u2.2.2.2.1)), (breaks, .inl (xI G, 64, .inl u2.2.2.2.2.1)), (facts, .inl (xI G, 3, .inl u2.2.2.2.2.2.1)), (pile, .inl (xI G, 60, .inl u2.2.2.2.2.2.2))] := hD
      refine lv_if_ne (tgt := 37) hx hb dX8_freedomOf_25 (by decide) (fun c25 => ?_) (fun c25 => ?_)
      · have hF := itN c25 hF
        refine lv_iconst (v := 0) hx hb dX8_freedomOf_37 (by decide) ?_
        refine lv_iadd hx hb dX8_freedomOf_38 ?_
        refine lv_istore_n (lv' := [(2, .int (v4_0 + (0 : Int32))), (0, .ref t), (1, .int br), (3, .int v4_1)]) hx hb dX8_freedomOf_39 rfl hl (by decide) rfl (fun ls hl => ?_)
        refine lv_iinc (v := (v4_1 + (1 : Int32))) (lv' := [(3, .int (v4_1 + (1 : Int32))), (2, .int (v4_0 + (0 : Int32))), (0, .ref t), (1, .int br)]) hx hb dX8_freedomOf_40 hl (k := 3) rfl (xInc_1 _) (by decide) rfl (fun ls hl => ?_)
        refine lv_goto (tgt := 4) hx hb dX8_freedomOf_43 (by decide) ?_
        exact ih4 (v4_0 + (0 : Int32)) (v4_1 + (1 : Int32)) u2.2.1 u2.2.2.1 u2.2.2.2.1 u2.2.2.2.2.1 u2.2.2.2.2.2.1 u2.2.2.2.2.2.2 H locs ls ⟨hP, hD, hS, lv_sub hl [2, 3, 1, 0] rfl⟩ hF
      · have hF := itP c25 hF
        refine lv_aload_n hx hb dX8_freedomOf_28 rfl (lv_at hl 0 rfl) ?_
        refine lv_iload_n hx hb dX8_freedomOf_29 rfl (lv_at hl 1 rfl) ?_
        refine lv_iload_n hx hb dX8_freedomOf_30 rfl (lv_at hl 3 rfl) ?_
        obtain ⟨u3, e3, hF⟩ := bdS hF
        refine xEndI (xRunV (As := [.int br, .int v4_1]) (rest := [.int v4_0]) hZ (c_X8_talkOf G t row kpt errs bitsOf sizeOf cels broken isFit breaks act wth facts pile trc images u2.2.1 u2.2.2.1 laid hre opnd bad usg trcd isP row_f u2.2.2.2.2.2.1 u2.2.2.2.2.2.2 br v4_1 u3 e3 l H.size) m406 m407 m408 m5 m409 2 ⟨rfl, hdX8_talkOf⟩ ⟨Nat.le_of_ble_eq_true rfl, Nat.le_of_ble_eq_true rfl⟩ ⟨rfl, rfl⟩ hP hD hS 0 8 rfl rfl rfl [0, 1, 5, 6] rfl rfl rfl hl.1 rfl (Nat.le_of_ble_eq_true rfl) dX8_freedomOf_31 ⟨Nat.zero_le _, Nat.zero_le _⟩) hP hD hS hA [0, 1, 5, 6] rfl rfl rfl (fun H locs n3 hP hD hS => ?_)
        have hP : va_P G.1 vwCl [(t, .inr (8, [.ref row, .ref kpt, .int images, .ref errs, .ref bitsOf, .ref sizeOf, .ref cels, .ref broken, .ref isFit, .ref breaks, .int u2.2.1, .int u2.2.2.1, .ref act, .ref wth, .ref facts, .ref pile, .int laid, .int hre, .int opnd, .int bad, .int usg, .ref trc, .int trcd, .int isP])), (row, .inl (xI G, 400, .inl row_f)), (broken, .inl (xJ G, 729, .inr (.inl broken_f))), (isFit, .inl (xZ G, 729, .inl u2.2.2.2.1)), (breaks, .inl (xI G, 64, .inl u2.2.2.2.2.1)), (facts, .inl (xI G, 3, .inl u3.2.1)), (pile, .inl (xI G, 60, .inl u3.2.2))] H := hP
        have hD : va_D A [(t, .inr (8, [.ref row, .ref kpt, .int images, .ref errs, .ref bitsOf, .ref sizeOf, .ref cels, .ref broken, .ref isFit, .ref breaks, .int u2.2.1, .int u2.2.2.1, .ref act, .ref wth, .ref facts, .ref pile, .int laid, .int hre, .int opnd, .int bad, .int usg, .ref trc, .int trcd, .int isP])), (row, .inl (xI G, 400, .inl row_f)), (broken, .inl (xJ G, 729, .inr (.inl broken_f))), (isFit, .inl (xZ G, 729, .inl u2.2.2.2.1)), (breaks, .inl (xI G, 64, .inl u2.2.2.2.2.1)), (facts, .inl (xI G, 3, .inl u3.2.1)), (pile, .inl (xI G, 60, .inl u3.2.2))] := hD
        refine lv_goto (tgt := 38) hx hb dX8_freedomOf_34 (by decide) ?_
        refine lv_iadd hx hb dX8_freedomOf_38 ?_
        refine lv_istore_n (lv' := [(2, .int (v4_0 + u3.1)), (0, .ref t), (1, .int br), (3, .int v4_1)]) hx hb dX8_freedomOf_39 rfl hl (by decide) rfl (fun ls hl => ?_)
        refine lv_iinc (v := (v4_1 + (1 : Int32))) (lv' := [(3, .int (v4_1 + (1 : Int32))), (2, .int (v4_0 + u3.1)), (0, .ref t), (1, .int br)]) hx hb dX8_freedomOf_40 hl (k := 3) rfl (xInc_1 _) (by decide) rfl (fun ls hl => ?_)
        refine lv_goto (tgt := 4) hx hb dX8_freedomOf_43 (by decide) ?_
        exact ih4 (v4_0 + u3.1) (v4_1 + (1 : Int32)) u2.2.1 u2.2.2.1 u2.2.2.2.1 u2.2.2.2.2.1 u3.2.1 u3.2.2 H locs ls ⟨hP, hD, hS, lv_sub hl [2, 3, 1, 0] rfl⟩ hF
def F_X8_isSheet (si : Int32) : Option Int32 := bd (F_X8_in si (0 : Int32) (3 : Int32)) (fun (u1 : Int32) => some u1)
theorem hdX8_isSheet : yX8_isSheet.cls ≠ "java/lang/invoke/MethodHandle" ∧ yX8_isSheet.cls ≠ "java/lang/invoke/VarHandle" ∧ (parseMethodDescriptor yX8_isSheet.desc).map (fun d => d.parameters.length) = some 1 := by decide +kernel
set_option maxHeartbeats 4000000 in
set_option maxRecDepth 100000 in
theorem c_X8_isSheet (G : xG) (si : Int32)  (u : Int32) (hF : F_X8_isSheet si = some u) : Ki G .boolean yX8_isSheet (Cond.code yX8_isSheet cX8_isSheet 1 (some .boolean) :: TBL) { frames := 1, cells := 0, slots := 0, locals := 22 } [.int si] [] [] u := by
  intro l sz
  refine Met.ofW (cc := cX8_isSheet) (maxL := 1) (ret := (some .boolean)) (by decide) rfl ?_
  intro p e s m args below meth c s₁ B hml hv
  obtain ⟨rfl, hsz, hP, hD0, hm⟩ := hv
  have hx := B.exec
  have hb := B.bytes
  have hr := B.returns
  have hts := atoms_spec (ws := Cond.code yX8_isSheet cX8_isSheet 1 (some .boolean) :: TBL) B.pre
  have hown : s.vm.findClass RX8 = some m.cls := findClass_of_methodNamed B.named
  have hlocks := B.notSynchronized
  subst hsz
  have hD := hD0.self (sz := s.heap.size)
  generalize hAe : va_A [] s.heap.size = A at hD hm ⊢
  have hA : ∀ q : Nat, s.heap.size ≤ q → A q := fun q h => by rw [← hAe]; exact Or.inr h
  have hK := hm.1
  have hZ : xAnd p m c cX8_isSheet 1 s _ (Cond.code yX8_isSheet cX8_isSheet 1 (some .boolean) :: TBL) RX8 G A := ⟨⟨hx, hb, hml, hown, hts⟩, tcons, hA, hm⟩
  have hP : va_P G.1 vwCl [] s.heap := hP
  have hl := lv_entry ([.int si]) (n := 1) (Nat.le_of_ble_eq_true rfl)
  rw [lg_entry_eq]
  generalize (lg_sl ([.int si]) ++ List.replicate (1 - (lg_sl ([.int si])).length) Slot.unset).toArray = ls at hl ⊢
  have hl : lv_has ls 1 [(0, .int si)] := hl
  generalize hQ : MQ below _ _ s _ _ _ = Q
  refine xGo (A := A) hP (fun H locs hP hS => ?_)
  unfold F_X8_isSheet at hF
  refine lv_iload_n hx hb dX8_isSheet_0 rfl (lv_at hl 0 rfl) ?_
  refine lv_iconst (v := 0) hx hb dX8_isSheet_1 (by decide) ?_
  refine lv_iconst (v := 3) hx hb dX8_isSheet_2 (by decide) ?_
  obtain ⟨u1, e1, hF⟩ := bdS hF
  refine xEndI (xRunS (As := [.int si, .int (0 : Int32), .int (3 : Int32)]) (rest := []) hZ (c_X8_in G si (0 : Int32) (3 : Int32) u1 e1 l H.size) m190 m191 m5 m192 3 hdX8_in ⟨Nat.le_of_ble_eq_true rfl, Nat.le_of_ble_eq_true rfl⟩ ⟨rfl, rfl⟩ hP hD hS [] rfl rfl rfl hl.1 rfl (Nat.le_of_ble_eq_true rfl) dX8_isSheet_3 ⟨Nat.zero_le _, Nat.zero_le _⟩) hP hD hS hA [] rfl rfl rfl (fun H locs n1 hP hD hS => ?_)
  have hP : va_P G.1 vwCl [] H := hP
  have hD : va_D A [] := hD
  obtain rfl := Option.some.inj hF
  rw [← hQ]
  exact W.zret (v := u1) hx hb hr n1 (fun t ht hW => ⟨⟨_, (), rfl, ⟨rfl, n1⟩, xLf hP ht⟩, hS.F ht⟩) hS.2.2 dX8_isSheet_6
def B_X8_isSo_10 (sizeOf_f : Nat → Int32) (cels_f : Nat → Int32) (broken_f : Nat → Int64) (si : Int32) (vo : Int32) (k10 : (Int32 × Int32) → Option Int32) (v10 : (Int32 × Int32)) : Option Int32 := if (si < 0 ∨ 4 ≤ si.toNatClampNeg) then none else (if (sizeOf_f si.toNatClampNeg) ≤ v10.2 then (if v10.1 &&& 1 = v10.1 then (some v10.1) else none) else (if v10.1 = 0 then (if v10.1 &&& 1 = v10.1 then (some v10.1) else none) else (if ((((24 : Int32) * si) + v10.2) < 0 ∨ 96 ≤ (((24 : Int32) * si) + v10.2).toNatClampNeg) then none else (bd (F_X8_doesBreak broken_f vo v10.2) (fun (u1 : Int32) => if u1 = 0 then (if (cels_f (((24 : Int32) * si) + v10.2).toNatClampNeg) = (0 : Int32) then (k10 ((1 : Int32), (v10.2 + (1 : Int32)))) else (k10 ((0 : Int32), (v10.2 + (1 : Int32))))) else (if (cels_f (((24 : Int32) * si) + v10.2).toNatClampNeg) = (1 : Int32) then (k10 ((1 : Int32), (v10.2 + (1 : Int32)))) else (k10 ((0 : Int32), (v10.2 + (1 : Int32))))))))))
def F_X8_isSo (sizeOf_f : Nat → Int32) (cels_f : Nat → Int32) (broken_f : Nat → Int64) (isFit_f : Nat → Int32) (si : Int32) (vo : Int32) : Option Int32 := if (vo < 0 ∨ 729 ≤ vo.toNatClampNeg) then none else (lp (B_X8_isSo_10 sizeOf_f cels_f broken_f si vo) fuelC ((isFit_f vo.toNatClampNeg), (0 : Int32)))
theorem hdX8_isSo : yX8_isSo.cls ≠ "java/lang/invoke/MethodHandle" ∧ yX8_isSo.cls ≠ "java/lang/invoke/VarHandle" ∧ (parseMethodDescriptor yX8_isSo.desc).map (fun d => d.parameters.length) = some 2 := by decide +kernel
set_option maxHeartbeats 4000000 in
set_option maxRecDepth 100000 in
theorem c_X8_isSo (G : xG) (t : Nat) (row : Nat) (kpt : Nat) (errs : Nat) (bitsOf : Nat) (sizeOf : Nat) (cels : Nat) (broken : Nat) (isFit : Nat) (breaks : Nat) (act : Nat) (wth : Nat) (facts : Nat) (pile : Nat) (trc : Nat) (images : Int32) (mfit : Int32) (known : Int32) (laid : Int32) (hre : Int32) (opnd : Int32) (bad : Int32) (usg : Int32) (trcd : Int32) (isP : Int32) (sizeOf_f : Nat → Int32) (cels_f : Nat → Int32) (broken_f : Nat → Int64) (isFit_f : Nat → Int32) (si : Int32) (vo : Int32)  (u : Int32) (hF : F_X8_isSo sizeOf_f cels_f broken_f isFit_f si vo = some u) : Ki G .boolean yX8_isSo (Cond.code yX8_isSo cX8_isSo 5 (some .boolean) :: TBL) { frames := 1, cells := 0, slots := 0, locals := 22 } [.ref t, .int si, .int vo] [(t, .inr (8, [.ref row, .ref kpt, .int images, .ref errs, .ref bitsOf, .ref sizeOf, .ref cels, .ref broken, .ref isFit, .ref breaks, .int mfit, .int known, .ref act, .ref wth, .ref facts, .ref pile, .int laid, .int hre, .int opnd, .int bad, .int usg, .ref trc, .int trcd, .int isP])), (sizeOf, .inl (xI G, 4, .inl sizeOf_f)), (cels, .inl (xI G, 96, .inl cels_f)), (broken, .inl (xJ G, 729, .inr (.inl broken_f))), (isFit, .inl (xZ G, 729, .inl isFit_f))] [(t, .inr (8, [.ref row, .ref kpt, .int images, .ref errs, .ref bitsOf, .ref sizeOf, .ref cels, .ref broken, .ref isFit, .ref breaks, .int mfit, .int known, .ref act, .ref wth, .ref facts, .ref pile, .int laid, .int hre, .int opnd, .int bad, .int usg, .ref trc, .int trcd, .int isP])), (sizeOf, .inl (xI G, 4, .inl sizeOf_f)), (cels, .inl (xI G, 96, .inl cels_f)), (broken, .inl (xJ G, 729, .inr (.inl broken_f))), (isFit, .inl (xZ G, 729, .inl isFit_f))] u := by
  intro l sz
  refine Met.ofW (cc := cX8_isSo) (maxL := 5) (ret := (some .boolean)) (by decide) rfl ?_
  intro p e s m args below meth c s₁ B hml hv
  obtain ⟨rfl, hsz, hP, hD0, hm⟩ := hv
  have hx := B.exec
  have hb := B.bytes
  have hr := B.returns
  have hts := atoms_spec (ws := Cond.code yX8_isSo cX8_isSo 5 (some .boolean) :: TBL) B.pre
  have hown : s.vm.findClass RX8 = some m.cls := findClass_of_methodNamed B.named
  have hlocks := B.notSynchronized
  subst hsz
  have hD := hD0.self (sz := s.heap.size)
  generalize hAe : va_A [(t, .inr (8, [.ref row, .ref kpt, .int images, .ref errs, .ref bitsOf, .ref sizeOf, .ref cels, .ref broken, .ref isFit, .ref breaks, .int mfit, .int known, .ref act, .ref wth, .ref facts, .ref pile, .int laid, .int hre, .int opnd, .int bad, .int usg, .ref trc, .int trcd, .int isP])), (sizeOf, .inl (xI G, 4, .inl sizeOf_f)), (cels, .inl (xI G, 96, .inl cels_f)), (broken, .inl (xJ G, 729, .inr (.inl broken_f))), (isFit, .inl (xZ G, 729, .inl isFit_f))] s.heap.size = A at hD hm ⊢
  have hA : ∀ q : Nat, s.heap.size ≤ q → A q := fun q h => by rw [← hAe]; exact Or.inr h
  have hK := hm.1
  have hZ : xAnd p m c cX8_isSo 5 s _ (Cond.code yX8_isSo cX8_isSo 5 (some .boolean) :: TBL) RX8 G A := ⟨⟨hx, hb, hml, hown, hts⟩, tcons, hA, hm⟩
  have hP : va_P G.1 vwCl [(t, .inr (8, [.ref row, .ref kpt, .int images, .ref errs, .ref bitsOf, .ref sizeOf, .ref cels, .ref broken, .ref isFit, .ref breaks, .int mfit, .int known, .ref act, .ref wth, .ref facts, .ref pile, .int laid, .int hre, .int opnd, .int bad, .int usg, .ref trc, .int trcd, .int isP])), (sizeOf, .inl (xI G, 4, .inl sizeOf_f)), (cels, .inl (xI G, 96, .inl cels_f)), (broken, .inl (xJ G, 729, .inr (.inl broken_f))), (isFit, .inl (xZ G, 729, .inl isFit_f))] s.heap := hP
  have hl := lv_entry ([.ref t, .int si, .int vo]) (n := 5) (Nat.le_of_ble_eq_true rfl)
  rw [lg_entry_eq]
  generalize (lg_sl ([.ref t, .int si, .int vo]) ++ List.replicate (5 - (lg_sl ([.ref t, .int si, .int vo])).length) Slot.unset).toArray = ls at hl ⊢
  have hl : lv_has ls 5 [(0, .ref t), (1, .int si), (2, .int vo)] := hl
  generalize hQ : MQ below _ _ s _ _ _ = Q
  refine xGo (A := A) hP (fun H locs hP hS => ?_)
  unfold F_X8_isSo at hF
  refine lv_aload_n hx hb dX8_isSo_0 rfl (lv_at hl 0 rfl) ?_
  refine va_get (ci := 8) (v := .ref isFit) (C := RX8) (T := TX8) (N := 24) hx hb hts (fun w h => tcons w (xin8 w h)) hown hK hP 0 rfl rfl 8 (by decide) (hts _ (tcons _ m144)) (fun _ h9 => h9) rfl dX8_isSo_1 ?_
  refine lv_iload_n hx hb dX8_isSo_4 rfl (lv_at hl 2 rfl) ?_
  obtain ⟨g5, hF⟩ := gdS hF
  refine va_zald hx hb hK hP 4 2 rfl rfl g5 dX8_isSo_5 ?_
  refine lv_istore_n (lv' := [(3, .int (isFit_f vo.toNatClampNeg)), (0, .ref t), (1, .int si), (2, .int vo)]) hx hb dX8_isSo_6 rfl hl (by decide) rfl (fun ls hl => ?_)
  refine lv_iconst (v := 0) hx hb dX8_isSo_7 (by decide) ?_
  refine lv_istore (lv' := [(4, .int (0 : Int32)), (3, .int (isFit_f vo.toNatClampNeg)), (0, .ref t), (1, .int si), (2, .int vo)]) hx hb dX8_isSo_8 hl (by decide) rfl (fun ls hl => ?_)
  refine xLoop2 (body := (B_X8_isSo_10 sizeOf_f cels_f broken_f si vo)) (fun (v10_0 : Int32) (v10_1 : Int32) H locs ls => va_P G.1 vwCl [(t, .inr (8, [.ref row, .ref kpt, .int images, .ref errs, .ref bitsOf, .ref sizeOf, .ref cels, .ref broken, .ref isFit, .ref breaks, .int mfit, .int known, .ref act, .ref wth, .ref facts, .ref pile, .int laid, .int hre, .int opnd, .int bad, .int usg, .ref trc, .int trcd, .int isP])), (sizeOf, .inl (xI G, 4, .inl sizeOf_f)), (cels, .inl (xI G, 96, .inl cels_f)), (broken, .inl (xJ G, 729, .inr (.inl broken_f))), (isFit, .inl (xZ G, 729, .inl isFit_f))] H ∧ va_D A [(t, .inr (8, [.ref row, .ref kpt, .int images, .ref errs, .ref bitsOf, .ref sizeOf, .ref cels, .ref broken, .ref isFit, .ref breaks, .int mfit, .int known, .ref act, .ref wth, .ref facts, .ref pile, .int laid, .int hre, .int opnd, .int bad, .int usg, .ref trc, .int trcd, .int isP])), (sizeOf, .inl (xI G, 4, .inl sizeOf_f)), (cels, .inl (xI G, 96, .inl cels_f)), (broken, .inl (xJ G, 729, .inr (.inl broken_f))), (isFit, .inl (xZ G, 729, .inl isFit_f))] ∧ va_S A s.heap H locs ∧ lv_has ls 5 [(0, .ref t), (1, .int si), (2, .int vo), (3, .int v10_0), (4, .int v10_1)]) (fun N10 v10_0 v10_1 ih10 H locs ls hI hF => ?_) fuelC (isFit_f vo.toNatClampNeg) (0 : Int32) H locs ls ⟨hP, hD, hS, lv_sub hl [2, 3, 4, 1, 0] rfl⟩ hF
  obtain ⟨hP, hD, hS, hl⟩ := hI
  unfold B_X8_isSo_10 at hF
  refine lv_iload hx hb dX8_isSo_10 (lv_at hl 4 rfl) ?_
  refine lv_aload_n hx hb dX8_isSo_12 rfl (lv_at hl 0 rfl) ?_
  refine va_get (ci := 8) (v := .ref sizeOf) (C := RX8) (T := TX8) (N := 24) hx hb hts (fun w h => tcons w (xin8 w h)) hown hK hP 0 rfl rfl 5 (by decide) (hts _ (tcons _ m141)) (fun _ h9 => h9) rfl dX8_isSo_13 ?_
  refine lv_iload_n hx hb dX8_isSo_16 rfl (lv_at hl 1 rfl) ?_
  obtain ⟨g17, hF⟩ := gdS hF
  refine va_iald hx hb hK hP 1 0 rfl rfl g17 dX8_isSo_17 ?_
  refine lv_icmp_ge (tgt := 67) hx hb dX8_isSo_18 (by decide) (fun c18 => ?_) (fun c18 => ?_)
  · have hF := itP c18 hF
    refine lv_iload_n hx hb dX8_isSo_67 rfl (lv_at hl 3 rfl) ?_
    obtain ⟨gz, hF⟩ := gdB hF
    obtain rfl := Option.some.inj hF
    rw [← hQ]
    exact W.zret (v := v10_0) hx hb hr (xNarB gz) (fun t ht hW => ⟨⟨_, (), rfl, ⟨rfl, (xNarB gz)⟩, xLf hP ht⟩, hS.F ht⟩) hS.2.2 dX8_isSo_68
  · have hF := itN c18 hF
    refine lv_iload_n hx hb dX8_isSo_21 rfl (lv_at hl 3 rfl) ?_
    refine lv_if_eq (tgt := 67) hx hb dX8_isSo_22 (by decide) (fun c22 => ?_) (fun c22 => ?_)
    · have hF := itP c22 hF
      refine lv_iload_n hx hb dX8_isSo_67 rfl (lv_at hl 3 rfl) ?_
      obtain ⟨gz, hF⟩ := gdB hF
      obtain rfl := Option.some.inj hF
      rw [← hQ]
      exact W.zret (v := v10_0) hx hb hr (xNarB gz) (fun t ht hW => ⟨⟨_, (), rfl, ⟨rfl, (xNarB gz)⟩, xLf hP ht⟩, hS.F ht⟩) hS.2.2 dX8_isSo_68
    · have hF := itN c22 hF
      refine lv_aload_n hx hb dX8_isSo_25 rfl (lv_at hl 0 rfl) ?_
      refine va_get (ci := 8) (v := .ref cels) (C := RX8) (T := TX8) (N := 24) hx hb hts (fun w h => tcons w (xin8 w h)) hown hK hP 0 rfl rfl 6 (by decide) (hts _ (tcons _ m142)) (fun _ h9 => h9) rfl dX8_isSo_26 ?_
      refine lv_bipush (v := 24) hx hb dX8_isSo_29 (by decide) ?_
      refine lv_iload_n hx hb dX8_isSo_31 rfl (lv_at hl 1 rfl) ?_
      refine lv_imul hx hb dX8_isSo_32 ?_
      refine lv_iload hx hb dX8_isSo_33 (lv_at hl 4 rfl) ?_
      refine lv_iadd hx hb dX8_isSo_35 ?_
      obtain ⟨g36, hF⟩ := gdS hF
      refine va_iald hx hb hK hP 2 0 rfl rfl g36 dX8_isSo_36 ?_
      refine lv_aload_n hx hb dX8_isSo_37 rfl (lv_at hl 0 rfl) ?_
      refine lv_iload_n hx hb dX8_isSo_38 rfl (lv_at hl 2 rfl) ?_
      refine lv_iload hx hb dX8_isSo_39 (lv_at hl 4 rfl) ?_
      obtain ⟨u1, e1, hF⟩ := bdS hF
      refine xEndI (xRunV (As := [.int vo, .int v10_1]) (rest := [.int (cels_f (((24 : Int32) * si) + v10_1).toNatClampNeg)]) hZ (c_X8_doesBreak G t row kpt errs bitsOf sizeOf cels broken isFit breaks act wth facts pile trc images mfit known laid hre opnd bad usg trcd isP broken_f vo v10_1 u1 e1 l H.size) m321 m322 m323 m5 m324 2 ⟨rfl, hdX8_doesBreak⟩ ⟨Nat.le_of_ble_eq_true rfl, Nat.le_of_ble_eq_true rfl⟩ ⟨rfl, rfl⟩ hP hD hS 0 8 rfl rfl rfl [0, 3] rfl rfl rfl hl.1 rfl (Nat.le_of_ble_eq_true rfl) dX8_isSo_41 ⟨Nat.zero_le _, Nat.zero_le _⟩) hP hD hS hA [0, 3] rfl rfl rfl (fun H locs n1 hP hD hS => ?_)
      have hP : va_P G.1 vwCl [(t, .inr (8, [.ref row, .ref kpt, .int images, .ref errs, .ref bitsOf, .ref sizeOf, .ref cels, .ref broken, .ref isFit, .ref breaks, .int mfit, .int known, .ref act, .ref wth, .ref facts, .ref pile, .int laid, .int hre, .int opnd, .int bad, .int usg, .ref trc, .int trcd, .int isP])), (sizeOf, .inl (xI G, 4, .inl sizeOf_f)), (cels, .inl (xI G, 96, .inl cels_f)), (broken, .inl (xJ G, 729, .inr (.inl broken_f))), (isFit, .inl (xZ G, 729, .inl isFit_f))] H := hP
      have hD : va_D A [(t, .inr (8, [.ref row, .ref kpt, .int images, .ref errs, .ref bitsOf, .ref sizeOf, .ref cels, .ref broken, .ref isFit, .ref breaks, .int mfit, .int known, .ref act, .ref wth, .ref facts, .ref pile, .int laid, .int hre, .int opnd, .int bad, .int usg, .ref trc, .int trcd, .int isP])), (sizeOf, .inl (xI G, 4, .inl sizeOf_f)), (cels, .inl (xI G, 96, .inl cels_f)), (broken, .inl (xJ G, 729, .inr (.inl broken_f))), (isFit, .inl (xZ G, 729, .inl isFit_f))] := hD
      refine lv_if_eq (tgt := 51) hx hb dX8_isSo_44 (by decide) (fun c44 => ?_) (fun c44 => ?_)
      · have hF := itP c44 hF
        refine lv_iconst (v := 0) hx hb dX8_isSo_51 (by decide) ?_
        refine lv_icmp_ne (tgt := 59) hx hb dX8_isSo_52 (by decide) (fun c52 => ?_) (fun c52 => ?_)
        · have hF := itN c52 hF
          refine lv_iconst (v := 0) hx hb dX8_isSo_59 (by decide) ?_
          refine lv_istore_n (lv' := [(3, .int (0 : Int32)), (0, .ref t), (1, .int si), (2, .int vo), (4, .int v10_1)]) hx hb dX8_isSo_60 rfl hl (by decide) rfl (fun ls hl => ?_)
          refine lv_iinc (v := (v10_1 + (1 : Int32))) (lv' := [(4, .int (v10_1 + (1 : Int32))), (3, .int (0 : Int32)), (0, .ref t), (1, .int si), (2, .int vo)]) hx hb dX8_isSo_61 hl (k := 4) rfl (xInc_1 _) (by decide) rfl (fun ls hl => ?_)
          refine lv_goto (tgt := 10) hx hb dX8_isSo_64 (by decide) ?_
          exact ih10 (0 : Int32) (v10_1 + (1 : Int32)) H locs ls ⟨hP, hD, hS, lv_sub hl [2, 3, 4, 1, 0] rfl⟩ hF
        · have hF := itP c52 hF
          refine lv_iconst (v := 1) hx hb dX8_isSo_55 (by decide) ?_
          refine lv_goto (tgt := 60) hx hb dX8_isSo_56 (by decide) ?_
          refine lv_istore_n (lv' := [(3, .int (1 : Int32)), (0, .ref t), (1, .int si), (2, .int vo), (4, .int v10_1)]) hx hb dX8_isSo_60 rfl hl (by decide) rfl (fun ls hl => ?_)
          refine lv_iinc (v := (v10_1 + (1 : Int32))) (lv' := [(4, .int (v10_1 + (1 : Int32))), (3, .int (1 : Int32)), (0, .ref t), (1, .int si), (2, .int vo)]) hx hb dX8_isSo_61 hl (k := 4) rfl (xInc_1 _) (by decide) rfl (fun ls hl => ?_)
          refine lv_goto (tgt := 10) hx hb dX8_isSo_64 (by decide) ?_
          exact ih10 (1 : Int32) (v10_1 + (1 : Int32)) H locs ls ⟨hP, hD, hS, lv_sub hl [2, 3, 4, 1, 0] rfl⟩ hF
      · have hF := itN c44 hF
        refine lv_iconst (v := 1) hx hb dX8_isSo_47 (by decide) ?_
        refine lv_goto (tgt := 52) hx hb dX8_isSo_48 (by decide) ?_
        refine lv_icmp_ne (tgt := 59) hx hb dX8_isSo_52 (by decide) (fun c52 => ?_) (fun c52 => ?_)
        · have hF := itN c52 hF
          refine lv_iconst (v := 0) hx hb dX8_isSo_59 (by decide) ?_
          refine lv_istore_n (lv' := [(3, .int (0 : Int32)), (0, .ref t), (1, .int si), (2, .int vo), (4, .int v10_1)]) hx hb dX8_isSo_60 rfl hl (by decide) rfl (fun ls hl => ?_)
          refine lv_iinc (v := (v10_1 + (1 : Int32))) (lv' := [(4, .int (v10_1 + (1 : Int32))), (3, .int (0 : Int32)), (0, .ref t), (1, .int si), (2, .int vo)]) hx hb dX8_isSo_61 hl (k := 4) rfl (xInc_1 _) (by decide) rfl (fun ls hl => ?_)
          refine lv_goto (tgt := 10) hx hb dX8_isSo_64 (by decide) ?_
          exact ih10 (0 : Int32) (v10_1 + (1 : Int32)) H locs ls ⟨hP, hD, hS, lv_sub hl [2, 3, 4, 1, 0] rfl⟩ hF
        · have hF := itP c52 hF
          refine lv_iconst (v := 1) hx hb dX8_isSo_55 (by decide) ?_
          refine lv_goto (tgt := 60) hx hb dX8_isSo_56 (by decide) ?_
          refine lv_istore_n (lv' := [(3, .int (1 : Int32)), (0, .ref t), (1, .int si), (2, .int vo), (4, .int v10_1)]) hx hb dX8_isSo_60 rfl hl (by decide) rfl (fun ls hl => ?_)
          refine lv_iinc (v := (v10_1 + (1 : Int32))) (lv' := [(4, .int (v10_1 + (1 : Int32))), (3, .int (1 : Int32)), (0, .ref t), (1, .int si), (2, .int vo)]) hx hb dX8_isSo_61 hl (k := 4) rfl (xInc_1 _) (by decide) rfl (fun ls hl => ?_)
          refine lv_goto (tgt := 10) hx hb dX8_isSo_64 (by decide) ?_
          exact ih10 (1 : Int32) (v10_1 + (1 : Int32)) H locs ls ⟨hP, hD, hS, lv_sub hl [2, 3, 4, 1, 0] rfl⟩ hF
def F_X8_begins (trcd : Int32) (trc_f : Nat → Int32) (bo : Int32) : Option (Int32 × (Nat → Int32)) := if (30 : Int32) ≤ trcd then (some (trcd, trc_f)) else (if (trcd < 0 ∨ 30 ≤ trcd.toNatClampNeg) then none else (some ((trcd + (1 : Int32)), (upd trc_f trcd.toNatClampNeg bo))))
theorem hdX8_begins : yX8_begins.cls ≠ "java/lang/invoke/MethodHandle" ∧ yX8_begins.cls ≠ "java/lang/invoke/VarHandle" ∧ (parseMethodDescriptor yX8_begins.desc).map (fun d => d.parameters.length) = some 1 := by decide +kernel
set_option maxHeartbeats 4000000 in
set_option maxRecDepth 100000 in
theorem c_X8_begins (G : xG) (t : Nat) (row : Nat) (kpt : Nat) (errs : Nat) (bitsOf : Nat) (sizeOf : Nat) (cels : Nat) (broken : Nat) (isFit : Nat) (breaks : Nat) (act : Nat) (wth : Nat) (facts : Nat) (pile : Nat) (trc : Nat) (images : Int32) (mfit : Int32) (known : Int32) (laid : Int32) (hre : Int32) (opnd : Int32) (bad : Int32) (usg : Int32) (trcd : Int32) (isP : Int32) (trc_f : Nat → Int32) (bo : Int32)  (u : (Int32 × (Nat → Int32))) (hF : F_X8_begins trcd trc_f bo = some u) : Kv G yX8_begins (Cond.code yX8_begins cX8_begins 2 none :: TBL) { frames := 0, cells := 0, slots := 0, locals := 0 } [.ref t, .int bo] [(t, .inr (8, [.ref row, .ref kpt, .int images, .ref errs, .ref bitsOf, .ref sizeOf, .ref cels, .ref broken, .ref isFit, .ref breaks, .int mfit, .int known, .ref act, .ref wth, .ref facts, .ref pile, .int laid, .int hre, .int opnd, .int bad, .int usg, .ref trc, .int trcd, .int isP])), (trc, .inl (xI G, 30, .inl trc_f))] [(t, .inr (8, [.ref row, .ref kpt, .int images, .ref errs, .ref bitsOf, .ref sizeOf, .ref cels, .ref broken, .ref isFit, .ref breaks, .int mfit, .int known, .ref act, .ref wth, .ref facts, .ref pile, .int laid, .int hre, .int opnd, .int bad, .int usg, .ref trc, .int u.1, .int isP])), (trc, .inl (xI G, 30, .inl u.2))] := by
  intro l sz
  refine Met.ofW (cc := cX8_begins) (maxL := 2) (ret := none) (by decide) rfl ?_
  intro p e s m args below meth c s₁ B hml hv
  obtain ⟨rfl, hsz, hP, hD0, hm⟩ := hv
  have hx := B.exec
  have hb := B.bytes
  have hr := B.returns
  have hts := atoms_spec (ws := Cond.code yX8_begins cX8_begins 2 none :: TBL) B.pre
  have hown : s.vm.findClass RX8 = some m.cls := findClass_of_methodNamed B.named
  have hlocks := B.notSynchronized
  subst hsz
  have hD := hD0.self (sz := s.heap.size)
  generalize hAe : va_A [(t, .inr (8, [.ref row, .ref kpt, .int images, .ref errs, .ref bitsOf, .ref sizeOf, .ref cels, .ref broken, .ref isFit, .ref breaks, .int mfit, .int known, .ref act, .ref wth, .ref facts, .ref pile, .int laid, .int hre, .int opnd, .int bad, .int usg, .ref trc, .int trcd, .int isP])), (trc, .inl (xI G, 30, .inl trc_f))] s.heap.size = A at hD hm ⊢
  have hA : ∀ q : Nat, s.heap.size ≤ q → A q := fun q h => by rw [← hAe]; exact Or.inr h
  have hK := hm.1
  have hZ : xAnd p m c cX8_begins 2 s _ (Cond.code yX8_begins cX8_begins 2 none :: TBL) RX8 G A := ⟨⟨hx, hb, hml, hown, hts⟩, tcons, hA, hm⟩
  have hP : va_P G.1 vwCl [(t, .inr (8, [.ref row, .ref kpt, .int images, .ref errs, .ref bitsOf, .ref sizeOf, .ref cels, .ref broken, .ref isFit, .ref breaks, .int mfit, .int known, .ref act, .ref wth, .ref facts, .ref pile, .int laid, .int hre, .int opnd, .int bad, .int usg, .ref trc, .int trcd, .int isP])), (trc, .inl (xI G, 30, .inl trc_f))] s.heap := hP
  have hl := lv_entry ([.ref t, .int bo]) (n := 2) (Nat.le_of_ble_eq_true rfl)
  rw [lg_entry_eq]
  generalize (lg_sl ([.ref t, .int bo]) ++ List.replicate (2 - (lg_sl ([.ref t, .int bo])).length) Slot.unset).toArray = ls at hl ⊢
  have hl : lv_has ls 2 [(0, .ref t), (1, .int bo)] := hl
  generalize hQ : MQ below _ _ s _ _ _ = Q
  refine xGo (A := A) hP (fun H locs hP hS => ?_)
  unfold F_X8_begins at hF
  refine lv_aload_n hx hb dX8_begins_0 rfl (lv_at hl 0 rfl) ?_
  refine va_get (ci := 8) (v := .int trcd) (C := RX8) (T := TX8) (N := 24) hx hb hts (fun w h => tcons w (xin8 w h)) hown hK hP 0 rfl rfl 22 (by decide) (hts _ (tcons _ m936)) (fun _ h9 => h9) rfl dX8_begins_1 ?_
  refine lv_bipush (v := 30) hx hb dX8_begins_4 (by decide) ?_
  refine lv_icmp_ge (tgt := 29) hx hb dX8_begins_6 (by decide) (fun c6 => ?_) (fun c6 => ?_)
  · have hF := itP c6 hF
    obtain rfl := Option.some.inj hF
    rw [← hQ]
    exact W.vret hx hb hr (fun t ht hW => ⟨⟨(), rfl, trivial, xLf hP ht⟩, hS.F ht⟩) hS.2.2 dX8_begins_29
  · have hF := itN c6 hF
    refine lv_aload_n hx hb dX8_begins_9 rfl (lv_at hl 0 rfl) ?_
    refine va_get (ci := 8) (v := .ref trc) (C := RX8) (T := TX8) (N := 24) hx hb hts (fun w h => tcons w (xin8 w h)) hown hK hP 0 rfl rfl 21 (by decide) (hts _ (tcons _ m150)) (fun _ h9 => h9) rfl dX8_begins_10 ?_
    refine lv_aload_n hx hb dX8_begins_13 rfl (lv_at hl 0 rfl) ?_
    refine va_get (ci := 8) (v := .int trcd) (C := RX8) (T := TX8) (N := 24) hx hb hts (fun w h => tcons w (xin8 w h)) hown hK hP 0 rfl rfl 22 (by decide) (hts _ (tcons _ m936)) (fun _ h9 => h9) rfl dX8_begins_14 ?_
    refine lv_iload_n hx hb dX8_begins_17 rfl (lv_at hl 1 rfl) ?_
    obtain ⟨g18, hF⟩ := gdS hF
    refine va_iast hx hb hK hP hD hS 1 0 rfl rfl g18 dX8_begins_18 (fun H locs hP hD hS => ?_)
    have hP : va_P G.1 vwCl [(t, .inr (8, [.ref row, .ref kpt, .int images, .ref errs, .ref bitsOf, .ref sizeOf, .ref cels, .ref broken, .ref isFit, .ref breaks, .int mfit, .int known, .ref act, .ref wth, .ref facts, .ref pile, .int laid, .int hre, .int opnd, .int bad, .int usg, .ref trc, .int trcd, .int isP])), (trc, .inl (xI G, 30, .inl (upd trc_f trcd.toNatClampNeg bo)))] H := hP
    have hD : va_D A [(t, .inr (8, [.ref row, .ref kpt, .int images, .ref errs, .ref bitsOf, .ref sizeOf, .ref cels, .ref broken, .ref isFit, .ref breaks, .int mfit, .int known, .ref act, .ref wth, .ref facts, .ref pile, .int laid, .int hre, .int opnd, .int bad, .int usg, .ref trc, .int trcd, .int isP])), (trc, .inl (xI G, 30, .inl (upd trc_f trcd.toNatClampNeg bo)))] := hD
    refine lv_aload_n hx hb dX8_begins_19 rfl (lv_at hl 0 rfl) ?_
    refine lv_dup hx hb dX8_begins_20 rfl ?_
    refine va_get (ci := 8) (v := .int trcd) (C := RX8) (T := TX8) (N := 24) hx hb hts (fun w h => tcons w (xin8 w h)) hown hK hP 0 rfl rfl 22 (by decide) (hts _ (tcons _ m936)) (fun _ h9 => h9) rfl dX8_begins_21 ?_
    refine lv_iconst (v := 1) hx hb dX8_begins_24 (by decide) ?_
    refine lv_iadd hx hb dX8_begins_25 ?_
    refine va_put (ci := 8) (v := .int (trcd + (1 : Int32))) (ty := .int) (C := RX8) (T := TX8) (N := 24) hx hb hts (fun w h => tcons w (xin8 w h)) tyX8 tyX8_ok nmX8 hown hK hP hD hS 0 rfl rfl 22 (by decide) (hts _ (tcons _ m936)) (fun _ h9 => h9) rfl (by decide +kernel) rfl rfl (Nat.le_of_ble_eq_true rfl) dX8_begins_26 (fun H locs hP hD hS => ?_)
    have hP : va_P G.1 vwCl [(t, .inr (8, [.ref row, .ref kpt, .int images, .ref errs, .ref bitsOf, .ref sizeOf, .ref cels, .ref broken, .ref isFit, .ref breaks, .int mfit, .int known, .ref act, .ref wth, .ref facts, .ref pile, .int laid, .int hre, .int opnd, .int bad, .int usg, .ref trc, .int (trcd + (1 : Int32)), .int isP])), (trc, .inl (xI G, 30, .inl (upd trc_f trcd.toNatClampNeg bo)))] H := hP
    have hD : va_D A [(t, .inr (8, [.ref row, .ref kpt, .int images, .ref errs, .ref bitsOf, .ref sizeOf, .ref cels, .ref broken, .ref isFit, .ref breaks, .int mfit, .int known, .ref act, .ref wth, .ref facts, .ref pile, .int laid, .int hre, .int opnd, .int bad, .int usg, .ref trc, .int (trcd + (1 : Int32)), .int isP])), (trc, .inl (xI G, 30, .inl (upd trc_f trcd.toNatClampNeg bo)))] := hD
    obtain rfl := Option.some.inj hF
    rw [← hQ]
    exact W.vret hx hb hr (fun t ht hW => ⟨⟨(), rfl, trivial, xLf hP ht⟩, hS.F ht⟩) hS.2.2 dX8_begins_29
