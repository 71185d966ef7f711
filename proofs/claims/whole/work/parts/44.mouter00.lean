def F_X8_brother (row_f : Nat → Int32) (errs_f : Nat → Int32) (km : Int32) : Option (Int32 × (Nat → Int32) × (Nat → Int32)) := bd (F_X8_isKm km) (fun (u1 : Int32) => if u1 = 0 then (bd (F_X8_error errs_f (-1000000001 : Int32)) (fun (u2 : (Int32 × (Nat → Int32))) => some (u2.1, row_f, u2.2))) else (if (row_f (2 : Int32).toNatClampNeg) = (6 : Int32) then (bd (F_X8_error errs_f (-1000000004 : Int32)) (fun (u2 : (Int32 × (Nat → Int32))) => some (u2.1, row_f, u2.2))) else (if (((8 : Int32) + ((3 : Int32) * (row_f (2 : Int32).toNatClampNeg))) < 0 ∨ 400 ≤ ((8 : Int32) + ((3 : Int32) * (row_f (2 : Int32).toNatClampNeg))).toNatClampNeg) then none else (if ((((8 : Int32) + ((3 : Int32) * (row_f (2 : Int32).toNatClampNeg))) + (1 : Int32)) < 0 ∨ 400 ≤ (((8 : Int32) + ((3 : Int32) * (row_f (2 : Int32).toNatClampNeg))) + (1 : Int32)).toNatClampNeg) then none else (if ((((8 : Int32) + ((3 : Int32) * (row_f (2 : Int32).toNatClampNeg))) + (2 : Int32)) < 0 ∨ 400 ≤ (((8 : Int32) + ((3 : Int32) * (row_f (2 : Int32).toNatClampNeg))) + (2 : Int32)).toNatClampNeg) then none else (some ((row_f (2 : Int32).toNatClampNeg), (upd (upd (upd (upd row_f (2 : Int32).toNatClampNeg ((row_f (2 : Int32).toNatClampNeg) + (1 : Int32))) ((8 : Int32) + ((3 : Int32) * (row_f (2 : Int32).toNatClampNeg))).toNatClampNeg (km / (10 : Int32))) (((8 : Int32) + ((3 : Int32) * (row_f (2 : Int32).toNatClampNeg))) + (1 : Int32)).toNatClampNeg (km - km / (10 : Int32) * (10 : Int32))) (((8 : Int32) + ((3 : Int32) * (row_f (2 : Int32).toNatClampNeg))) + (2 : Int32)).toNatClampNeg (0 : Int32)), errs_f)))))))
theorem hdX8_brother : yX8_brother.cls ≠ "java/lang/invoke/MethodHandle" ∧ yX8_brother.cls ≠ "java/lang/invoke/VarHandle" ∧ (parseMethodDescriptor yX8_brother.desc).map (fun d => d.parameters.length) = some 1 := by decide +kernel
set_option maxHeartbeats 4000000 in
set_option maxRecDepth 100000 in
theorem c_X8_brother (G : xG) (t : Nat) (row : Nat) (kpt : Nat) (errs : Nat) (bitsOf : Nat) (sizeOf : Nat) (cels : Nat) (broken : Nat) (isFit : Nat) (breaks : Nat) (act : Nat) (wth : Nat) (facts : Nat) (pile : Nat) (trc : Nat) (images : Int32) (mfit : Int32) (known : Int32) (laid : Int32) (hre : Int32) (opnd : Int32) (bad : Int32) (usg : Int32) (trcd : Int32) (isP : Int32) (row_f : Nat → Int32) (errs_f : Nat → Int32) (km : Int32)  (u : (Int32 × (Nat → Int32) × (Nat → Int32))) (hF : F_X8_brother row_f errs_f km = some u) : Ki G .int yX8_brother (Cond.code yX8_brother cX8_brother 3 (some .int) :: TBL) { frames := 2, cells := 0, slots := 0, locals := 42 } [.ref t, .int km] [(t, .inr (8, [.ref row, .ref kpt, .int images, .ref errs, .ref bitsOf, .ref sizeOf, .ref cels, .ref broken, .ref isFit, .ref breaks, .int mfit, .int known, .ref act, .ref wth, .ref facts, .ref pile, .int laid, .int hre, .int opnd, .int bad, .int usg, .ref trc, .int trcd, .int isP])), (row, .inl (xI G, 400, .inl row_f)), (errs, .inl (xI G, 7, .inl errs_f))] [(t, .inr (8, [.ref row, .ref kpt, .int images, .ref errs, .ref bitsOf, .ref sizeOf, .ref cels, .ref broken, .ref isFit, .ref breaks, .int mfit, .int known, .ref act, .ref wth, .ref facts, .ref pile, .int laid, .int hre, .int opnd, .int bad, .int usg, .ref trc, .int trcd, .int isP])), (row, .inl (xI G, 400, .inl u.2.1)), (errs, .inl (xI G, 7, .inl u.2.2))] u.1 := by
  intro l sz
  refine Met.ofW (cc := cX8_brother) (maxL := 3) (ret := (some .int)) (by decide) rfl ?_
  intro p e s m args below meth c s₁ B hml hv
  obtain ⟨rfl, hsz, hP, hD0, hm⟩ := hv
  have hx := B.exec
  have hb := B.bytes
  have hr := B.returns
  have hts := atoms_spec (ws := Cond.code yX8_brother cX8_brother 3 (some .int) :: TBL) B.pre
  have hown : s.vm.findClass RX8 = some m.cls := findClass_of_methodNamed B.named
  have hlocks := B.notSynchronized
  subst hsz
  have hD := hD0.self (sz := s.heap.size)
  generalize hAe : va_A [(t, .inr (8, [.ref row, .ref kpt, .int images, .ref errs, .ref bitsOf, .ref sizeOf, .ref cels, .ref broken, .ref isFit, .ref breaks, .int mfit, .int known, .ref act, .ref wth, .ref facts, .ref pile, .int laid, .int hre, .int opnd, .int bad, .int usg, .ref trc, .int trcd, .int isP])), (row, .inl (xI G, 400, .inl row_f)), (errs, .inl (xI G, 7, .inl errs_f))] s.heap.size = A at hD hm ⊢
  have hA : ∀ q : Nat, s.heap.size ≤ q → A q := fun q h => by rw [← hAe]; exact Or.inr h
  have hK := hm.1
  have hZ : xAnd p m c cX8_brother 3 s _ (Cond.code yX8_brother cX8_brother 3 (some .int) :: TBL) RX8 G A := ⟨⟨hx, hb, hml, hown, hts⟩, tcons, hA, hm⟩
  have hP : va_P G.1 vwCl [(t, .inr (8, [.ref row, .ref kpt, .int images, .ref errs, .ref bitsOf, .ref sizeOf, .ref cels, .ref broken, .ref isFit, .ref breaks, .int mfit, .int known, .ref act, .ref wth, .ref facts, .ref pile, .int laid, .int hre, .int opnd, .int bad, .int usg, .ref trc, .int trcd, .int isP])), (row, .inl (xI G, 400, .inl row_f)), (errs, .inl (xI G, 7, .inl errs_f))] s.heap := hP
  have hl := lv_entry ([.ref t, .int km]) (n := 3) (Nat.le_of_ble_eq_true rfl)
  rw [lg_entry_eq]
  generalize (lg_sl ([.ref t, .int km]) ++ List.replicate (3 - (lg_sl ([.ref t, .int km])).length) Slot.unset).toArray = ls at hl ⊢
  have hl : lv_has ls 3 [(0, .ref t), (1, .int km)] := hl
  generalize hQ : MQ below _ _ s _ _ _ = Q
  refine xGo (A := A) hP (fun H locs hP hS => ?_)
  unfold F_X8_brother at hF
  refine lv_iload_n hx hb dX8_brother_0 rfl (lv_at hl 1 rfl) ?_
  obtain ⟨u1, e1, hF⟩ := bdS hF
  refine xEndI (xRunS (As := [.int km]) (rest := []) hZ (c_X8_isKm G km u1 e1 l H.size) m187 m188 m5 m189 1 hdX8_isKm ⟨Nat.le_of_ble_eq_true rfl, Nat.le_of_ble_eq_true rfl⟩ ⟨rfl, rfl⟩ hP hD hS [] rfl rfl rfl hl.1 rfl (Nat.le_of_ble_eq_true rfl) dX8_brother_1 ⟨Nat.zero_le _, Nat.zero_le _⟩) hP hD hS hA [] rfl rfl rfl (fun H locs n1 hP hD hS => ?_)
  have hP : va_P G.1 vwCl [(t, .inr (8, [.ref row, .ref kpt, .int images, .ref errs, .ref bitsOf, .ref sizeOf, .ref cels, .ref broken, .ref isFit, .ref breaks, .int mfit, .int known, .ref act, .ref wth, .ref facts, .ref pile, .int laid, .int hre, .int opnd, .int bad, .int usg, .ref trc, .int trcd, .int isP])), (row, .inl (xI G, 400, .inl row_f)), (errs, .inl (xI G, 7, .inl errs_f))] H := hP
  have hD : va_D A [(t, .inr (8, [.ref row, .ref kpt, .int images, .ref errs, .ref bitsOf, .ref sizeOf, .ref cels, .ref broken, .ref isFit, .ref breaks, .int mfit, .int known, .ref act, .ref wth, .ref facts, .ref pile, .int laid, .int hre, .int opnd, .int bad, .int usg, .ref trc, .int trcd, .int isP])), (row, .inl (xI G, 400, .inl row_f)), (errs, .inl (xI G, 7, .inl errs_f))] := hD
  refine lv_if_ne (tgt := 14) hx hb dX8_brother_4 (by decide) (fun c4 => ?_) (fun c4 => ?_)
  · have hF := itN c4 hF
    refine lv_aload_n hx hb dX8_brother_14 rfl (lv_at hl 0 rfl) ?_
    refine va_get (ci := 8) (v := .ref row) (C := RX8) (T := TX8) (N := 24) hx hb hts (fun w h => tcons w (xin8 w h)) hown hK hP 0 rfl rfl 0 (by decide) (hts _ (tcons _ m137)) (fun _ h9 => h9) rfl dX8_brother_15 ?_
    refine lv_iconst (v := 2) hx hb dX8_brother_18 (by decide) ?_
    refine va_iald hx hb hK hP 1 0 rfl rfl (by unfold vp_in; decide) dX8_brother_19 ?_
    refine lv_istore_n (lv' := [(2, .int (row_f (2 : Int32).toNatClampNeg)), (0, .ref t), (1, .int km)]) hx hb dX8_brother_20 rfl hl (by decide) rfl (fun ls hl => ?_)
    refine lv_iload_n hx hb dX8_brother_21 rfl (lv_at hl 0 rfl) ?_
    refine lv_bipush (v := 6) hx hb dX8_brother_22 (by decide) ?_
    refine lv_icmp_ne (tgt := 34) hx hb dX8_brother_24 (by decide) (fun c24 => ?_) (fun c24 => ?_)
    · have hF := itN c24 hF
      refine lv_aload_n hx hb dX8_brother_34 rfl (lv_at hl 1 rfl) ?_
      refine va_get (ci := 8) (v := .ref row) (C := RX8) (T := TX8) (N := 24) hx hb hts (fun w h => tcons w (xin8 w h)) hown hK hP 0 rfl rfl 0 (by decide) (hts _ (tcons _ m137)) (fun _ h9 => h9) rfl dX8_brother_35 ?_
      refine lv_iconst (v := 2) hx hb dX8_brother_38 (by decide) ?_
      refine lv_dup2_11 hx hb dX8_brother_39 rfl rfl ?_
      refine va_iald hx hb hK hP 1 0 rfl rfl (by unfold vp_in; decide) dX8_brother_40 ?_
      refine lv_iconst (v := 1) hx hb dX8_brother_41 (by decide) ?_
      refine lv_iadd hx hb dX8_brother_42 ?_
      refine va_iast hx hb hK hP hD hS 1 0 rfl rfl (by unfold vp_in; decide) dX8_brother_43 (fun H locs hP hD hS => ?_)
      have hP : va_P G.1 vwCl [(t, .inr (8, [.ref row, .ref kpt, .int images, .ref errs, .ref bitsOf, .ref sizeOf, .ref cels, .ref broken, .ref isFit, .ref breaks, .int mfit, .int known, .ref act, .ref wth, .ref facts, .ref pile, .int laid, .int hre, .int opnd, .int bad, .int usg, .ref trc, .int trcd, .int isP])), (row, .inl (xI G, 400, .inl (upd row_f (2 : Int32).toNatClampNeg ((row_f (2 : Int32).toNatClampNeg) + (1 : Int32))))), (errs, .inl (xI G, 7, .inl errs_f))] H := hP
      have hD : va_D A [(t, .inr (8, [.ref row, .ref kpt, .int images, .ref errs, .ref bitsOf, .ref sizeOf, .ref cels, .ref broken, .ref isFit, .ref breaks, .int mfit, .int known, .ref act, .ref wth, .ref facts, .ref pile, .int laid, .int hre, .int opnd, .int bad, .int usg, .ref trc, .int trcd, .int isP])), (row, .inl (xI G, 400, .inl (upd row_f (2 : Int32).toNatClampNeg ((row_f (2 : Int32).toNatClampNeg) + (1 : Int32))))), (errs, .inl (xI G, 7, .inl errs_f))] := hD
      refine lv_aload_n hx hb dX8_brother_44 rfl (lv_at hl 1 rfl) ?_
      refine va_get (ci := 8) (v := .ref row) (C := RX8) (T := TX8) (N := 24) hx hb hts (fun w h => tcons w (xin8 w h)) hown hK hP 0 rfl rfl 0 (by decide) (hts _ (tcons _ m137)) (fun _ h9 => h9) rfl dX8_brother_45 ?_
      refine lv_bipush (v := 8) hx hb dX8_brother_48 (by decide) ?_
      refine lv_iconst (v := 3) hx hb dX8_brother_50 (by decide) ?_
      refine lv_iload_n hx hb dX8_brother_51 rfl (lv_at hl 0 rfl) ?_
      refine lv_imul hx hb dX8_brother_52 ?_
      refine lv_iadd hx hb dX8_brother_53 ?_
      refine lv_iload_n hx hb dX8_brother_54 rfl (lv_at hl 2 rfl) ?_
      refine lv_bipush (v := 10) hx hb dX8_brother_55 (by decide) ?_
      refine lv_idiv hx hb dX8_brother_57 (by decide) ?_
      obtain ⟨g58, hF⟩ := gdS hF
      refine va_iast hx hb hK hP hD hS 1 0 rfl rfl g58 dX8_brother_58 (fun H locs hP hD hS => ?_)
      have hP : va_P G.1 vwCl [(t, .inr (8, [.ref row, .ref kpt, .int images, .ref errs, .ref bitsOf, .ref sizeOf, .ref cels, .ref broken, .ref isFit, .ref breaks, .int mfit, .int known, .ref act, .ref wth, .ref facts, .ref pile, .int laid, .int hre, .int opnd, .int bad, .int usg, .ref trc, .int trcd, .int isP])), (row, .inl (xI G, 400, .inl (upd (upd row_f (2 : Int32).toNatClampNeg ((row_f (2 : Int32).toNatClampNeg) + (1 : Int32))) ((8 : Int32) + ((3 : Int32) * (row_f (2 : Int32).toNatClampNeg))).toNatClampNeg (km / (10 : Int32))))), (errs, .inl (xI G, 7, .inl errs_f))] H := hP
      have hD : va_D A [(t, .inr (8, [.ref row, .ref kpt, .int images, .ref errs, .ref bitsOf, .ref sizeOf, .ref cels, .ref broken, .ref isFit, .ref breaks, .int mfit, .int known, .ref act, .ref wth, .ref facts, .ref pile, .int laid, .int hre, .int opnd, .int bad, .int usg, .ref trc, .int trcd, .int isP])), (row, .inl (xI G, 400, .inl (upd (upd row_f (2 : Int32).toNatClampNeg ((row_f (2 : Int32).toNatClampNeg) + (1 : Int32))) ((8 : Int32) + ((3 : Int32) * (row_f (2 : Int32).toNatClampNeg))).toNatClampNeg (km / (10 : Int32))))), (errs, .inl (xI G, 7, .inl errs_f))] := hD
      refine lv_aload_n hx hb dX8_brother_59 rfl (lv_at hl 1 rfl) ?_
      refine va_get (ci := 8) (v := .ref row) (C := RX8) (T := TX8) (N := 24) hx hb hts (fun w h => tcons w (xin8 w h)) hown hK hP 0 rfl rfl 0 (by decide) (hts _ (tcons _ m137)) (fun _ h9 => h9) rfl dX8_brother_60 ?_
      refine lv_bipush (v := 8) hx hb dX8_brother_63 (by decide) ?_
      refine lv_iconst (v := 3) hx hb dX8_brother_65 (by decide) ?_
      refine lv_iload_n hx hb dX8_brother_66 rfl (lv_at hl 0 rfl) ?_
      refine lv_imul hx hb dX8_brother_67 ?_
      refine lv_iadd hx hb dX8_brother_68 ?_
      refine lv_iconst (v := 1) hx hb dX8_brother_69 (by decide) ?_
      refine lv_iadd hx hb dX8_brother_70 ?_
      refine lv_iload_n hx hb dX8_brother_71 rfl (lv_at hl 2 rfl) ?_
      refine lv_bipush (v := 10) hx hb dX8_brother_72 (by decide) ?_
      refine lv_irem hx hb dX8_brother_74 (by decide) ?_
      obtain ⟨g75, hF⟩ := gdS hF
      refine va_iast hx hb hK hP hD hS 1 0 rfl rfl g75 dX8_brother_75 (fun H locs hP hD hS => ?_)
      have hP : va_P G.1 vwCl [(t, .inr (8, [.ref row, .ref kpt, .int images, .ref errs, .ref bitsOf, .ref sizeOf, .ref cels, .ref broken, .ref isFit, .ref breaks, .int mfit, .int known, .ref act, .ref wth, .ref facts, .ref pile, .int laid, .int hre, .int opnd, .int bad, .int usg, .ref trc, .int trcd, .int isP])), (row, .inl (xI G, 400, .inl (upd (upd (upd row_f (2 : Int32).toNatClampNeg ((row_f (2 : Int32).toNatClampNeg) + (1 : Int32))) ((8 : Int32) + ((3 : Int32) * (row_f (2 : Int32).toNatClampNeg))).toNatClampNeg (km / (10 : Int32))) (((8 : Int32) + ((3 : Int32) * (row_f (2 : Int32).toNatClampNeg))) + (1 : Int32)).toNatClampNeg (km - km / (10 : Int32) * (10 : Int32))))), (errs, .inl (xI G, 7, .inl errs_f))] H := hP
      have hD : va_D A [(t, .inr (8, [.ref row, .ref kpt, .int images, .ref errs, .ref bitsOf, .ref sizeOf, .ref cels, .ref broken, .ref isFit, .ref breaks, .int mfit, .int known, .ref act, .ref wth, .ref facts, .ref pile, .int laid, .int hre, .int opnd, .int bad, .int usg, .ref trc, .int trcd, .int isP])), (row, .inl (xI G, 400, .inl (upd (upd (upd row_f (2 : Int32).toNatClampNeg ((row_f (2 : Int32).toNatClampNeg) + (1 : Int32))) ((8 : Int32) + ((3 : Int32) * (row_f (2 : Int32).toNatClampNeg))).toNatClampNeg (km / (10 : Int32))) (((8 : Int32) + ((3 : Int32) * (row_f (2 : Int32).toNatClampNeg))) + (1 : Int32)).toNatClampNeg (km - km / (10 : Int32) * (10 : Int32))))), (errs, .inl (xI G, 7, .inl errs_f))] := hD
      refine lv_aload_n hx hb dX8_brother_76 rfl (lv_at hl 1 rfl) ?_
      refine va_get (ci := 8) (v := .ref row) (C := RX8) (T := TX8) (N := 24) hx hb hts (fun w h => tcons w (xin8 w h)) hown hK hP 0 rfl rfl 0 (by decide) (hts _ (tcons _ m137)) (fun _ h9 => h9) rfl dX8_brother_77 ?_
      refine lv_bipush (v := 8) hx hb dX8_brother_80 (by decide) ?_
      refine lv_iconst (v := 3) hx hb dX8_brother_82 (by decide) ?_
      refine lv_iload_n hx hb dX8_brother_83 rfl (lv_at hl 0 rfl) ?_
      refine lv_imul hx hb dX8_brother_84 ?_
      refine lv_iadd hx hb dX8_brother_85 ?_
      refine lv_iconst (v := 2) hx hb dX8_brother_86 (by decide) ?_
      refine lv_iadd hx hb dX8_brother_87 ?_
      refine lv_iconst (v := 0) hx hb dX8_brother_88 (by decide) ?_
      obtain ⟨g89, hF⟩ := gdS hF
      refine va_iast hx hb hK hP hD hS 1 0 rfl rfl g89 dX8_brother_89 (fun H locs hP hD hS => ?_)
      have hP : va_P G.1 vwCl [(t, .inr (8, [.ref row, .ref kpt, .int images, .ref errs, .ref bitsOf, .ref sizeOf, .ref cels, .ref broken, .ref isFit, .ref breaks, .int mfit, .int known, .ref act, .ref wth, .ref facts, .ref pile, .int laid, .int hre, .int opnd, .int bad, .int usg, .ref trc, .int trcd, .int isP])), (row, .inl (xI G, 400, .inl (upd (upd (upd (upd row_f (2 : Int32).toNatClampNeg ((row_f (2 : Int32).toNatClampNeg) + (1 : Int32))) ((8 : Int32) + ((3 : Int32) * (row_f (2 : Int32).toNatClampNeg))).toNatClampNeg (km / (10 : Int32))) (((8 : Int32) + ((3 : Int32) * (row_f (2 : Int32).toNatClampNeg))) + (1 : Int32)).toNatClampNeg (km - km / (10 : Int32) * (10 : Int32))) (((8 : Int32) + ((3 : Int32) * (row_f (2 : Int32).toNatClampNeg))) + (2 : Int32)).toNatClampNeg (0 : Int32)))), (errs, .inl (xI G, 7, .inl errs_f))] H := hP
      have hD : va_D A [(t, .inr (8, [.ref row, .ref kpt, .int images, .ref errs, .ref bitsOf, .ref sizeOf, .ref cels, .ref broken, .ref isFit, .ref breaks, .int mfit, .int known, .ref act, .ref wth, .ref facts, .ref pile, .int laid, .int hre, .int opnd, .int bad, .int usg, .ref trc, .int trcd, .int isP])), (row, .inl (xI G, 400, .inl (upd (upd (upd (upd row_f (2 : Int32).toNatClampNeg ((row_f (2 : Int32).toNatClampNeg) + (1 : Int32))) ((8 : Int32) + ((3 : Int32) * (row_f (2 : Int32).toNatClampNeg))).toNatClampNeg (km / (10 : Int32))) (((8 : Int32) + ((3 : Int32) * (row_f (2 : Int32).toNatClampNeg))) + (1 : Int32)).toNatClampNeg (km - km / (10 : Int32) * (10 : Int32))) (((8 : Int32) + ((3 : Int32) * (row_f (2 : Int32).toNatClampNeg))) + (2 : Int32)).toNatClampNeg (0 : Int32)))), (errs, .inl (xI G, 7, .inl errs_f))] := hD
      refine lv_iload_n hx hb dX8_brother_90 rfl (lv_at hl 0 rfl) ?_
      obtain rfl := Option.some.inj hF
      rw [← hQ]
      exact W.iret (v := (row_f (2 : Int32).toNatClampNeg)) hx hb hr (fun t ht hW => ⟨⟨_, (), rfl, ⟨rfl, rfl⟩, xLf hP ht⟩, hS.F ht⟩) hS.2.2 dX8_brother_91
    · have hF := itP c24 hF
      refine lv_aload_n hx hb dX8_brother_27 rfl (lv_at hl 1 rfl) ?_
      refine lv_ldc (v := -1000000004) hx hb hown (hts _ (tcons _ m186)) dX8_brother_28 ?_
      obtain ⟨u2, e2, hF⟩ := bdS hF
      refine xEndI (xRunV (As := [.int (-1000000004 : Int32)]) (rest := []) hZ (c_X8_error G t row kpt errs bitsOf sizeOf cels broken isFit breaks act wth facts pile trc images mfit known laid hre opnd bad usg trcd isP errs_f (-1000000004 : Int32) u2 e2 l H.size) m193 m194 m195 m5 m196 1 ⟨rfl, hdX8_error⟩ ⟨Nat.le_of_ble_eq_true rfl, Nat.le_of_ble_eq_true rfl⟩ ⟨rfl, rfl⟩ hP hD hS 0 8 rfl rfl rfl [0, 2] rfl rfl rfl hl.1 rfl (Nat.le_of_ble_eq_true rfl) dX8_brother_30 ⟨Nat.zero_le _, Nat.zero_le _⟩) hP hD hS hA [0, 2] rfl rfl rfl (fun H locs n2 hP hD hS => ?_)
      have hP : va_P G.1 vwCl [(t, .inr (8, [.ref row, .ref kpt, .int images, .ref errs, .ref bitsOf, .ref sizeOf, .ref cels, .ref broken, .ref isFit, .ref breaks, .int mfit, .int known, .ref act, .ref wth, .ref facts, .ref pile, .int laid, .int hre, .int opnd, .int bad, .int usg, .ref trc, .int trcd, .int isP])), (row, .inl (xI G, 400, .inl row_f)), (errs, .inl (xI G, 7, .inl u2.2))] H := hP
      have hD : va_D A [(t, .inr (8, [.ref row, .ref kpt, .int images, .ref errs, .ref bitsOf, .ref sizeOf, .ref cels, .ref broken, .ref isFit, .ref breaks, .int mfit, .int known, .ref act, .ref wth, .ref facts, .ref pile, .int laid, .int hre, .int opnd, .int bad, .int usg, .ref trc, .int trcd, .int isP])), (row, .inl (xI G, 400, .inl row_f)), (errs, .inl (xI G, 7, .inl u2.2))] := hD
      obtain rfl := Option.some.inj hF
      rw [← hQ]
      exact W.iret (v := u2.1) hx hb hr (fun t ht hW => ⟨⟨_, (), rfl, ⟨rfl, rfl⟩, xLf hP ht⟩, hS.F ht⟩) hS.2.2 dX8_brother_33
  · have hF := itP c4 hF
    refine lv_aload_n hx hb dX8_brother_7 rfl (lv_at hl 0 rfl) ?_
    refine lv_ldc (v := -1000000001) hx hb hown (hts _ (tcons _ m185)) dX8_brother_8 ?_
    obtain ⟨u2, e2, hF⟩ := bdS hF
    refine xEndI (xRunV (As := [.int (-1000000001 : Int32)]) (rest := []) hZ (c_X8_error G t row kpt errs bitsOf sizeOf cels broken isFit breaks act wth facts pile trc images mfit known laid hre opnd bad usg trcd isP errs_f (-1000000001 : Int32) u2 e2 l H.size) m193 m194 m195 m5 m196 1 ⟨rfl, hdX8_error⟩ ⟨Nat.le_of_ble_eq_true rfl, Nat.le_of_ble_eq_true rfl⟩ ⟨rfl, rfl⟩ hP hD hS 0 8 rfl rfl rfl [0, 2] rfl rfl rfl hl.1 rfl (Nat.le_of_ble_eq_true rfl) dX8_brother_10 ⟨Nat.zero_le _, Nat.zero_le _⟩) hP hD hS hA [0, 2] rfl rfl rfl (fun H locs n2 hP hD hS => ?_)
    have hP : va_P G.1 vwCl [(t, .inr (8, [.ref row, .ref kpt, .int images, .ref errs, .ref bitsOf, .ref sizeOf, .ref cels, .ref broken, .ref isFit, .ref breaks, .int mfit, .int known, .ref act, .ref wth, .ref facts, .ref pile, .int laid, .int hre, .int opnd, .int bad, .int usg, .ref trc, .int trcd, .int isP])), (row, .inl (xI G, 400, .inl row_f)), (errs, .inl (xI G, 7, .inl u2.2))] H := hP
    have hD : va_D A [(t, .inr (8, [.ref row, .ref kpt, .int images, .ref errs, .ref bitsOf, .ref sizeOf, .ref cels, .ref broken, .ref isFit, .ref breaks, .int mfit, .int known, .ref act, .ref wth, .ref facts, .ref pile, .int laid, .int hre, .int opnd, .int bad, .int usg, .ref trc, .int trcd, .int isP])), (row, .inl (xI G, 400, .inl row_f)), (errs, .inl (xI G, 7, .inl u2.2))] := hD
    obtain rfl := Option.some.inj hF
    rw [← hQ]
    exact W.iret (v := u2.1) hx hb hr (fun t ht hW => ⟨⟨_, (), rfl, ⟨rfl, rfl⟩, xLf hP ht⟩, hS.F ht⟩) hS.2.2 dX8_brother_13
def F_X8_brotherIs (mfit : Int32) (known : Int32) (row_f : Nat → Int32) (errs_f : Nat → Int32) (broken_f : Nat → Int64) (isFit_f : Nat → Int32) (breaks_f : Nat → Int32) (facts_f : Nat → Int32) (pile_f : Nat → Int32) (br : Int32) (wh : Int32) : Option (Int32 × Int32 × Int32 × (Nat → Int32) × (Nat → Int32) × (Nat → Int32) × (Nat → Int32) × (Nat → Int32)) := bd (F_X8_isBrother row_f br) (fun (u1 : Int32) => if u1 = 0 then (bd (F_X8_error errs_f (-1000000001 : Int32)) (fun (u2 : (Int32 × (Nat → Int32))) => some (u2.1, mfit, known, u2.2, isFit_f, breaks_f, facts_f, pile_f))) else (bd (F_X8_in wh (0 : Int32) (3 : Int32)) (fun (u2 : Int32) => if u2 = 0 then (bd (F_X8_error errs_f (-1000000001 : Int32)) (fun (u3 : (Int32 × (Nat → Int32))) => some (u3.1, mfit, known, u3.2, isFit_f, breaks_f, facts_f, pile_f))) else (if (3 : Int32) ≤ wh then (bd (F_X8_avoided mfit known row_f broken_f isFit_f breaks_f facts_f pile_f br) (fun (u3 : (Int32 × Int32 × Int32 × (Nat → Int32) × (Nat → Int32) × (Nat → Int32) × (Nat → Int32))) => some (u3.1, u3.2.1, u3.2.2.1, errs_f, u3.2.2.2.1, u3.2.2.2.2.1, u3.2.2.2.2.2.1, u3.2.2.2.2.2.2))) else (bd (F_X8_of row_f br wh) (fun (u3 : Int32) => some (u3, mfit, known, errs_f, isFit_f, breaks_f, facts_f, pile_f)))))))
theorem hdX8_brotherIs : yX8_brotherIs.cls ≠ "java/lang/invoke/MethodHandle" ∧ yX8_brotherIs.cls ≠ "java/lang/invoke/VarHandle" ∧ (parseMethodDescriptor yX8_brotherIs.desc).map (fun d => d.parameters.length) = some 2 := by decide +kernel
set_option maxHeartbeats 4000000 in
set_option maxRecDepth 100000 in
theorem c_X8_brotherIs (G : xG) (t : Nat) (row : Nat) (kpt : Nat) (errs : Nat) (bitsOf : Nat) (sizeOf : Nat) (cels : Nat) (broken : Nat) (isFit : Nat) (breaks : Nat) (act : Nat) (wth : Nat) (facts : Nat) (pile : Nat) (trc : Nat) (images : Int32) (mfit : Int32) (known : Int32) (laid : Int32) (hre : Int32) (opnd : Int32) (bad : Int32) (usg : Int32) (trcd : Int32) (isP : Int32) (row_f : Nat → Int32) (errs_f : Nat → Int32) (broken_f : Nat → Int64) (isFit_f : Nat → Int32) (breaks_f : Nat → Int32) (facts_f : Nat → Int32) (pile_f : Nat → Int32) (br : Int32) (wh : Int32)  (u : (Int32 × Int32 × Int32 × (Nat → Int32) × (Nat → Int32) × (Nat → Int32) × (Nat → Int32) × (Nat → Int32))) (hF : F_X8_brotherIs mfit known row_f errs_f broken_f isFit_f breaks_f facts_f pile_f br wh = some u) : Ki G .int yX8_brotherIs (Cond.code yX8_brotherIs cX8_brotherIs 3 (some .int) :: TBL) { frames := 7, cells := 0, slots := 0, locals := 160 } [.ref t, .int br, .int wh] [(t, .inr (8, [.ref row, .ref kpt, .int images, .ref errs, .ref bitsOf, .ref sizeOf, .ref cels, .ref broken, .ref isFit, .ref breaks, .int mfit, .int known, .ref act, .ref wth, .ref facts, .ref pile, .int laid, .int hre, .int opnd, .int bad, .int usg, .ref trc, .int trcd, .int isP])), (row, .inl (xI G, 400, .inl row_f)), (errs, .inl (xI G, 7, .inl errs_f)), (broken, .inl (xJ G, 729, .inr (.inl broken_f))), (isFit, .inl (xZ G, 729, .inl isFit_f)), (breaks, .inl (xI G, 64, .inl breaks_f)), (facts, .inl (xI G, 3, .inl facts_f)), (pile, .inl (xI G, 60, .inl pile_f))] [(t, .inr (8, [.ref row, .ref kpt, .int images, .ref errs, .ref bitsOf, .ref sizeOf, .ref cels, .ref broken, .ref isFit, .ref breaks, .int u.2.1, .int u.2.2.1, .ref act, .ref wth, .ref facts, .ref pile, .int laid, .int hre, .int opnd, .int bad, .int usg, .ref trc, .int trcd, .int isP])), (row, .inl (xI G, 400, .inl row_f)), (errs, .inl (xI G, 7, .inl u.2.2.2.1)), (broken, .inl (xJ G, 729, .inr (.inl broken_f))), (isFit, .inl (xZ G, 729, .inl u.2.2.2.2.1)), (breaks, .inl (xI G, 64, .inl u.2.2.2.2.2.1)), (facts, .inl (xI G, 3, .inl u.2.2.2.2.2.2.1)), (pile, .inl (xI G, 60, .inl u.2.2.2.2.2.2.2))] u.1 := by
  intro l sz
  refine Met.ofW (cc := cX8_brotherIs) (maxL := 3) (ret := (some .int)) (by decide) rfl ?_
  intro p e s m args below meth c s₁ B hml hv
  obtain ⟨rfl, hsz, hP, hD0, hm⟩ := hv
  have hx := B.exec
  have hb := B.bytes
  have hr := B.returns
  have hts := atoms_spec (ws := Cond.code yX8_brotherIs cX8_brotherIs 3 (some .int) :: TBL) B.pre
  have hown : s.vm.findClass RX8 = some m.cls := findClass_of_methodNamed B.named
  have hlocks := B.notSynchronized
  subst hsz
  have hD := hD0.self (sz := s.heap.size)
  generalize hAe : va_A [(t, .inr (8, [.ref row, .ref kpt, .int images, .ref errs, .ref bitsOf, .ref sizeOf, .ref cels, .ref broken, .ref isFit, .ref breaks, .int mfit, .int known, .ref act, .ref wth, .ref facts, .ref pile, .int laid, .int hre, .int opnd, .int bad, .int usg, .ref trc, .int trcd, .int isP])), (row, .inl (xI G, 400, .inl row_f)), (errs, .inl (xI G, 7, .inl errs_f)), (broken, .inl (xJ G, 729, .inr (.inl broken_f))), (isFit, .inl (xZ G, 729, .inl isFit_f)), (breaks, .inl (xI G, 64, .inl breaks_f)), (facts, .inl (xI G, 3, .inl facts_f)), (pile, .inl (xI G, 60, .inl pile_f))] s.heap.size = A at hD hm ⊢
  have hA : ∀ q : Nat, s.heap.size ≤ q → A q := fun q h => by rw [← hAe]; exact Or.inr h
  have hK := hm.1
  have hZ : xAnd p m c cX8_brotherIs 3 s _ (Cond.code yX8_brotherIs cX8_brotherIs 3 (some .int) :: TBL) RX8 G A := ⟨⟨hx, hb, hml, hown, hts⟩, tcons, hA, hm⟩
  have hP : va_P G.1 vwCl [(t, .inr (8, [.ref row, .ref kpt, .int images, .ref errs, .ref bitsOf, .ref sizeOf, .ref cels, .ref broken, .ref isFit, .ref breaks, .int mfit, .int known, .ref act, .ref wth, .ref facts, .ref pile, .int laid, .int hre, .int opnd, .int bad, .int usg, .ref trc, .int trcd, .int isP])), (row, .inl (xI G, 400, .inl row_f)), (errs, .inl (xI G, 7, .inl errs_f)), (broken, .inl (xJ G, 729, .inr (.inl broken_f))), (isFit, .inl (xZ G, 729, .inl isFit_f)), (breaks, .inl (xI G, 64, .inl breaks_f)), (facts, .inl (xI G, 3, .inl facts_f)), (pile, .inl (xI G, 60, .inl pile_f))] s.heap := hP
  have hl := lv_entry ([.ref t, .int br, .int wh]) (n := 3) (Nat.le_of_ble_eq_true rfl)
  rw [lg_entry_eq]
  generalize (lg_sl ([.ref t, .int br, .int wh]) ++ List.replicate (3 - (lg_sl ([.ref t, .int br, .int wh])).length) Slot.unset).toArray = ls at hl ⊢
  have hl : lv_has ls 3 [(0, .ref t), (1, .int br), (2, .int wh)] := hl
  generalize hQ : MQ below _ _ s _ _ _ = Q
  refine xGo (A := A) hP (fun H locs hP hS => ?_)
  unfold F_X8_brotherIs at hF
  refine lv_aload_n hx hb dX8_brotherIs_0 rfl (lv_at hl 0 rfl) ?_
  refine lv_iload_n hx hb dX8_brotherIs_1 rfl (lv_at hl 1 rfl) ?_
  obtain ⟨u1, e1, hF⟩ := bdS hF
  refine xEndI (xRunV (As := [.int br]) (rest := []) hZ (c_X8_isBrother G t row kpt errs bitsOf sizeOf cels broken isFit breaks act wth facts pile trc images mfit known laid hre opnd bad usg trcd isP row_f br u1 e1 l H.size) m287 m288 m289 m5 m290 1 ⟨rfl, hdX8_isBrother⟩ ⟨Nat.le_of_ble_eq_true rfl, Nat.le_of_ble_eq_true rfl⟩ ⟨rfl, rfl⟩ hP hD hS 0 8 rfl rfl rfl [0, 1] rfl rfl rfl hl.1 rfl (Nat.le_of_ble_eq_true rfl) dX8_brotherIs_2 ⟨Nat.zero_le _, Nat.zero_le _⟩) hP hD hS hA [0, 1] rfl rfl rfl (fun H locs n1 hP hD hS => ?_)
  have hP : va_P G.1 vwCl [(t, .inr (8, [.ref row, .ref kpt, .int images, .ref errs, .ref bitsOf, .ref sizeOf, .ref cels, .ref broken, .ref isFit, .ref breaks, .int mfit, .int known, .ref act, .ref wth, .ref facts, .ref pile, .int laid, .int hre, .int opnd, .int bad, .int usg, .ref trc, .int trcd, .int isP])), (row, .inl (xI G, 400, .inl row_f)), (errs, .inl (xI G, 7, .inl errs_f)), (broken, .inl (xJ G, 729, .inr (.inl broken_f))), (isFit, .inl (xZ G, 729, .inl isFit_f)), (breaks, .inl (xI G, 64, .inl breaks_f)), (facts, .inl (xI G, 3, .inl facts_f)), (pile, .inl (xI G, 60, .inl pile_f))] H := hP
  have hD : va_D A [(t, .inr (8, [.ref row, .ref kpt, .int images, .ref errs, .ref bitsOf, .ref sizeOf, .ref cels, .ref broken, .ref isFit, .ref breaks, .int mfit, .int known, .ref act, .ref wth, .ref facts, .ref pile, .int laid, .int hre, .int opnd, .int bad, .int usg, .ref trc, .int trcd, .int isP])), (row, .inl (xI G, 400, .inl row_f)), (errs, .inl (xI G, 7, .inl errs_f)), (broken, .inl (xJ G, 729, .inr (.inl broken_f))), (isFit, .inl (xZ G, 729, .inl isFit_f)), (breaks, .inl (xI G, 64, .inl breaks_f)), (facts, .inl (xI G, 3, .inl facts_f)), (pile, .inl (xI G, 60, .inl pile_f))] := hD
  refine lv_if_eq (tgt := 17) hx hb dX8_brotherIs_5 (by decide) (fun c5 => ?_) (fun c5 => ?_)
  · have hF := itP c5 hF
    refine lv_aload_n hx hb dX8_brotherIs_17 rfl (lv_at hl 0 rfl) ?_
    refine lv_ldc (v := -1000000001) hx hb hown (hts _ (tcons _ m185)) dX8_brotherIs_18 ?_
    obtain ⟨u2, e2, hF⟩ := bdS hF
    refine xEndI (xRunV (As := [.int (-1000000001 : Int32)]) (rest := []) hZ (c_X8_error G t row kpt errs bitsOf sizeOf cels broken isFit breaks act wth facts pile trc images mfit known laid hre opnd bad usg trcd isP errs_f (-1000000001 : Int32) u2 e2 l H.size) m193 m194 m195 m5 m196 1 ⟨rfl, hdX8_error⟩ ⟨Nat.le_of_ble_eq_true rfl, Nat.le_of_ble_eq_true rfl⟩ ⟨rfl, rfl⟩ hP hD hS 0 8 rfl rfl rfl [0, 2] rfl rfl rfl hl.1 rfl (Nat.le_of_ble_eq_true rfl) dX8_brotherIs_20 ⟨Nat.zero_le _, Nat.zero_le _⟩) hP hD hS hA [0, 2] rfl rfl rfl (fun H locs n2 hP hD hS => ?_)
    have hP : va_P G.1 vwCl [(t, .inr (8, [.ref row, .ref kpt, .int images, .ref errs, .ref bitsOf, .ref sizeOf, .ref cels, .ref broken, .ref isFit, .ref breaks, .int mfit, .int known, .ref act, .ref wth, .ref facts, .ref pile, .int laid, .int hre, .int opnd, .int bad, .int usg, .ref trc, .int trcd, .int isP])), (row, .inl (xI G, 400, .inl row_f)), (errs, .inl (xI G, 7, .inl u2.2)), (broken, .inl (xJ G, 729, .inr (.inl broken_f))), (isFit, .inl (xZ G, 729, .inl isFit_f)), (breaks, .inl (xI G, 64, .inl breaks_f)), (facts, .inl (xI G, 3, .inl facts_f)), (pile, .inl (xI G, 60, .inl pile_f))] H := hP
    have hD : va_D A [(t, .inr (8, [.ref row, .ref kpt, .int images, .ref errs, .ref bitsOf, .ref sizeOf, .ref cels, .ref broken, .ref isFit, .ref breaks, .int mfit, .int known, .ref act, .ref wth, .ref facts, .ref pile, .int laid, .int hre, .int opnd, .int bad, .int usg, .ref trc, .int trcd, .int isP])), (row, .inl (xI G, 400, .inl row_f)), (errs, .inl (xI G, 7, .inl u2.2)), (broken, .inl (xJ G, 729, .inr (.inl broken_f))), (isFit, .inl (xZ G, 729, .inl isFit_f)), (breaks, .inl (xI G, 64, .inl breaks_f)), (facts, .inl (xI G, 3, .inl facts_f)), (pile, .inl (xI G, 60, .inl pile_f))] := hD
    obtain rfl := Option.some.inj hF
    rw [← hQ]
    exact W.iret (v := u2.1) hx hb hr (fun t ht hW => ⟨⟨_, (), rfl, ⟨rfl, rfl⟩, xLf hP ht⟩, hS.F ht⟩) hS.2.2 dX8_brotherIs_23
  · have hF := itN c5 hF
    refine lv_iload_n hx hb dX8_brotherIs_8 rfl (lv_at hl 2 rfl) ?_
    refine lv_iconst (v := 0) hx hb dX8_brotherIs_9 (by decide) ?_
    refine lv_iconst (v := 3) hx hb dX8_brotherIs_10 (by decide) ?_
    obtain ⟨u2, e2, hF⟩ := bdS hF
    refine xEndI (xRunS (As := [.int wh, .int (0 : Int32), .int (3 : Int32)]) (rest := []) hZ (c_X8_in G wh (0 : Int32) (3 : Int32) u2 e2 l H.size) m190 m191 m5 m192 3 hdX8_in ⟨Nat.le_of_ble_eq_true rfl, Nat.le_of_ble_eq_true rfl⟩ ⟨rfl, rfl⟩ hP hD hS [] rfl rfl rfl hl.1 rfl (Nat.le_of_ble_eq_true rfl) dX8_brotherIs_11 ⟨Nat.zero_le _, Nat.zero_le _⟩) hP hD hS hA [] rfl rfl rfl (fun H locs n2 hP hD hS => ?_)
    have hP : va_P G.1 vwCl [(t, .inr (8, [.ref row, .ref kpt, .int images, .ref errs, .ref bitsOf, .ref sizeOf, .ref cels, .ref broken, .ref isFit, .ref breaks, .int mfit, .int known, .ref act, .ref wth, .ref facts, .ref pile, .int laid, .int hre, .int opnd, .int bad, .int usg, .ref trc, .int trcd, .int isP])), (row, .inl (xI G, 400, .inl row_f)), (errs, .inl (xI G, 7, .inl errs_f)), (broken, .inl (xJ G, 729, .inr (.inl broken_f))), (isFit, .inl (xZ G, 729, .inl isFit_f)), (breaks, .inl (xI G, 64, .inl breaks_f)), (facts, .inl (xI G, 3, .inl facts_f)), (pile, .inl (xI G, 60, .inl pile_f))] H := hP
    have hD : va_D A [(t, .inr (8, [.ref row, .ref kpt, .int images, .ref errs, .ref bitsOf, .ref sizeOf, .ref cels, .ref broken, .ref isFit, .ref breaks, .int mfit, .int known, .ref act, .ref wth, .ref facts, .ref pile, .int laid, .int hre, .int opnd, .int bad, .int usg, .ref trc, .int trcd, .int isP])), (row, .inl (xI G, 400, .inl row_f)), (errs, .inl (xI G, 7, .inl errs_f)), (broken, .inl (xJ G, 729, .inr (.inl broken_f))), (isFit, .inl (xZ G, 729, .inl isFit_f)), (breaks, .inl (xI G, 64, .inl breaks_f)), (facts, .inl (xI G, 3, .inl facts_f)), (pile, .inl (xI G, 60, .inl pile_f))] := hD
    refine lv_if_ne (tgt := 24) hx hb dX8_brotherIs_14 (by decide) (fun c14 => ?_) (fun c14 => ?_)
    · have hF := itN c14 hF
      refine lv_iload_n hx hb dX8_brotherIs_24 rfl (lv_at hl 2 rfl) ?_
      refine lv_iconst (v := 3) hx hb dX8_brotherIs_25 (by decide) ?_
      refine lv_icmp_ge (tgt := 38) hx hb dX8_brotherIs_26 (by decide) (fun c26 => ?_) (fun c26 => ?_)
      · have hF := itP c26 hF
        refine lv_aload_n hx hb dX8_brotherIs_38 rfl (lv_at hl 0 rfl) ?_
        refine lv_iload_n hx hb dX8_brotherIs_39 rfl (lv_at hl 1 rfl) ?_
        obtain ⟨u3, e3, hF⟩ := bdS hF
        refine xEndI (xRunV (As := [.int br]) (rest := []) hZ (c_X8_avoided G t row kpt errs bitsOf sizeOf cels broken isFit breaks act wth facts pile trc images mfit known laid hre opnd bad usg trcd isP row_f broken_f isFit_f breaks_f facts_f pile_f br u3 e3 l H.size) m295 m296 m297 m5 m298 1 ⟨rfl, hdX8_avoided⟩ ⟨Nat.le_of_ble_eq_true rfl, Nat.le_of_ble_eq_true rfl⟩ ⟨rfl, rfl⟩ hP hD hS 0 8 rfl rfl rfl [0, 1, 3, 4, 5, 6, 7] rfl rfl rfl hl.1 rfl (Nat.le_of_ble_eq_true rfl) dX8_brotherIs_40 ⟨Nat.zero_le _, Nat.zero_le _⟩) hP hD hS hA [0, 1, 3, 4, 5, 6, 7] rfl rfl rfl (fun H locs n3 hP hD hS => ?_)
        have hP : va_P G.1 vwCl [(t, .inr (8, [.ref row, .ref kpt, .int images, .ref errs, .ref bitsOf, .ref sizeOf, .ref cels, .ref broken, .ref isFit, .ref breaks, .int u3.2.1, .int u3.2.2.1, .ref act, .ref wth, .ref facts, .ref pile, .int laid, .int hre, .int opnd, .int bad, .int usg, .ref trc, .int trcd, .int isP])), (row, .inl (xI G, 400, .inl row_f)), (errs, .inl (xI G, 7, .inl errs_f)), (broken, .inl (xJ G, 729, .inr (.inl broken_f))), (isFit, .inl (xZ G, 729, .inl u3.2.2.2.1)), (breaks, .inl (xI G, 64, .inl u3.2.2.2.2.1)), (facts, .inl (xI G, 3, .inl u3.2.2.2.2.2.1)), (pile, .inl (xI G, 60, .inl u3.2.2.2.2.2.2))] H := hP
        have hD : va_D A [(t, .inr (8, [.ref row, .ref kpt, .int images, .ref errs, .ref bitsOf, .ref sizeOf, .ref cels, .ref broken, .ref isFit, .ref breaks, .int u3.2.1, .int u3.2.2.1, .ref act, .ref wth, .ref facts, .ref pile, .int laid, .int hre, .int opnd, .int bad, .int usg, .ref trc, .int trcd, .int isP])), (row, .inl (xI G, 400, .inl row_f)), (errs, .inl (xI G, 7, .inl errs_f)), (broken, .inl (xJ G, 729, .inr (.inl broken_f))), (isFit, .inl (xZ G, 729, .inl u3.2.2.2.1)), (breaks, .inl (xI G, 64, .inl u3.2.2.2.2.1)), (facts, .inl (xI G, 3, .inl u3.2.2.2.2.2.1)), (pile, .inl (xI G, 60, .inl u3.2.2.2.2.2.2))] := hD
        obtain rfl := Option.some.inj hF
        rw [← hQ]
        exact W.iret (v := u3.1) hx hb hr (fun t ht hW => ⟨⟨_, (), rfl, ⟨rfl, rfl⟩, xLf hP ht⟩, hS.F ht⟩) hS.2.2 dX8_brotherIs_43
      · have hF := itN c26 hF
        refine lv_aload_n hx hb dX8_brotherIs_29 rfl (lv_at hl 0 rfl) ?_
        refine lv_iload_n hx hb dX8_brotherIs_30 rfl (lv_at hl 1 rfl) ?_
        refine lv_iload_n hx hb dX8_brotherIs_31 rfl (lv_at hl 2 rfl) ?_
        obtain ⟨u3, e3, hF⟩ := bdS hF
        refine xEndI (xRunV (As := [.int br, .int wh]) (rest := []) hZ (c_X8_of G t row kpt errs bitsOf sizeOf cels broken isFit breaks act wth facts pile trc images mfit known laid hre opnd bad usg trcd isP row_f br wh u3 e3 l H.size) m291 m292 m293 m5 m294 2 ⟨rfl, hdX8_of⟩ ⟨Nat.le_of_ble_eq_true rfl, Nat.le_of_ble_eq_true rfl⟩ ⟨rfl, rfl⟩ hP hD hS 0 8 rfl rfl rfl [0, 1] rfl rfl rfl hl.1 rfl (Nat.le_of_ble_eq_true rfl) dX8_brotherIs_32 ⟨Nat.zero_le _, Nat.zero_le _⟩) hP hD hS hA [0, 1] rfl rfl rfl (fun H locs n3 hP hD hS => ?_)
        have hP : va_P G.1 vwCl [(t, .inr (8, [.ref row, .ref kpt, .int images, .ref errs, .ref bitsOf, .ref sizeOf, .ref cels, .ref broken, .ref isFit, .ref breaks, .int mfit, .int known, .ref act, .ref wth, .ref facts, .ref pile, .int laid, .int hre, .int opnd, .int bad, .int usg, .ref trc, .int trcd, .int isP])), (row, .inl (xI G, 400, .inl row_f)), (errs, .inl (xI G, 7, .inl errs_f)), (broken, .inl (xJ G, 729, .inr (.inl broken_f))), (isFit, .inl (xZ G, 729, .inl isFit_f)), (breaks, .inl (xI G, 64, .inl breaks_f)), (facts, .inl (xI G, 3, .inl facts_f)), (pile, .inl (xI G, 60, .inl pile_f))] H := hP
        have hD : va_D A [(t, .inr (8, [.ref row, .ref kpt, .int images, .ref errs, .ref bitsOf, .ref sizeOf, .ref cels, .ref broken, .ref isFit, .ref breaks, .int mfit, .int known, .ref act, .ref wth, .ref facts, .ref pile, .int laid, .int hre, .int opnd, .int bad, .int usg, .ref trc, .int trcd, .int isP])), (row, .inl (xI G, 400, .inl row_f)), (errs, .inl (xI G, 7, .inl errs_f)), (broken, .inl (xJ G, 729, .inr (.inl broken_f))), (isFit, .inl (xZ G, 729, .inl isFit_f)), (breaks, .inl (xI G, 64, .inl breaks_f)), (facts, .inl (xI G, 3, .inl facts_f)), (pile, .inl (xI G, 60, .inl pile_f))] := hD
        refine lv_goto (tgt := 43) hx hb dX8_brotherIs_35 (by decide) ?_
        obtain rfl := Option.some.inj hF
        rw [← hQ]
        exact W.iret (v := u3) hx hb hr (fun t ht hW => ⟨⟨_, (), rfl, ⟨rfl, rfl⟩, xLf hP ht⟩, hS.F ht⟩) hS.2.2 dX8_brotherIs_43
    · have hF := itP c14 hF
      refine lv_aload_n hx hb dX8_brotherIs_17 rfl (lv_at hl 0 rfl) ?_
      refine lv_ldc (v := -1000000001) hx hb hown (hts _ (tcons _ m185)) dX8_brotherIs_18 ?_
      obtain ⟨u3, e3, hF⟩ := bdS hF
      refine xEndI (xRunV (As := [.int (-1000000001 : Int32)]) (rest := []) hZ (c_X8_error G t row kpt errs bitsOf sizeOf cels broken isFit breaks act wth facts pile trc images mfit known laid hre opnd bad usg trcd isP errs_f (-1000000001 : Int32) u3 e3 l H.size) m193 m194 m195 m5 m196 1 ⟨rfl, hdX8_error⟩ ⟨Nat.le_of_ble_eq_true rfl, Nat.le_of_ble_eq_true rfl⟩ ⟨rfl, rfl⟩ hP hD hS 0 8 rfl rfl rfl [0, 2] rfl rfl rfl hl.1 rfl (Nat.le_of_ble_eq_true rfl) dX8_brotherIs_20 ⟨Nat.zero_le _, Nat.zero_le _⟩) hP hD hS hA [0, 2] rfl rfl rfl (fun H locs n3 hP hD hS => ?_)
      have hP : va_P G.1 vwCl [(t, .inr (8, [.ref row, .ref kpt, .int images, .ref errs, .ref bitsOf, .ref sizeOf, .ref cels, .ref broken, .ref isFit, .ref breaks, .int mfit, .int known, .ref act, .ref wth, .ref facts, .ref pile, .int laid, .int hre, .int opnd, .int bad, .int usg, .ref trc, .int trcd, .int isP])), (row, .inl (xI G, 400, .inl row_f)), (errs, .inl (xI G, 7, .inl u3.2)), (broken, .inl (xJ G, 729, .inr (.inl broken_f))), (isFit, .inl (xZ G, 729, .inl isFit_f)), (breaks, .inl (xI G, 64, .inl breaks_f)), (facts, .inl (xI G, 3, .inl facts_f)), (pile, .inl (xI G, 60, .inl pile_f))] H := hP
      have hD : va_D A [(t, .inr (8, [.ref row, .ref kpt, .int images, .ref errs, .ref bitsOf, .ref sizeOf, .ref cels, .ref broken, .ref isFit, .ref breaks, .int mfit, .int known, .ref act, .ref wth, .ref facts, .ref pile, .int laid, .int hre, .int opnd, .int bad, .int usg, .ref trc, .int trcd, .int isP])), (row, .inl (xI G, 400, .inl row_f)), (errs, .inl (xI G, 7, .inl u3.2)), (broken, .inl (xJ G, 729, .inr (.inl broken_f))), (isFit, .inl (xZ G, 729, .inl isFit_f)), (breaks, .inl (xI G, 64, .inl breaks_f)), (facts, .inl (xI G, 3, .inl facts_f)), (pile, .inl (xI G, 60, .inl pile_f))] := hD
      obtain rfl := Option.some.inj hF
      rw [← hQ]
      exact W.iret (v := u3.1) hx hb hr (fun t ht hW => ⟨⟨_, (), rfl, ⟨rfl, rfl⟩, xLf hP ht⟩, hS.F ht⟩) hS.2.2 dX8_brotherIs_23
def F_X8_become (row_f : Nat → Int32) (errs_f : Nat → Int32) (br : Int32) (km : Int32) : Option (Int32 × (Nat → Int32) × (Nat → Int32)) := bd (F_X8_isBrother row_f br) (fun (u1 : Int32) => if u1 = 0 then (bd (F_X8_error errs_f (-1000000001 : Int32)) (fun (u2 : (Int32 × (Nat → Int32))) => some (u2.1, row_f, u2.2))) else (bd (F_X8_isKm km) (fun (u2 : Int32) => if u2 = 0 then (bd (F_X8_error errs_f (-1000000001 : Int32)) (fun (u3 : (Int32 × (Nat → Int32))) => some (u3.1, row_f, u3.2))) else (if ((((8 : Int32) + ((3 : Int32) * br)) + (1 : Int32)) < 0 ∨ 400 ≤ (((8 : Int32) + ((3 : Int32) * br)) + (1 : Int32)).toNatClampNeg) then none else (bd (F_X8_becomes (upd row_f (((8 : Int32) + ((3 : Int32) * br)) + (1 : Int32)).toNatClampNeg (km - km / (10 : Int32) * (10 : Int32))) ((8 : Int32) + ((3 : Int32) * br)) (km / (10 : Int32))) (fun (u3 : (Int32 × (Nat → Int32))) => some (u3.1, u3.2, errs_f)))))))
theorem hdX8_become : yX8_become.cls ≠ "java/lang/invoke/MethodHandle" ∧ yX8_become.cls ≠ "java/lang/invoke/VarHandle" ∧ (parseMethodDescriptor yX8_become.desc).map (fun d => d.parameters.length) = some 2 := by decide +kernel
set_option maxHeartbeats 4000000 in
set_option maxRecDepth 100000 in
theorem c_X8_become (G : xG) (t : Nat) (row : Nat) (kpt : Nat) (errs : Nat) (bitsOf : Nat) (sizeOf : Nat) (cels : Nat) (broken : Nat) (isFit : Nat) (breaks : Nat) (act : Nat) (wth : Nat) (facts : Nat) (pile : Nat) (trc : Nat) (images : Int32) (mfit : Int32) (known : Int32) (laid : Int32) (hre : Int32) (opnd : Int32) (bad : Int32) (usg : Int32) (trcd : Int32) (isP : Int32) (row_f : Nat → Int32) (errs_f : Nat → Int32) (br : Int32) (km : Int32)  (u : (Int32 × (Nat → Int32) × (Nat → Int32))) (hF : F_X8_become row_f errs_f br km = some u) : Ki G .int yX8_become (Cond.code yX8_become cX8_become 3 (some .int) :: TBL) { frames := 2, cells := 0, slots := 0, locals := 43 } [.ref t, .int br, .int km] [(t, .inr (8, [.ref row, .ref kpt, .int images, .ref errs, .ref bitsOf, .ref sizeOf, .ref cels, .ref broken, .ref isFit, .ref breaks, .int mfit, .int known, .ref act, .ref wth, .ref facts, .ref pile, .int laid, .int hre, .int opnd, .int bad, .int usg, .ref trc, .int trcd, .int isP])), (row, .inl (xI G, 400, .inl row_f)), (errs, .inl (xI G, 7, .inl errs_f))] [(t, .inr (8, [.ref row, .ref kpt, .int images, .ref errs, .ref bitsOf, .ref sizeOf, .ref cels, .ref broken, .ref isFit, .ref breaks, .int mfit, .int known, .ref act, .ref wth, .ref facts, .ref pile, .int laid, .int hre, .int opnd, .int bad, .int usg, .ref trc, .int trcd, .int isP])), (row, .inl (xI G, 400, .inl u.2.1)), (errs, .inl (xI G, 7, .inl u.2.2))] u.1 := by
  intro l sz
  refine Met.ofW (cc := cX8_become) (maxL := 3) (ret := (some .int)) (by decide) rfl ?_
  intro p e s m args below meth c s₁ B hml hv
  obtain ⟨rfl, hsz, hP, hD0, hm⟩ := hv
  have hx := B.exec
  have hb := B.bytes
  have hr := B.returns
  have hts := atoms_spec (ws := Cond.code yX8_become cX8_become 3 (some .int) :: TBL) B.pre
  have hown : s.vm.findClass RX8 = some m.cls := findClass_of_methodNamed B.named
  have hlocks := B.notSynchronized
  subst hsz
  have hD := hD0.self (sz := s.heap.size)
  generalize hAe : va_A [(t, .inr (8, [.ref row, .ref kpt, .int images, .ref errs, .ref bitsOf, .ref sizeOf, .ref cels, .ref broken, .ref isFit, .ref breaks, .int mfit, .int known, .ref act, .ref wth, .ref facts, .ref pile, .int laid, .int hre, .int opnd, .int bad, .int usg, .ref trc, .int trcd, .int isP])), (row, .inl (xI G, 400, .inl row_f)), (errs, .inl (xI G, 7, .inl errs_f))] s.heap.size = A at hD hm ⊢
  have hA : ∀ q : Nat, s.heap.size ≤ q → A q := fun q h => by rw [← hAe]; exact Or.inr h
  have hK := hm.1
  have hZ : xAnd p m c cX8_become 3 s _ (Cond.code yX8_become cX8_become 3 (some .int) :: TBL) RX8 G A := ⟨⟨hx, hb, hml, hown, hts⟩, tcons, hA, hm⟩
  have hP : va_P G.1 vwCl [(t, .inr (8, [.ref row, .ref kpt, .int images, .ref errs, .ref bitsOf, .ref sizeOf, .ref cels, .ref broken, .ref isFit, .ref breaks, .int mfit, .int known, .ref act, .ref wth, .ref facts, .ref pile, .int laid, .int hre, .int opnd, .int bad, .int usg, .ref trc, .int trcd, .int isP])), (row, .inl (xI G, 400, .inl row_f)), (errs, .inl (xI G, 7, .inl errs_f))] s.heap := hP
  have hl := lv_entry ([.ref t, .int br, .int km]) (n := 3) (Nat.le_of_ble_eq_true rfl)
  rw [lg_entry_eq]
  generalize (lg_sl ([.ref t, .int br, .int km]) ++ List.replicate (3 - (lg_sl ([.ref t, .int br, .int km])).length) Slot.unset).toArray = ls at hl ⊢
  have hl : lv_has ls 3 [(0, .ref t), (1, .int br), (2, .int km)] := hl
  generalize hQ : MQ below _ _ s _ _ _ = Q
  refine xGo (A := A) hP (fun H locs hP hS => ?_)
  unfold F_X8_become at hF
  refine lv_aload_n hx hb dX8_become_0 rfl (lv_at hl 0 rfl) ?_
  refine lv_iload_n hx hb dX8_become_1 rfl (lv_at hl 1 rfl) ?_
  obtain ⟨u1, e1, hF⟩ := bdS hF
  refine xEndI (xRunV (As := [.int br]) (rest := []) hZ (c_X8_isBrother G t row kpt errs bitsOf sizeOf cels broken isFit breaks act wth facts pile trc images mfit known laid hre opnd bad usg trcd isP row_f br u1 e1 l H.size) m287 m288 m289 m5 m290 1 ⟨rfl, hdX8_isBrother⟩ ⟨Nat.le_of_ble_eq_true rfl, Nat.le_of_ble_eq_true rfl⟩ ⟨rfl, rfl⟩ hP hD hS 0 8 rfl rfl rfl [0, 1] rfl rfl rfl hl.1 rfl (Nat.le_of_ble_eq_true rfl) dX8_become_2 ⟨Nat.zero_le _, Nat.zero_le _⟩) hP hD hS hA [0, 1] rfl rfl rfl (fun H locs n1 hP hD hS => ?_)
  have hP : va_P G.1 vwCl [(t, .inr (8, [.ref row, .ref kpt, .int images, .ref errs, .ref bitsOf, .ref sizeOf, .ref cels, .ref broken, .ref isFit, .ref breaks, .int mfit, .int known, .ref act, .ref wth, .ref facts, .ref pile, .int laid, .int hre, .int opnd, .int bad, .int usg, .ref trc, .int trcd, .int isP])), (row, .inl (xI G, 400, .inl row_f)), (errs, .inl (xI G, 7, .inl errs_f))] H := hP
  have hD : va_D A [(t, .inr (8, [.ref row, .ref kpt, .int images, .ref errs, .ref bitsOf, .ref sizeOf, .ref cels, .ref broken, .ref isFit, .ref breaks, .int mfit, .int known, .ref act, .ref wth, .ref facts, .ref pile, .int laid, .int hre, .int opnd, .int bad, .int usg, .ref trc, .int trcd, .int isP])), (row, .inl (xI G, 400, .inl row_f)), (errs, .inl (xI G, 7, .inl errs_f))] := hD
  refine lv_if_eq (tgt := 15) hx hb dX8_become_5 (by decide) (fun c5 => ?_) (fun c5 => ?_)
  · have hF := itP c5 hF
    refine lv_aload_n hx hb dX8_become_15 rfl (lv_at hl 0 rfl) ?_
    refine lv_ldc (v := -1000000001) hx hb hown (hts _ (tcons _ m185)) dX8_become_16 ?_
    obtain ⟨u2, e2, hF⟩ := bdS hF
    refine xEndI (xRunV (As := [.int (-1000000001 : Int32)]) (rest := []) hZ (c_X8_error G t row kpt errs bitsOf sizeOf cels broken isFit breaks act wth facts pile trc images mfit known laid hre opnd bad usg trcd isP errs_f (-1000000001 : Int32) u2 e2 l H.size) m193 m194 m195 m5 m196 1 ⟨rfl, hdX8_error⟩ ⟨Nat.le_of_ble_eq_true rfl, Nat.le_of_ble_eq_true rfl⟩ ⟨rfl, rfl⟩ hP hD hS 0 8 rfl rfl rfl [0, 2] rfl rfl rfl hl.1 rfl (Nat.le_of_ble_eq_true rfl) dX8_become_18 ⟨Nat.zero_le _, Nat.zero_le _⟩) hP hD hS hA [0, 2] rfl rfl rfl (fun H locs n2 hP hD hS => ?_)
    have hP : va_P G.1 vwCl [(t, .inr (8, [.ref row, .ref kpt, .int images, .ref errs, .ref bitsOf, .ref sizeOf, .ref cels, .ref broken, .ref isFit, .ref breaks, .int mfit, .int known, .ref act, .ref wth, .ref facts, .ref pile, .int laid, .int hre, .int opnd, .int bad, .int usg, .ref trc, .int trcd, .int isP])), (row, .inl (xI G, 400, .inl row_f)), (errs, .inl (xI G, 7, .inl u2.2))] H := hP
    have hD : va_D A [(t, .inr (8, [.ref row, .ref kpt, .int images, .ref errs, .ref bitsOf, .ref sizeOf, .ref cels, .ref broken, .ref isFit, .ref breaks, .int mfit, .int known, .ref act, .ref wth, .ref facts, .ref pile, .int laid, .int hre, .int opnd, .int bad, .int usg, .ref trc, .int trcd, .int isP])), (row, .inl (xI G, 400, .inl row_f)), (errs, .inl (xI G, 7, .inl u2.2))] := hD
    obtain rfl := Option.some.inj hF
    rw [← hQ]
    exact W.iret (v := u2.1) hx hb hr (fun t ht hW => ⟨⟨_, (), rfl, ⟨rfl, rfl⟩, xLf hP ht⟩, hS.F ht⟩) hS.2.2 dX8_become_21
  · have hF := itN c5 hF
    refine lv_iload_n hx hb dX8_become_8 rfl (lv_at hl 2 rfl) ?_
    obtain ⟨u2, e2, hF⟩ := bdS hF
    refine xEndI (xRunS (As := [.int km]) (rest := []) hZ (c_X8_isKm G km u2 e2 l H.size) m187 m188 m5 m189 1 hdX8_isKm ⟨Nat.le_of_ble_eq_true rfl, Nat.le_of_ble_eq_true rfl⟩ ⟨rfl, rfl⟩ hP hD hS [] rfl rfl rfl hl.1 rfl (Nat.le_of_ble_eq_true rfl) dX8_become_9 ⟨Nat.zero_le _, Nat.zero_le _⟩) hP hD hS hA [] rfl rfl rfl (fun H locs n2 hP hD hS => ?_)
    have hP : va_P G.1 vwCl [(t, .inr (8, [.ref row, .ref kpt, .int images, .ref errs, .ref bitsOf, .ref sizeOf, .ref cels, .ref broken, .ref isFit, .ref breaks, .int mfit, .int known, .ref act, .ref wth, .ref facts, .ref pile, .int laid, .int hre, .int opnd, .int bad, .int usg, .ref trc, .int trcd, .int isP])), (row, .inl (xI G, 400, .inl row_f)), (errs, .inl (xI G, 7, .inl errs_f))] H := hP
    have hD : va_D A [(t, .inr (8, [.ref row, .ref kpt, .int images, .ref errs, .ref bitsOf, .ref sizeOf, .ref cels, .ref broken, .ref isFit, .ref breaks, .int mfit, .int known, .ref act, .ref wth, .ref facts, .ref pile, .int laid, .int hre, .int opnd, .int bad, .int usg, .ref trc, .int trcd, .int isP])), (row, .inl (xI G, 400, .inl row_f)), (errs, .inl (xI G, 7, .inl errs_f))] := hD
    refine lv_if_ne (tgt := 22) hx hb dX8_become_12 (by decide) (fun c12 => ?_) (fun c12 => ?_)
    · have hF := itN c12 hF
      refine lv_aload_n hx hb dX8_become_22 rfl (lv_at hl 0 rfl) ?_
      refine va_get (ci := 8) (v := .ref row) (C := RX8) (T := TX8) (N := 24) hx hb hts (fun w h => tcons w (xin8 w h)) hown hK hP 0 rfl rfl 0 (by decide) (hts _ (tcons _ m137)) (fun _ h9 => h9) rfl dX8_become_23 ?_
      refine lv_bipush (v := 8) hx hb dX8_become_26 (by decide) ?_
      refine lv_iconst (v := 3) hx hb dX8_become_28 (by decide) ?_
      refine lv_iload_n hx hb dX8_become_29 rfl (lv_at hl 1 rfl) ?_
      refine lv_imul hx hb dX8_become_30 ?_
      refine lv_iadd hx hb dX8_become_31 ?_
      refine lv_iconst (v := 1) hx hb dX8_become_32 (by decide) ?_
      refine lv_iadd hx hb dX8_become_33 ?_
      refine lv_iload_n hx hb dX8_become_34 rfl (lv_at hl 2 rfl) ?_
      refine lv_bipush (v := 10) hx hb dX8_become_35 (by decide) ?_
      refine lv_irem hx hb dX8_become_37 (by decide) ?_
      obtain ⟨g38, hF⟩ := gdS hF
      refine va_iast hx hb hK hP hD hS 1 0 rfl rfl g38 dX8_become_38 (fun H locs hP hD hS => ?_)
      have hP : va_P G.1 vwCl [(t, .inr (8, [.ref row, .ref kpt, .int images, .ref errs, .ref bitsOf, .ref sizeOf, .ref cels, .ref broken, .ref isFit, .ref breaks, .int mfit, .int known, .ref act, .ref wth, .ref facts, .ref pile, .int laid, .int hre, .int opnd, .int bad, .int usg, .ref trc, .int trcd, .int isP])), (row, .inl (xI G, 400, .inl (upd row_f (((8 : Int32) + ((3 : Int32) * br)) + (1 : Int32)).toNatClampNeg (km - km / (10 : Int32) * (10 : Int32))))), (errs, .inl (xI G, 7, .inl errs_f))] H := hP
      have hD : va_D A [(t, .inr (8, [.ref row, .ref kpt, .int images, .ref errs, .ref bitsOf, .ref sizeOf, .ref cels, .ref broken, .ref isFit, .ref breaks, .int mfit, .int known, .ref act, .ref wth, .ref facts, .ref pile, .int laid, .int hre, .int opnd, .int bad, .int usg, .ref trc, .int trcd, .int isP])), (row, .inl (xI G, 400, .inl (upd row_f (((8 : Int32) + ((3 : Int32) * br)) + (1 : Int32)).toNatClampNeg (km - km / (10 : Int32) * (10 : Int32))))), (errs, .inl (xI G, 7, .inl errs_f))] := hD
      refine lv_aload_n hx hb dX8_become_39 rfl (lv_at hl 0 rfl) ?_
      refine lv_bipush (v := 8) hx hb dX8_become_40 (by decide) ?_
      refine lv_iconst (v := 3) hx hb dX8_become_42 (by decide) ?_
      refine lv_iload_n hx hb dX8_become_43 rfl (lv_at hl 1 rfl) ?_
      refine lv_imul hx hb dX8_become_44 ?_
      refine lv_iadd hx hb dX8_become_45 ?_
      refine lv_iload_n hx hb dX8_become_46 rfl (lv_at hl 2 rfl) ?_
      refine lv_bipush (v := 10) hx hb dX8_become_47 (by decide) ?_
      refine lv_idiv hx hb dX8_become_49 (by decide) ?_
      obtain ⟨u3, e3, hF⟩ := bdS hF
      refine xEndI (xRunV (As := [.int ((8 : Int32) + ((3 : Int32) * br)), .int (km / (10 : Int32))]) (rest := []) hZ (c_X8_becomes G t row kpt errs bitsOf sizeOf cels broken isFit breaks act wth facts pile trc images mfit known laid hre opnd bad usg trcd isP (upd row_f (((8 : Int32) + ((3 : Int32) * br)) + (1 : Int32)).toNatClampNeg (km - km / (10 : Int32) * (10 : Int32))) ((8 : Int32) + ((3 : Int32) * br)) (km / (10 : Int32)) u3 e3 l H.size) m351 m352 m353 m5 m354 2 ⟨rfl, hdX8_becomes⟩ ⟨Nat.le_of_ble_eq_true rfl, Nat.le_of_ble_eq_true rfl⟩ ⟨rfl, rfl⟩ hP hD hS 0 8 rfl rfl rfl [0, 1] rfl rfl rfl hl.1 rfl (Nat.le_of_ble_eq_true rfl) dX8_become_50 ⟨Nat.zero_le _, Nat.zero_le _⟩) hP hD hS hA [0, 1] rfl rfl rfl (fun H locs n3 hP hD hS => ?_)
      have hP : va_P G.1 vwCl [(t, .inr (8, [.ref row, .ref kpt, .int images, .ref errs, .ref bitsOf, .ref sizeOf, .ref cels, .ref broken, .ref isFit, .ref breaks, .int mfit, .int known, .ref act, .ref wth, .ref facts, .ref pile, .int laid, .int hre, .int opnd, .int bad, .int usg, .ref trc, .int trcd, .int isP])), (row, .inl (xI G, 400, .inl u3.2)), (errs, .inl (xI G, 7, .inl errs_f))] H := hP
      have hD : va_D A [(t, .inr (8, [.ref row, .ref kpt, .int images, .ref errs, .ref bitsOf, .ref sizeOf, .ref cels, .ref broken, .ref isFit, .ref breaks, .int mfit, .int known, .ref act, .ref wth, .ref facts, .ref pile, .int laid, .int hre, .int opnd, .int bad, .int usg, .ref trc, .int trcd, .int isP])), (row, .inl (xI G, 400, .inl u3.2)), (errs, .inl (xI G, 7, .inl errs_f))] := hD
      obtain rfl := Option.some.inj hF
      rw [← hQ]
      exact W.iret (v := u3.1) hx hb hr (fun t ht hW => ⟨⟨_, (), rfl, ⟨rfl, rfl⟩, xLf hP ht⟩, hS.F ht⟩) hS.2.2 dX8_become_53
    · have hF := itP c12 hF
      refine lv_aload_n hx hb dX8_become_15 rfl (lv_at hl 0 rfl) ?_
      refine lv_ldc (v := -1000000001) hx hb hown (hts _ (tcons _ m185)) dX8_become_16 ?_
      obtain ⟨u3, e3, hF⟩ := bdS hF
      refine xEndI (xRunV (As := [.int (-1000000001 : Int32)]) (rest := []) hZ (c_X8_error G t row kpt errs bitsOf sizeOf cels broken isFit breaks act wth facts pile trc images mfit known laid hre opnd bad usg trcd isP errs_f (-1000000001 : Int32) u3 e3 l H.size) m193 m194 m195 m5 m196 1 ⟨rfl, hdX8_error⟩ ⟨Nat.le_of_ble_eq_true rfl, Nat.le_of_ble_eq_true rfl⟩ ⟨rfl, rfl⟩ hP hD hS 0 8 rfl rfl rfl [0, 2] rfl rfl rfl hl.1 rfl (Nat.le_of_ble_eq_true rfl) dX8_become_18 ⟨Nat.zero_le _, Nat.zero_le _⟩) hP hD hS hA [0, 2] rfl rfl rfl (fun H locs n3 hP hD hS => ?_)
      have hP : va_P G.1 vwCl [(t, .inr (8, [.ref row, .ref kpt, .int images, .ref errs, .ref bitsOf, .ref sizeOf, .ref cels, .ref broken, .ref isFit, .ref breaks, .int mfit, .int known, .ref act, .ref wth, .ref facts, .ref pile, .int laid, .int hre, .int opnd, .int bad, .int usg, .ref trc, .int trcd, .int isP])), (row, .inl (xI G, 400, .inl row_f)), (errs, .inl (xI G, 7, .inl u3.2))] H := hP
      have hD : va_D A [(t, .inr (8, [.ref row, .ref kpt, .int images, .ref errs, .ref bitsOf, .ref sizeOf, .ref cels, .ref broken, .ref isFit, .ref breaks, .int mfit, .int known, .ref act, .ref wth, .ref facts, .ref pile, .int laid, .int hre, .int opnd, .int bad, .int usg, .ref trc, .int trcd, .int isP])), (row, .inl (xI G, 400, .inl row_f)), (errs, .inl (xI G, 7, .inl u3.2))] := hD
      obtain rfl := Option.some.inj hF
      rw [← hQ]
      exact W.iret (v := u3.1) hx hb hr (fun t ht hW => ⟨⟨_, (), rfl, ⟨rfl, rfl⟩, xLf hP ht⟩, hS.F ht⟩) hS.2.2 dX8_become_21
def F_X8_as (row_f : Nat → Int32) (errs_f : Nat → Int32) (br : Int32) (kd : Int32) : Option (Int32 × (Nat → Int32)) := bd (F_X8_isBrother row_f br) (fun (u1 : Int32) => if u1 = 0 then (bd (F_X8_error errs_f (-1000000001 : Int32)) (fun (u2 : (Int32 × (Nat → Int32))) => some (u2.1, u2.2))) else (bd (F_X8_in kd (0 : Int32) (6 : Int32)) (fun (u2 : Int32) => if u2 = 0 then (bd (F_X8_error errs_f (-1000000001 : Int32)) (fun (u3 : (Int32 × (Nat → Int32))) => some (u3.1, u3.2))) else (bd (F_X8_of row_f br (0 : Int32)) (fun (u3 : Int32) => if kd = 0 then (bd (F_X8_of row_f br (1 : Int32)) (fun (u4 : Int32) => some (u4, errs_f))) else (if kd = u3 then (bd (F_X8_of row_f br (1 : Int32)) (fun (u4 : Int32) => some (u4, errs_f))) else (if kd = (1 : Int32) then (if u3 = (4 : Int32) then (bd (F_X8_of row_f br (1 : Int32)) (fun (u4 : Int32) => some (u4, errs_f))) else (if kd = (2 : Int32) then (if u3 = (5 : Int32) then (bd (F_X8_of row_f br (1 : Int32)) (fun (u4 : Int32) => some (u4, errs_f))) else (bd (F_X8_error errs_f (-1000000005 : Int32)) (fun (u4 : (Int32 × (Nat → Int32))) => some (u4.1, u4.2)))) else (bd (F_X8_error errs_f (-1000000005 : Int32)) (fun (u4 : (Int32 × (Nat → Int32))) => some (u4.1, u4.2))))) else (if kd = (2 : Int32) then (if u3 = (5 : Int32) then (bd (F_X8_of row_f br (1 : Int32)) (fun (u4 : Int32) => some (u4, errs_f))) else (bd (F_X8_error errs_f (-1000000005 : Int32)) (fun (u4 : (Int32 × (Nat → Int32))) => some (u4.1, u4.2)))) else (bd (F_X8_error errs_f (-1000000005 : Int32)) (fun (u4 : (Int32 × (Nat → Int32))) => some (u4.1, u4.2)))))))))))
theorem hdX8_as : yX8_as.cls ≠ "java/lang/invoke/MethodHandle" ∧ yX8_as.cls ≠ "java/lang/invoke/VarHandle" ∧ (parseMethodDescriptor yX8_as.desc).map (fun d => d.parameters.length) = some 2 := by decide +kernel
set_option maxHeartbeats 4000000 in
set_option maxRecDepth 100000 in
theorem c_X8_as (G : xG) (t : Nat) (row : Nat) (kpt : Nat) (errs : Nat) (bitsOf : Nat) (sizeOf : Nat) (cels : Nat) (broken : Nat) (isFit : Nat) (breaks : Nat) (act : Nat) (wth : Nat) (facts : Nat) (pile : Nat) (trc : Nat) (images : Int32) (mfit : Int32) (known : Int32) (laid : Int32) (hre : Int32) (opnd : Int32) (bad : Int32) (usg : Int32) (trcd : Int32) (isP : Int32) (row_f : Nat → Int32) (errs_f : Nat → Int32) (br : Int32) (kd : Int32)  (u : (Int32 × (Nat → Int32))) (hF : F_X8_as row_f errs_f br kd = some u) : Ki G .int yX8_as (Cond.code yX8_as cX8_as 5 (some .int) :: TBL) { frames := 2, cells := 0, slots := 0, locals := 43 } [.ref t, .int br, .int kd] [(t, .inr (8, [.ref row, .ref kpt, .int images, .ref errs, .ref bitsOf, .ref sizeOf, .ref cels, .ref broken, .ref isFit, .ref breaks, .int mfit, .int known, .ref act, .ref wth, .ref facts, .ref pile, .int laid, .int hre, .int opnd, .int bad, .int usg, .ref trc, .int trcd, .int isP])), (row, .inl (xI G, 400, .inl row_f)), (errs, .inl (xI G, 7, .inl errs_f))] [(t, .inr (8, [.ref row, .ref kpt, .int images, .ref errs, .ref bitsOf, .ref sizeOf, .ref cels, .ref broken, .ref isFit, .ref breaks, .int mfit, .int known, .ref act, .ref wth, .ref facts, .ref pile, .int laid, .int hre, .int opnd, .int bad, .int usg, .ref trc, .int trcd, .int isP])), (row, .inl (xI G, 400, .inl row_f)), (errs, .inl (xI G, 7, .inl u.2))] u.1 := by
  intro l sz
  refine Met.ofW (cc := cX8_as) (maxL := 5) (ret := (some .int)) (by decide) rfl ?_
  intro p e s m args below meth c s₁ B hml hv
  obtain ⟨rfl, hsz, hP, hD0, hm⟩ := hv
  have hx := B.exec
  have hb := B.bytes
  have hr := B.returns
  have hts := atoms_spec (ws := Cond.code yX8_as cX8_as 5 (some .int) :: TBL) B.pre
  have hown : s.vm.findClass RX8 = some m.cls := findClass_of_methodNamed B.named
  have hlocks := B.notSynchronized
  subst hsz
  have hD := hD0.self (sz := s.heap.size)
  generalize hAe : va_A [(t, .inr (8, [.ref row, .ref kpt, .int images, .ref errs, .ref bitsOf, .ref sizeOf, .ref cels, .ref broken, .ref isFit, .ref breaks, .int mfit, .int known, .ref act, .ref wth, .ref facts, .ref pile, .int laid, .int hre, .int opnd, .int bad, .int usg, .ref trc, .int trcd, .int isP])), (row, .inl (xI G, 400, .inl row_f)), (errs, .inl (xI G, 7, .inl errs_f))] s.heap.size = A at hD hm ⊢
  have hA : ∀ q : Nat, s.heap.size ≤ q → A q := fun q h => by rw [← hAe]; exact Or.inr h
  have hK := hm.1
  have hZ : xAnd p m c cX8_as 5 s _ (Cond.code yX8_as cX8_as 5 (some .int) :: TBL) RX8 G A := ⟨⟨hx, hb, hml, hown, hts⟩, tcons, hA, hm⟩
  have hP : va_P G.1 vwCl [(t, .inr (8, [.ref row, .ref kpt, .int images, .ref errs, .ref bitsOf, .ref sizeOf, .ref cels, .ref broken, .ref isFit, .ref breaks, .int mfit, .int known, .ref act, .ref wth, .ref facts, .ref pile, .int laid, .int hre, .int opnd, .int bad, .int usg, .ref trc, .int trcd, .int isP])), (row, .inl (xI G, 400, .inl row_f)), (errs, .inl (xI G, 7, .inl errs_f))] s.heap := hP
  have hl := lv_entry ([.ref t, .int br, .int kd]) (n := 5) (Nat.le_of_ble_eq_true rfl)
  rw [lg_entry_eq]
  generalize (lg_sl ([.ref t, .int br, .int kd]) ++ List.replicate (5 - (lg_sl ([.ref t, .int br, .int kd])).length) Slot.unset).toArray = ls at hl ⊢
  have hl : lv_has ls 5 [(0, .ref t), (1, .int br), (2, .int kd)] := hl
  generalize hQ : MQ below _ _ s _ _ _ = Q
  refine xGo (A := A) hP (fun H locs hP hS => ?_)
  unfold F_X8_as at hF
  refine lv_aload_n hx hb dX8_as_0 rfl (lv_at hl 0 rfl) ?_
  refine lv_iload_n hx hb dX8_as_1 rfl (lv_at hl 1 rfl) ?_
  obtain ⟨u1, e1, hF⟩ := bdS hF
  refine xEndI (xRunV (As := [.int br]) (rest := []) hZ (c_X8_isBrother G t row kpt errs bitsOf sizeOf cels broken isFit breaks act wth facts pile trc images mfit known laid hre opnd bad usg trcd isP row_f br u1 e1 l H.size) m287 m288 m289 m5 m290 1 ⟨rfl, hdX8_isBrother⟩ ⟨Nat.le_of_ble_eq_true rfl, Nat.le_of_ble_eq_true rfl⟩ ⟨rfl, rfl⟩ hP hD hS 0 8 rfl rfl rfl [0, 1] rfl rfl rfl hl.1 rfl (Nat.le_of_ble_eq_true rfl) dX8_as_2 ⟨Nat.zero_le _, Nat.zero_le _⟩) hP hD hS hA [0, 1] rfl rfl rfl (fun H locs n1 hP hD hS => ?_)
  have hP : va_P G.1 vwCl [(t, .inr (8, [.ref row, .ref kpt, .int images, .ref errs, .ref bitsOf, .ref sizeOf, .ref cels, .ref broken, .ref isFit, .ref breaks, .int mfit, .int known, .ref act, .ref wth, .ref facts, .ref pile, .int laid, .int hre, .int opnd, .int bad, .int usg, .ref trc, .int trcd, .int isP])), (row, .inl (xI G, 400, .inl row_f)), (errs, .inl (xI G, 7, .inl errs_f))] H := hP
  have hD : va_D A [(t, .inr (8, [.ref row, .ref kpt, .int images, .ref errs, .ref bitsOf, .ref sizeOf, .ref cels, .ref broken, .ref isFit, .ref breaks, .int mfit, .int known, .ref act, .ref wth, .ref facts, .ref pile, .int laid, .int hre, .int opnd, .int bad, .int usg, .ref trc, .int trcd, .int isP])), (row, .inl (xI G, 400, .inl row_f)), (errs, .inl (xI G, 7, .inl errs_f))] := hD
  refine lv_if_eq (tgt := 18) hx hb dX8_as_5 (by decide) (fun c5 => ?_) (fun c5 => ?_)
  · have hF := itP c5 hF
    refine lv_aload_n hx hb dX8_as_18 rfl (lv_at hl 0 rfl) ?_
    refine lv_ldc (v := -1000000001) hx hb hown (hts _ (tcons _ m185)) dX8_as_19 ?_
    obtain ⟨u2, e2, hF⟩ := bdS hF
    refine xEndI (xRunV (As := [.int (-1000000001 : Int32)]) (rest := []) hZ (c_X8_error G t row kpt errs bitsOf sizeOf cels broken isFit breaks act wth facts pile trc images mfit known laid hre opnd bad usg trcd isP errs_f (-1000000001 : Int32) u2 e2 l H.size) m193 m194 m195 m5 m196 1 ⟨rfl, hdX8_error⟩ ⟨Nat.le_of_ble_eq_true rfl, Nat.le_of_ble_eq_true rfl⟩ ⟨rfl, rfl⟩ hP hD hS 0 8 rfl rfl rfl [0, 2] rfl rfl rfl hl.1 rfl (Nat.le_of_ble_eq_true rfl) dX8_as_21 ⟨Nat.zero_le _, Nat.zero_le _⟩) hP hD hS hA [0, 2] rfl rfl rfl (fun H locs n2 hP hD hS => ?_)
    have hP : va_P G.1 vwCl [(t, .inr (8, [.ref row, .ref kpt, .int images, .ref errs, .ref bitsOf, .ref sizeOf, .ref cels, .ref broken, .ref isFit, .ref breaks, .int mfit, .int known, .ref act, .ref wth, .ref facts, .ref pile, .int laid, .int hre, .int opnd, .int bad, .int usg, .ref trc, .int trcd, .int isP])), (row, .inl (xI G, 400, .inl row_f)), (errs, .inl (xI G, 7, .inl u2.2))] H := hP
    have hD : va_D A [(t, .inr (8, [.ref row, .ref kpt, .int images, .ref errs, .ref bitsOf, .ref sizeOf, .ref cels, .ref broken, .ref isFit, .ref breaks, .int mfit, .int known, .ref act, .ref wth, .ref facts, .ref pile, .int laid, .int hre, .int opnd, .int bad, .int usg, .ref trc, .int trcd, .int isP])), (row, .inl (xI G, 400, .inl row_f)), (errs, .inl (xI G, 7, .inl u2.2))] := hD
    obtain rfl := Option.some.inj hF
    rw [← hQ]
    exact W.iret (v := u2.1) hx hb hr (fun t ht hW => ⟨⟨_, (), rfl, ⟨rfl, rfl⟩, xLf hP ht⟩, hS.F ht⟩) hS.2.2 dX8_as_24
  · have hF := itN c5 hF
    refine lv_iload_n hx hb dX8_as_8 rfl (lv_at hl 2 rfl) ?_
    refine lv_iconst (v := 0) hx hb dX8_as_9 (by decide) ?_
    refine lv_bipush (v := 6) hx hb dX8_as_10 (by decide) ?_
    obtain ⟨u2, e2, hF⟩ := bdS hF
    refine xEndI (xRunS (As := [.int kd, .int (0 : Int32), .int (6 : Int32)]) (rest := []) hZ (c_X8_in G kd (0 : Int32) (6 : Int32) u2 e2 l H.size) m190 m191 m5 m192 3 hdX8_in ⟨Nat.le_of_ble_eq_true rfl, Nat.le_of_ble_eq_true rfl⟩ ⟨rfl, rfl⟩ hP hD hS [] rfl rfl rfl hl.1 rfl (Nat.le_of_ble_eq_true rfl) dX8_as_12 ⟨Nat.zero_le _, Nat.zero_le _⟩) hP hD hS hA [] rfl rfl rfl (fun H locs n2 hP hD hS => ?_)
    have hP : va_P G.1 vwCl [(t, .inr (8, [.ref row, .ref kpt, .int images, .ref errs, .ref bitsOf, .ref sizeOf, .ref cels, .ref broken, .ref isFit, .ref breaks, .int mfit, .int known, .ref act, .ref wth, .ref facts, .ref pile, .int laid, .int hre, .int opnd, .int bad, .int usg, .ref trc, .int trcd, .int isP])), (row, .inl (xI G, 400, .inl row_f)), (errs, .inl (xI G, 7, .inl errs_f))] H := hP
    have hD : va_D A [(t, .inr (8, [.ref row, .ref kpt, .int images, .ref errs, .ref bitsOf, .ref sizeOf, .ref cels, .ref broken, .ref isFit, .ref breaks, .int mfit, .int known, .ref act, .ref wth, .ref facts, .ref pile, .int laid, .int hre, .int opnd, .int bad, .int usg, .ref trc, .int trcd, .int isP])), (row, .inl (xI G, 400, .inl row_f)), (errs, .inl (xI G, 7, .inl errs_f))] := hD
    refine lv_if_ne (tgt := 25) hx hb dX8_as_15 (by decide) (fun c15 => ?_) (fun c15 => ?_)
    · have hF := itN c15 hF
      refine lv_aload_n hx hb dX8_as_25 rfl (lv_at hl 0 rfl) ?_
      refine lv_iload_n hx hb dX8_as_26 rfl (lv_at hl 1 rfl) ?_
      refine lv_iconst (v := 0) hx hb dX8_as_27 (by decide) ?_
      obtain ⟨u3, e3, hF⟩ := bdS hF
      refine xEndI (xRunV (As := [.int br, .int (0 : Int32)]) (rest := []) hZ (c_X8_of G t row kpt errs bitsOf sizeOf cels broken isFit breaks act wth facts pile trc images mfit known laid hre opnd bad usg trcd isP row_f br (0 : Int32) u3 e3 l H.size) m291 m292 m293 m5 m294 2 ⟨rfl, hdX8_of⟩ ⟨Nat.le_of_ble_eq_true rfl, Nat.le_of_ble_eq_true rfl⟩ ⟨rfl, rfl⟩ hP hD hS 0 8 rfl rfl rfl [0, 1] rfl rfl rfl hl.1 rfl (Nat.le_of_ble_eq_true rfl) dX8_as_28 ⟨Nat.zero_le _, Nat.zero_le _⟩) hP hD hS hA [0, 1] rfl rfl rfl (fun H locs n3 hP hD hS => ?_)
      have hP : va_P G.1 vwCl [(t, .inr (8, [.ref row, .ref kpt, .int images, .ref errs, .ref bitsOf, .ref sizeOf, .ref cels, .ref broken, .ref isFit, .ref breaks, .int mfit, .int known, .ref act, .ref wth, .ref facts, .ref pile, .int laid, .int hre, .int opnd, .int bad, .int usg, .ref trc, .int trcd, .int isP])), (row, .inl (xI G, 400, .inl row_f)), (errs, .inl (xI G, 7, .inl errs_f))] H := hP
      have hD : va_D A [(t, .inr (8, [.ref row, .ref kpt, .int images, .ref errs, .ref bitsOf, .ref sizeOf, .ref cels, .ref broken, .ref isFit, .ref breaks, .int mfit, .int known, .ref act, .ref wth, .ref facts, .ref pile, .int laid, .int hre, .int opnd, .int bad, .int usg, .ref trc, .int trcd, .int isP])), (row, .inl (xI G, 400, .inl row_f)), (errs, .inl (xI G, 7, .inl errs_f))] := hD
      refine lv_istore_n (lv' := [(3, .int u3), (0, .ref t), (1, .int br), (2, .int kd)]) hx hb dX8_as_31 rfl hl (by decide) rfl (fun ls hl => ?_)
      refine lv_iload_n hx hb dX8_as_32 rfl (lv_at hl 3 rfl) ?_
      refine lv_if_eq (tgt := 61) hx hb dX8_as_33 (by decide) (fun c33 => ?_) (fun c33 => ?_)
      · have hF := itP c33 hF
        refine lv_iconst (v := 1) hx hb dX8_as_61 (by decide) ?_
        refine lv_goto (tgt := 66) hx hb dX8_as_62 (by decide) ?_
        refine lv_istore (lv' := [(4, .int (1 : Int32)), (3, .int u3), (0, .ref t), (1, .int br), (2, .int kd)]) hx hb dX8_as_66 hl (by decide) rfl (fun ls hl => ?_)
        refine lv_iload hx hb dX8_as_68 (lv_at hl 0 rfl) ?_
        refine lv_if_eq (tgt := 82) hx hb dX8_as_70 (by decide) (fun c70 => absurd c70 (by decide)) (fun c70 => ?_)
        refine lv_aload_n hx hb dX8_as_73 rfl (lv_at hl 2 rfl) ?_
        refine lv_iload_n hx hb dX8_as_74 rfl (lv_at hl 3 rfl) ?_
        refine lv_iconst (v := 1) hx hb dX8_as_75 (by decide) ?_
        obtain ⟨u4, e4, hF⟩ := bdS hF
        refine xEndI (xRunV (As := [.int br, .int (1 : Int32)]) (rest := []) hZ (c_X8_of G t row kpt errs bitsOf sizeOf cels broken isFit breaks act wth facts pile trc images mfit known laid hre opnd bad usg trcd isP row_f br (1 : Int32) u4 e4 l H.size) m291 m292 m293 m5 m294 2 ⟨rfl, hdX8_of⟩ ⟨Nat.le_of_ble_eq_true rfl, Nat.le_of_ble_eq_true rfl⟩ ⟨rfl, rfl⟩ hP hD hS 0 8 rfl rfl rfl [0, 1] rfl rfl rfl hl.1 rfl (Nat.le_of_ble_eq_true rfl) dX8_as_76 ⟨Nat.zero_le _, Nat.zero_le _⟩) hP hD hS hA [0, 1] rfl rfl rfl (fun H locs n4 hP hD hS => ?_)
        have hP : va_P G.1 vwCl [(t, .inr (8, [.ref row, .ref kpt, .int images, .ref errs, .ref bitsOf, .ref sizeOf, .ref cels, .ref broken, .ref isFit, .ref breaks, .int mfit, .int known, .ref act, .ref wth, .ref facts, .ref pile, .int laid, .int hre, .int opnd, .int bad, .int usg, .ref trc, .int trcd, .int isP])), (row, .inl (xI G, 400, .inl row_f)), (errs, .inl (xI G, 7, .inl errs_f))] H := hP
        have hD : va_D A [(t, .inr (8, [.ref row, .ref kpt, .int images, .ref errs, .ref bitsOf, .ref sizeOf, .ref cels, .ref broken, .ref isFit, .ref breaks, .int mfit, .int known, .ref act, .ref wth, .ref facts, .ref pile, .int laid, .int hre, .int opnd, .int bad, .int usg, .ref trc, .int trcd, .int isP])), (row, .inl (xI G, 400, .inl row_f)), (errs, .inl (xI G, 7, .inl errs_f))] := hD
        refine lv_goto (tgt := 88) hx hb dX8_as_79 (by decide) ?_
        obtain rfl := Option.some.inj hF
        rw [← hQ]
        exact W.iret (v := u4) hx hb hr (fun t ht hW => ⟨⟨_, (), rfl, ⟨rfl, rfl⟩, xLf hP ht⟩, hS.F ht⟩) hS.2.2 dX8_as_88
      · have hF := itN c33 hF
        refine lv_iload_n hx hb dX8_as_36 rfl (lv_at hl 3 rfl) ?_
        refine lv_iload_n hx hb dX8_as_37 rfl (lv_at hl 0 rfl) ?_
        refine lv_icmp_eq (tgt := 61) hx hb dX8_as_38 (by decide) (fun c38 => ?_) (fun c38 => ?_)
        · have hF := itP c38 hF
          refine lv_iconst (v := 1) hx hb dX8_as_61 (by decide) ?_
          refine lv_goto (tgt := 66) hx hb dX8_as_62 (by decide) ?_
          refine lv_istore (lv' := [(4, .int (1 : Int32)), (3, .int u3), (0, .ref t), (1, .int br), (2, .int kd)]) hx hb dX8_as_66 hl (by decide) rfl (fun ls hl => ?_)
          refine lv_iload hx hb dX8_as_68 (lv_at hl 0 rfl) ?_
          refine lv_if_eq (tgt := 82) hx hb dX8_as_70 (by decide) (fun c70 => absurd c70 (by decide)) (fun c70 => ?_)
          refine lv_aload_n hx hb dX8_as_73 rfl (lv_at hl 2 rfl) ?_
          refine lv_iload_n hx hb dX8_as_74 rfl (lv_at hl 3 rfl) ?_
          refine lv_iconst (v := 1) hx hb dX8_as_75 (by decide) ?_
          obtain ⟨u4, e4, hF⟩ := bdS hF
          refine xEndI (xRunV (As := [.int br, .int (1 : Int32)]) (rest := []) hZ (c_X8_of G t row kpt errs bitsOf sizeOf cels broken isFit breaks act wth facts pile trc images mfit known laid hre opnd bad usg trcd isP row_f br (1 : Int32) u4 e4 l H.size) m291 m292 m293 m5 m294 2 ⟨rfl, hdX8_of⟩ ⟨Nat.le_of_ble_eq_true rfl, Nat.le_of_ble_eq_true rfl⟩ ⟨rfl, rfl⟩ hP hD hS 0 8 rfl rfl rfl [0, 1] rfl rfl rfl hl.1 rfl (Nat.le_of_ble_eq_true rfl) dX8_as_76 ⟨Nat.zero_le _, Nat.zero_le _⟩) hP hD hS hA [0, 1] rfl rfl rfl (fun H locs n4 hP hD hS => ?_)
          have hP : va_P G.1 vwCl [(t, .inr (8, [.ref row, .ref kpt, .int images, .ref errs, .ref bitsOf, .ref sizeOf, .ref cels, .ref broken, .ref isFit, .ref breaks, .int mfit, .int known, .ref act, .ref wth, .ref facts, .ref pile, .int laid, .int hre, .int opnd, .int bad, .int usg, .ref trc, .int trcd, .int isP])), (row, .inl (xI G, 400, .inl row_f)), (errs, .inl (xI G, 7, .inl errs_f))] H := hP
          have hD : va_D A [(t, .inr (8, [.ref row, .ref kpt, .int images, .ref errs, .ref bitsOf, .ref sizeOf, .ref cels, .ref broken, .ref isFit, .ref breaks, .int mfit, .int known, .ref act, .ref wth, .ref facts, .ref pile, .int laid, .int hre, .int opnd, .int bad, .int usg, .ref trc, .int trcd, .int isP])), (row, .inl (xI G, 400, .inl row_f)), (errs, .inl (xI G, 7, .inl errs_f))] := hD
          refine lv_goto (tgt := 88) hx hb dX8_as_79 (by decide) ?_
          obtain rfl := Option.some.inj hF
          rw [← hQ]
          exact W.iret (v := u4) hx hb hr (fun t ht hW => ⟨⟨_, (), rfl, ⟨rfl, rfl⟩, xLf hP ht⟩, hS.F ht⟩) hS.2.2 dX8_as_88
        · have hF := itN c38 hF
          refine lv_iload_n hx hb dX8_as_41 rfl (lv_at hl 3 rfl) ?_
          refine lv_iconst (v := 1) hx hb dX8_as_42 (by decide) ?_
          refine lv_icmp_ne (tgt := 51) hx hb dX8_as_43 (by decide) (fun c43 => ?_) (fun c43 => ?_)
          · have hF := itN c43 hF
            refine lv_iload_n hx hb dX8_as_51 rfl (lv_at hl 3 rfl) ?_
            refine lv_iconst (v := 2) hx hb dX8_as_52 (by decide) ?_
            refine lv_icmp_ne (tgt := 65) hx hb dX8_as_53 (by decide) (fun c53 => ?_) (fun c53 => ?_)
            · have hF := itN c53 hF
              refine lv_iconst (v := 0) hx hb dX8_as_65 (by decide) ?_
              refine lv_istore (lv' := [(4, .int (0 : Int32)), (3, .int u3), (0, .ref t), (1, .int br), (2, .int kd)]) hx hb dX8_as_66 hl (by decide) rfl (fun ls hl => ?_)
              refine lv_iload hx hb dX8_as_68 (lv_at hl 0 rfl) ?_
              refine lv_if_eq (tgt := 82) hx hb dX8_as_70 (by decide) (fun c70 => ?_) (fun c70 => absurd (by decide) c70)
              refine lv_aload_n hx hb dX8_as_82 rfl (lv_at hl 2 rfl) ?_
              refine lv_ldc (v := -1000000005) hx hb hown (hts _ (tcons _ m370)) dX8_as_83 ?_
              obtain ⟨u4, e4, hF⟩ := bdS hF
              refine xEndI (xRunV (As := [.int (-1000000005 : Int32)]) (rest := []) hZ (c_X8_error G t row kpt errs bitsOf sizeOf cels broken isFit breaks act wth facts pile trc images mfit known laid hre opnd bad usg trcd isP errs_f (-1000000005 : Int32) u4 e4 l H.size) m193 m194 m195 m5 m196 1 ⟨rfl, hdX8_error⟩ ⟨Nat.le_of_ble_eq_true rfl, Nat.le_of_ble_eq_true rfl⟩ ⟨rfl, rfl⟩ hP hD hS 0 8 rfl rfl rfl [0, 2] rfl rfl rfl hl.1 rfl (Nat.le_of_ble_eq_true rfl) dX8_as_85 ⟨Nat.zero_le _, Nat.zero_le _⟩) hP hD hS hA [0, 2] rfl rfl rfl (fun H locs n4 hP hD hS => ?_)
              have hP : va_P G.1 vwCl [(t, .inr (8, [.ref row, .ref kpt, .int images, .ref errs, .ref bitsOf, .ref sizeOf, .ref cels, .ref broken, .ref isFit, .ref breaks, .int mfit, .int known, .ref act, .ref wth, .ref facts, .ref pile, .int laid, .int hre, .int opnd, .int bad, .int usg, .ref trc, .int trcd, .int isP])), (row, .inl (xI G, 400, .inl row_f)), (errs, .inl (xI G, 7, .inl u4.2))] H := hP
              have hD : va_D A [(t, .inr (8, [.ref row, .ref kpt, .int images, .ref errs, .ref bitsOf, .ref sizeOf, .ref cels, .ref broken, .ref isFit, .ref breaks, .int mfit, .int known, .ref act, .ref wth, .ref facts, .ref pile, .int laid, .int hre, .int opnd, .int bad, .int usg, .ref trc, .int trcd, .int isP])), (row, .inl (xI G, 400, .inl row_f)), (errs, .inl (xI G, 7, .inl u4.2))] := hD
              obtain rfl := Option.some.inj hF
              rw [← hQ]
              exact W.iret (v := u4.1) hx hb hr (fun t ht hW => ⟨⟨_, (), rfl, ⟨rfl, rfl⟩, xLf hP ht⟩, hS.F ht⟩) hS.2.2 dX8_as_88
            · have hF := itP c53 hF
              refine lv_iload_n hx hb dX8_as_56 rfl (lv_at hl 0 rfl) ?_
              refine lv_iconst (v := 5) hx hb dX8_as_57 (by decide) ?_
              refine lv_icmp_ne (tgt := 65) hx hb dX8_as_58 (by decide) (fun c58 => ?_) (fun c58 => ?_)
              · have hF := itN c58 hF
                refine lv_iconst (v := 0) hx hb dX8_as_65 (by decide) ?_
                refine lv_istore (lv' := [(4, .int (0 : Int32)), (3, .int u3), (0, .ref t), (1, .int br), (2, .int kd)]) hx hb dX8_as_66 hl (by decide) rfl (fun ls hl => ?_)
                refine lv_iload hx hb dX8_as_68 (lv_at hl 0 rfl) ?_
                refine lv_if_eq (tgt := 82) hx hb dX8_as_70 (by decide) (fun c70 => ?_) (fun c70 => absurd (by decide) c70)
                refine lv_aload_n hx hb dX8_as_82 rfl (lv_at hl 2 rfl) ?_
                refine lv_ldc (v := -1000000005) hx hb hown (hts _ (tcons _ m370)) dX8_as_83 ?_
                obtain ⟨u4, e4, hF⟩ := bdS hF
                refine xEndI (xRunV (As := [.int (-1000000005 : Int32)]) (rest := []) hZ (c_X8_error G t row kpt errs bitsOf sizeOf cels broken isFit breaks act wth facts pile trc images mfit known laid hre opnd bad usg trcd isP errs_f (-1000000005 : Int32) u4 e4 l H.size) m193 m194 m195 m5 m196 1 ⟨rfl, hdX8_error⟩ ⟨Nat.le_of_ble_eq_true rfl, Nat.le_of_ble_eq_true rfl⟩ ⟨rfl, rfl⟩ hP hD hS 0 8 rfl rfl rfl [0, 2] rfl rfl rfl hl.1 rfl (Nat.le_of_ble_eq_true rfl) dX8_as_85 ⟨Nat.zero_le _, Nat.zero_le _⟩) hP hD hS hA [0, 2] rfl rfl rfl (fun H locs n4 hP hD hS => ?_)
                have hP : va_P G.1 vwCl [(t, .inr (8, [.ref row, .ref kpt, .int images, .ref errs, .ref bitsOf, .ref sizeOf, .ref cels, .ref broken, .ref isFit, .ref breaks, .int mfit, .int known, .ref act, .ref wth, .ref facts, .ref pile, .int laid, .int hre, .int opnd, .int bad, .int usg, .ref trc, .int trcd, .int isP])), (row, .inl (xI G, 400, .inl row_f)), (errs, .inl (xI G, 7, .inl u4.2))] H := hP
                have hD : va_D A [(t, .inr (8, [.ref row, .ref kpt, .int images, .ref errs, .ref bitsOf, .ref sizeOf, .ref cels, .ref broken, .ref isFit, .ref breaks, .int mfit, .int known, .ref act, .ref wth, .ref facts, .ref pile, .int laid, .int hre, .int opnd, .int bad, .int usg, .ref trc, .int trcd, .int isP])), (row, .inl (xI G, 400, .inl row_f)), (errs, .inl (xI G, 7, .inl u4.2))] := hD
                obtain rfl := Option.some.inj hF
                rw [← hQ]
                exact W.iret (v := u4.1) hx hb hr (fun t ht hW => ⟨⟨_, (), rfl, ⟨rfl, rfl⟩, xLf hP ht⟩, hS.F ht⟩) hS.2.2 dX8_as_88
              · have hF := itP c58 hF
                refine lv_iconst (v := 1) hx hb dX8_as_61 (by decide) ?_
                refine lv_goto (tgt := 66) hx hb dX8_as_62 (by decide) ?_
                refine lv_istore (lv' := [(4, .int (1 : Int32)), (3, .int u3), (0, .ref t), (1, .int br), (2, .int kd)]) hx hb dX8_as_66 hl (by decide) rfl (fun ls hl => ?_)
                refine lv_iload hx hb dX8_as_68 (lv_at hl 0 rfl) ?_
                refine lv_if_eq (tgt := 82) hx hb dX8_as_70 (by decide) (fun c70 => absurd c70 (by decide)) (fun c70 => ?_)
                refine lv_aload_n hx hb dX8_as_73 rfl (lv_at hl 2 rfl) ?_
                refine lv_iload_n hx hb dX8_as_74 rfl (lv_at hl 3 rfl) ?_
                refine lv_iconst (v := 1) hx hb dX8_as_75 (by decide) ?_
                obtain ⟨u4, e4, hF⟩ := bdS hF
                refine xEndI (xRunV (As := [.int br, .int (1 : Int32)]) (rest := []) hZ (c_X8_of G t row kpt errs bitsOf sizeOf cels broken isFit breaks act wth facts pile trc images mfit known laid hre opnd bad usg trcd isP row_f br (1 : Int32) u4 e4 l H.size) m291 m292 m293 m5 m294 2 ⟨rfl, hdX8_of⟩ ⟨Nat.le_of_ble_eq_true rfl, Nat.le_of_ble_eq_true rfl⟩ ⟨rfl, rfl⟩ hP hD hS 0 8 rfl rfl rfl [0, 1] rfl rfl rfl hl.1 rfl (Nat.le_of_ble_eq_true rfl) dX8_as_76 ⟨Nat.zero_le _, Nat.zero_le _⟩) hP hD hS hA [0, 1] rfl rfl rfl (fun H locs n4 hP hD hS => ?_)
                have hP : va_P G.1 vwCl [(t, .inr (8, [.ref row, .ref kpt, .int images, .ref errs, .ref bitsOf, .ref sizeOf, .ref cels, .ref broken, .ref isFit, .ref breaks, .int mfit, .int known, .ref act, .ref wth, .ref facts, .ref pile, .int laid, .int hre, .int opnd, .int bad, .int usg, .ref trc, .int trcd, .int isP])), (row, .inl (xI G, 400, .inl row_f)), (errs, .inl (xI G, 7, .inl errs_f))] H := hP
                have hD : va_D A [(t, .inr (8, [.ref row, .ref kpt, .int images, .ref errs, .ref bitsOf, .ref sizeOf, .ref cels, .ref broken, .ref isFit, .ref breaks, .int mfit, .int known, .ref act, .ref wth, .ref facts, .ref pile, .int laid, .int hre, .int opnd, .int bad, .int usg, .ref trc, .int trcd, .int isP])), (row, .inl (xI G, 400, .inl row_f)), (errs, .inl (xI G, 7, .inl errs_f))] := hD
                refine lv_goto (tgt := 88) hx hb dX8_as_79 (by decide) ?_
                obtain rfl := Option.some.inj hF
                rw [← hQ]
                exact W.iret (v := u4) hx hb hr (fun t ht hW => ⟨⟨_, (), rfl, ⟨rfl, rfl⟩, xLf hP ht⟩, hS.F ht⟩) hS.2.2 dX8_as_88
          · have hF := itP c43 hF
            refine lv_iload_n hx hb dX8_as_46 rfl (lv_at hl 0 rfl) ?_
            refine lv_iconst (v := 4) hx hb dX8_as_47 (by decide) ?_
            refine lv_icmp_eq (tgt := 61) hx hb dX8_as_48 (by decide) (fun c48 => ?_) (fun c48 => ?_)
            · have hF := itP c48 hF
              refine lv_iconst (v := 1) hx hb dX8_as_61 (by decide) ?_
              refine lv_goto (tgt := 66) hx hb dX8_as_62 (by decide) ?_
              refine lv_istore (lv' := [(4, .int (1 : Int32)), (3, .int u3), (0, .ref t), (1, .int br), (2, .int kd)]) hx hb dX8_as_66 hl (by decide) rfl (fun ls hl => ?_)
              refine lv_iload hx hb dX8_as_68 (lv_at hl 0 rfl) ?_
              refine lv_if_eq (tgt := 82) hx hb dX8_as_70 (by decide) (fun c70 => absurd c70 (by decide)) (fun c70 => ?_)
              refine lv_aload_n hx hb dX8_as_73 rfl (lv_at hl 2 rfl) ?_
              refine lv_iload_n hx hb dX8_as_74 rfl (lv_at hl 3 rfl) ?_
              refine lv_iconst (v := 1) hx hb dX8_as_75 (by decide) ?_
              obtain ⟨u4, e4, hF⟩ := bdS hF
              refine xEndI (xRunV (As := [.int br, .int (1 : Int32)]) (rest := []) hZ (c_X8_of G t row kpt errs bitsOf sizeOf cels broken isFit breaks act wth facts pile trc images mfit known laid hre opnd bad usg trcd isP row_f br (1 : Int32) u4 e4 l H.size) m291 m292 m293 m5 m294 2 ⟨rfl, hdX8_of⟩ ⟨Nat.le_of_ble_eq_true rfl, Nat.le_of_ble_eq_true rfl⟩ ⟨rfl, rfl⟩ hP hD hS 0 8 rfl rfl rfl [0, 1] rfl rfl rfl hl.1 rfl (Nat.le_of_ble_eq_true rfl) dX8_as_76 ⟨Nat.zero_le _, Nat.zero_le _⟩) hP hD hS hA [0, 1] rfl rfl rfl (fun H locs n4 hP hD hS => ?_)
              have hP : va_P G.1 vwCl [(t, .inr (8, [.ref row, .ref kpt, .int images, .ref errs, .ref bitsOf, .ref sizeOf, .ref cels, .ref broken, .ref isFit, .ref breaks, .int mfit, .int known, .ref act, .ref wth, .ref facts, .ref pile, .int laid, .int hre, .int opnd, .int bad, .int usg, .ref trc, .int trcd, .int isP])), (row, .inl (xI G, 400, .inl row_f)), (errs, .inl (xI G, 7, .inl errs_f))] H := hP
              have hD : va_D A [(t, .inr (8, [.ref row, .ref kpt, .int images, .ref errs, .ref bitsOf, .ref sizeOf, .ref cels, .ref broken, .ref isFit, .ref breaks, .int mfit, .int known, .ref act, .ref wth, .ref facts, .ref pile, .int laid, .int hre, .int opnd, .int bad, .int usg, .ref trc, .int trcd, .int isP])), (row, .inl (xI G, 400, .inl row_f)), (errs, .inl (xI G, 7, .inl errs_f))] := hD
              refine lv_goto (tgt := 88) hx hb dX8_as_79 (by decide) ?_
              obtain rfl := Option.some.inj hF
              rw [← hQ]
              exact W.iret (v := u4) hx hb hr (fun t ht hW => ⟨⟨_, (), rfl, ⟨rfl, rfl⟩, xLf hP ht⟩, hS.F ht⟩) hS.2.2 dX8_as_88
            · have hF := itN c48 hF
              refine lv_iload_n hx hb dX8_as_51 rfl (lv_at hl 3 rfl) ?_
              refine lv_iconst (v := 2) hx hb dX8_as_52 (by decide) ?_
              refine lv_icmp_ne (tgt := 65) hx hb dX8_as_53 (by decide) (fun c53 => ?_) (fun c53 => ?_)
              · have hF := itN c53 hF
                refine lv_iconst (v := 0) hx hb dX8_as_65 (by decide) ?_
                refine lv_istore (lv' := [(4, .int (0 : Int32)), (3, .int u3), (0, .ref t), (1, .int br), (2, .int kd)]) hx hb dX8_as_66 hl (by decide) rfl (fun ls hl => ?_)
                refine lv_iload hx hb dX8_as_68 (lv_at hl 0 rfl) ?_
                refine lv_if_eq (tgt := 82) hx hb dX8_as_70 (by decide) (fun c70 => ?_) (fun c70 => absurd (by decide) c70)
                refine lv_aload_n hx hb dX8_as_82 rfl (lv_at hl 2 rfl) ?_
                refine lv_ldc (v := -1000000005) hx hb hown (hts _ (tcons _ m370)) dX8_as_83 ?_
                obtain ⟨u4, e4, hF⟩ := bdS hF
                refine xEndI (xRunV (As := [.int (-1000000005 : Int32)]) (rest := []) hZ (c_X8_error G t row kpt errs bitsOf sizeOf cels broken isFit breaks act wth facts pile trc images mfit known laid hre opnd bad usg trcd isP errs_f (-1000000005 : Int32) u4 e4 l H.size) m193 m194 m195 m5 m196 1 ⟨rfl, hdX8_error⟩ ⟨Nat.le_of_ble_eq_true rfl, Nat.le_of_ble_eq_true rfl⟩ ⟨rfl, rfl⟩ hP hD hS 0 8 rfl rfl rfl [0, 2] rfl rfl rfl hl.1 rfl (Nat.le_of_ble_eq_true rfl) dX8_as_85 ⟨Nat.zero_le _, Nat.zero_le _⟩) hP hD hS hA [0, 2] rfl rfl rfl (fun H locs n4 hP hD hS => ?_)
                have hP : va_P G.1 vwCl [(t, .inr (8, [.ref row, .ref kpt, .int images, .ref errs, .ref bitsOf, .ref sizeOf, .ref cels, .ref broken, .ref isFit, .ref breaks, .int mfit, .int known, .ref act, .ref wth, .ref facts, .ref pile, .int laid, .int hre, .int opnd, .int bad, .int usg, .ref trc, .int trcd, .int isP])), (row, .inl (xI G, 400, .inl row_f)), (errs, .inl (xI G, 7, .inl u4.2))] H := hP
                have hD : va_D A [(t, .inr (8, [.ref row, .ref kpt, .int images, .ref errs, .ref bitsOf, .ref sizeOf, .ref cels, .ref broken, .ref isFit, .ref breaks, .int mfit, .int known, .ref act, .ref wth, .ref facts, .ref pile, .int laid, .int hre, .int opnd, .int bad, .int usg, .ref trc, .int trcd, .int isP])), (row, .inl (xI G, 400, .inl row_f)), (errs, .inl (xI G, 7, .inl u4.2))] := hD
                obtain rfl := Option.some.inj hF
                rw [← hQ]
                exact W.iret (v := u4.1) hx hb hr (fun t ht hW => ⟨⟨_, (), rfl, ⟨rfl, rfl⟩, xLf hP ht⟩, hS.F ht⟩) hS.2.2 dX8_as_88
              · have hF := itP c53 hF
                refine lv_iload_n hx hb dX8_as_56 rfl (lv_at hl 0 rfl) ?_
                refine lv_iconst (v := 5) hx hb dX8_as_57 (by decide) ?_
                refine lv_icmp_ne (tgt := 65) hx hb dX8_as_58 (by decide) (fun c58 => ?_) (fun c58 => ?_)
                · have hF := itN c58 hF
                  refine lv_iconst (v := 0) hx hb dX8_as_65 (by decide) ?_
                  refine lv_istore (lv' := [(4, .int (0 : Int32)), (3, .int u3), (0, .ref t), (1, .int br), (2, .int kd)]) hx hb dX8_as_66 hl (by decide) rfl (fun ls hl => ?_)
                  refine lv_iload hx hb dX8_as_68 (lv_at hl 0 rfl) ?_
                  refine lv_if_eq (tgt := 82) hx hb dX8_as_70 (by decide) (fun c70 => ?_) (fun c70 => absurd (by decide) c70)
                  refine lv_aload_n hx hb dX8_as_82 rfl (lv_at hl 2 rfl) ?_
                  refine lv_ldc (v := -1000000005) hx hb hown (hts _ (tcons _ m370)) dX8_as_83 ?_
                  obtain ⟨u4, e4, hF⟩ := bdS hF
                  refine xEndI (xRunV (As := [.int (-1000000005 : Int32)]) (rest := []) hZ (c_X8_error G t row kpt errs bitsOf sizeOf cels broken isFit breaks act wth facts pile trc images mfit known laid hre opnd bad usg trcd isP errs_f (-1000000005 : Int32) u4 e4 l H.size) m193 m194 m195 m5 m196 1 ⟨rfl, hdX8_error⟩ ⟨Nat.le_of_ble_eq_true rfl, Nat.le_of_ble_eq_true rfl⟩ ⟨rfl, rfl⟩ hP hD hS 0 8 rfl rfl rfl [0, 2] rfl rfl rfl hl.1 rfl (Nat.le_of_ble_eq_true rfl) dX8_as_85 ⟨Nat.zero_le _, Nat.zero_le _⟩) hP hD hS hA [0, 2] rfl rfl rfl (fun H locs n4 hP hD hS => ?_)
                  have hP : va_P G.1 vwCl [(t, .inr (8, [.ref row, .ref kpt, .int images, .ref errs, .ref bitsOf, .ref sizeOf, .ref cels, .ref broken, .ref isFit, .ref breaks, .int mfit, .int known, .ref act, .ref wth, .ref facts, .ref pile, .int laid, .int hre, .int opnd, .int bad, .int usg, .ref trc, .int trcd, .int isP])), (row, .inl (xI G, 400, .inl row_f)), (errs, .inl (xI G, 7, .inl u4.2))] H := hP
                  have hD : va_D A [(t, .inr (8, [.ref row, .ref kpt, .int images, .ref errs, .ref bitsOf, .ref sizeOf, .ref cels, .ref broken, .ref isFit, .ref breaks, .int mfit, .int known, .ref act, .ref wth, .ref facts, .ref pile, .int laid, .int hre, .int opnd, .int bad, .int usg, .ref trc, .int trcd, .int isP])), (row, .inl (xI G, 400, .inl row_f)), (errs, .inl (xI G, 7, .inl u4.2))] := hD
                  obtain rfl := Option.some.inj hF
                  rw [← hQ]
                  exact W.iret (v := u4.1) hx hb hr (fun t ht hW => ⟨⟨_, (), rfl, ⟨rfl, rfl⟩, xLf hP ht⟩, hS.F ht⟩) hS.2.2 dX8_as_88
                · have hF := itP c58 hF
                  refine lv_iconst (v := 1) hx hb dX8_as_61 (by decide) ?_
                  refine lv_goto (tgt := 66) hx hb dX8_as_62 (by decide) ?_
                  refine lv_istore (lv' := [(4, .int (1 : Int32)), (3, .int u3), (0, .ref t), (1, .int br), (2, .int kd)]) hx hb dX8_as_66 hl (by decide) rfl (fun ls hl => ?_)
                  refine lv_iload hx hb dX8_as_68 (lv_at hl 0 rfl) ?_
                  refine lv_if_eq (tgt := 82) hx hb dX8_as_70 (by decide) (fun c70 => absurd c70 (by decide)) (fun c70 => ?_)
                  refine lv_aload_n hx hb dX8_as_73 rfl (lv_at hl 2 rfl) ?_
                  refine lv_iload_n hx hb dX8_as_74 rfl (lv_at hl 3 rfl) ?_
                  refine lv_iconst (v := 1) hx hb dX8_as_75 (by decide) ?_
                  obtain ⟨u4, e4, hF⟩ := bdS hF
                  refine xEndI (xRunV (As := [.int br, .int (1 : Int32)]) (rest := []) hZ (c_X8_of G t row kpt errs bitsOf sizeOf cels broken isFit breaks act wth facts pile trc images mfit known laid hre opnd bad usg trcd isP row_f br (1 : Int32) u4 e4 l H.size) m291 m292 m293 m5 m294 2 ⟨rfl, hdX8_of⟩ ⟨Nat.le_of_ble_eq_true rfl, Nat.le_of_ble_eq_true rfl⟩ ⟨rfl, rfl⟩ hP hD hS 0 8 rfl rfl rfl [0, 1] rfl rfl rfl hl.1 rfl (Nat.le_of_ble_eq_true rfl) dX8_as_76 ⟨Nat.zero_le _, Nat.zero_le _⟩) hP hD hS hA [0, 1] rfl rfl rfl (fun H locs n4 hP hD hS => ?_)
                  have hP : va_P G.1 vwCl [(t, .inr (8, [.ref row, .ref kpt, .int images, .ref errs, .ref bitsOf, .ref sizeOf, .ref cels, .ref broken, .ref isFit, .ref breaks, .int mfit, .int known, .ref act, .ref wth, .ref facts, .ref pile, .int laid, .int hre, .int opnd, .int bad, .int usg, .ref trc, .int trcd, .int isP])), (row, .inl (xI G, 400, .inl row_f)), (errs, .inl (xI G, 7, .inl errs_f))] H := hP
                  have hD : va_D A [(t, .inr (8, [.ref row, .ref kpt, .int images, .ref errs, .ref bitsOf, .ref sizeOf, .ref cels, .ref broken, .ref isFit, .ref breaks, .int mfit, .int known, .ref act, .ref wth, .ref facts, .ref pile, .int laid, .int hre, .int opnd, .int bad, .int usg, .ref trc, .int trcd, .int isP])), (row, .inl (xI G, 400, .inl row_f)), (errs, .inl (xI G, 7, .inl errs_f))] := hD
                  refine lv_goto (tgt := 88) hx hb dX8_as_79 (by decide) ?_
                  obtain rfl := Option.some.inj hF
                  rw [← hQ]
                  exact W.iret (v := u4) hx hb hr (fun t ht hW => ⟨⟨_, (), rfl, ⟨rfl, rfl⟩, xLf hP ht⟩, hS.F ht⟩) hS.2.2 dX8_as_88
    · have hF := itP c15 hF
      refine lv_aload_n hx hb dX8_as_18 rfl (lv_at hl 0 rfl) ?_
      refine lv_ldc (v := -1000000001) hx hb hown (hts _ (tcons _ m185)) dX8_as_19 ?_
      obtain ⟨u3, e3, hF⟩ := bdS hF
      refine xEndI (xRunV (As := [.int (-1000000001 : Int32)]) (rest := []) hZ (c_X8_error G t row kpt errs bitsOf sizeOf cels broken isFit breaks act wth facts pile trc images mfit known laid hre opnd bad usg trcd isP errs_f (-1000000001 : Int32) u3 e3 l H.size) m193 m194 m195 m5 m196 1 ⟨rfl, hdX8_error⟩ ⟨Nat.le_of_ble_eq_true rfl, Nat.le_of_ble_eq_true rfl⟩ ⟨rfl, rfl⟩ hP hD hS 0 8 rfl rfl rfl [0, 2] rfl rfl rfl hl.1 rfl (Nat.le_of_ble_eq_true rfl) dX8_as_21 ⟨Nat.zero_le _, Nat.zero_le _⟩) hP hD hS hA [0, 2] rfl rfl rfl (fun H locs n3 hP hD hS => ?_)
      have hP : va_P G.1 vwCl [(t, .inr (8, [.ref row, .ref kpt, .int images, .ref errs, .ref bitsOf, .ref sizeOf, .ref cels, .ref broken, .ref isFit, .ref breaks, .int mfit, .int known, .ref act, .ref wth, .ref facts, .ref pile, .int laid, .int hre, .int opnd, .int bad, .int usg, .ref trc, .int trcd, .int isP])), (row, .inl (xI G, 400, .inl row_f)), (errs, .inl (xI G, 7, .inl u3.2))] H := hP
      have hD : va_D A [(t, .inr (8, [.ref row, .ref kpt, .int images, .ref errs, .ref bitsOf, .ref sizeOf, .ref cels, .ref broken, .ref isFit, .ref breaks, .int mfit, .int known, .ref act, .ref wth, .ref facts, .ref pile, .int laid, .int hre, .int opnd, .int bad, .int usg, .ref trc, .int trcd, .int isP])), (row, .inl (xI G, 400, .inl row_f)), (errs, .inl (xI G, 7, .inl u3.2))] := hD
      obtain rfl := Option.some.inj hF
      rw [← hQ]
      exact W.iret (v := u3.1) hx hb hr (fun t ht hW => ⟨⟨_, (), rfl, ⟨rfl, rfl⟩, xLf hP ht⟩, hS.F ht⟩) hS.2.2 dX8_as_24
