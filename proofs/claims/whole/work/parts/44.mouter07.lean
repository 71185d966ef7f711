def F_X8_image (images : Int32) (row_f : Nat → Int32) (kpt_f : Nat → Int32) : Option (Int32 × Int32 × (Nat → Int32)) := bd (F_X8_copyAll row_f kpt_f) (fun (u1 : (Nat → Int32)) => some ((images + (1 : Int32)), (images + (1 : Int32)), u1))
theorem hdX8_image : yX8_image.cls ≠ "java/lang/invoke/MethodHandle" ∧ yX8_image.cls ≠ "java/lang/invoke/VarHandle" ∧ (parseMethodDescriptor yX8_image.desc).map (fun d => d.parameters.length) = some 0 := by decide +kernel
set_option maxHeartbeats 4000000 in
set_option maxRecDepth 100000 in
theorem c_X8_image (G : xG) (t : Nat) (row : Nat) (kpt : Nat) (errs : Nat) (bitsOf : Nat) (sizeOf : Nat) (cels : Nat) (broken : Nat) (isFit : Nat) (breaks : Nat) (act : Nat) (wth : Nat) (facts : Nat) (pile : Nat) (trc : Nat) (images : Int32) (mfit : Int32) (known : Int32) (laid : Int32) (hre : Int32) (opnd : Int32) (bad : Int32) (usg : Int32) (trcd : Int32) (isP : Int32) (row_f : Nat → Int32) (kpt_f : Nat → Int32)  (u : (Int32 × Int32 × (Nat → Int32))) (hF : F_X8_image images row_f kpt_f = some u) : Ki G .int yX8_image (Cond.code yX8_image cX8_image 1 (some .int) :: TBL) { frames := 1, cells := 0, slots := 0, locals := 22 } [.ref t] [(t, .inr (8, [.ref row, .ref kpt, .int images, .ref errs, .ref bitsOf, .ref sizeOf, .ref cels, .ref broken, .ref isFit, .ref breaks, .int mfit, .int known, .ref act, .ref wth, .ref facts, .ref pile, .int laid, .int hre, .int opnd, .int bad, .int usg, .ref trc, .int trcd, .int isP])), (row, .inl (xI G, 400, .inl row_f)), (kpt, .inl (xI G, 400, .inl kpt_f))] [(t, .inr (8, [.ref row, .ref kpt, .int u.2.1, .ref errs, .ref bitsOf, .ref sizeOf, .ref cels, .ref broken, .ref isFit, .ref breaks, .int mfit, .int known, .ref act, .ref wth, .ref facts, .ref pile, .int laid, .int hre, .int opnd, .int bad, .int usg, .ref trc, .int trcd, .int isP])), (row, .inl (xI G, 400, .inl row_f)), (kpt, .inl (xI G, 400, .inl u.2.2))] u.1 := by
  intro l sz
  refine Met.ofW (cc := cX8_image) (maxL := 1) (ret := (some .int)) (by decide) rfl ?_
  intro p e s m args below meth c s₁ B hml hv
  obtain ⟨rfl, hsz, hP, hD0, hm⟩ := hv
  have hx := B.exec
  have hb := B.bytes
  have hr := B.returns
  have hts := atoms_spec (ws := Cond.code yX8_image cX8_image 1 (some .int) :: TBL) B.pre
  have hown : s.vm.findClass RX8 = some m.cls := findClass_of_methodNamed B.named
  have hlocks := B.notSynchronized
  subst hsz
  have hD := hD0.self (sz := s.heap.size)
  generalize hAe : va_A [(t, .inr (8, [.ref row, .ref kpt, .int images, .ref errs, .ref bitsOf, .ref sizeOf, .ref cels, .ref broken, .ref isFit, .ref breaks, .int mfit, .int known, .ref act, .ref wth, .ref facts, .ref pile, .int laid, .int hre, .int opnd, .int bad, .int usg, .ref trc, .int trcd, .int isP])), (row, .inl (xI G, 400, .inl row_f)), (kpt, .inl (xI G, 400, .inl kpt_f))] s.heap.size = A at hD hm ⊢
  have hA : ∀ q : Nat, s.heap.size ≤ q → A q := fun q h => by rw [← hAe]; exact Or.inr h
  have hK := hm.1
  have hZ : xAnd p m c cX8_image 1 s _ (Cond.code yX8_image cX8_image 1 (some .int) :: TBL) RX8 G A := ⟨⟨hx, hb, hml, hown, hts⟩, tcons, hA, hm⟩
  have hP : va_P G.1 vwCl [(t, .inr (8, [.ref row, .ref kpt, .int images, .ref errs, .ref bitsOf, .ref sizeOf, .ref cels, .ref broken, .ref isFit, .ref breaks, .int mfit, .int known, .ref act, .ref wth, .ref facts, .ref pile, .int laid, .int hre, .int opnd, .int bad, .int usg, .ref trc, .int trcd, .int isP])), (row, .inl (xI G, 400, .inl row_f)), (kpt, .inl (xI G, 400, .inl kpt_f))] s.heap := hP
  have hl := lv_entry ([.ref t]) (n := 1) (Nat.le_of_ble_eq_true rfl)
  rw [lg_entry_eq]
  generalize (lg_sl ([.ref t]) ++ List.replicate (1 - (lg_sl ([.ref t])).length) Slot.unset).toArray = ls at hl ⊢
  have hl : lv_has ls 1 [(0, .ref t)] := hl
  generalize hQ : MQ below _ _ s _ _ _ = Q
  refine xGo (A := A) hP (fun H locs hP hS => ?_)
  unfold F_X8_image at hF
  refine lv_aload_n hx hb dX8_image_0 rfl (lv_at hl 0 rfl) ?_
  refine va_get (ci := 8) (v := .ref row) (C := RX8) (T := TX8) (N := 24) hx hb hts (fun w h => tcons w (xin8 w h)) hown hK hP 0 rfl rfl 0 (by decide) (hts _ (tcons _ m137)) (fun _ h9 => h9) rfl dX8_image_1 ?_
  refine lv_aload_n hx hb dX8_image_4 rfl (lv_at hl 0 rfl) ?_
  refine va_get (ci := 8) (v := .ref kpt) (C := RX8) (T := TX8) (N := 24) hx hb hts (fun w h => tcons w (xin8 w h)) hown hK hP 0 rfl rfl 1 (by decide) (hts _ (tcons _ m138)) (fun _ h9 => h9) rfl dX8_image_5 ?_
  obtain ⟨u1, e1, hF⟩ := bdS hF
  refine xEndV (xRunS (As := [.ref row, .ref kpt]) (rest := []) hZ (c_X8_copyAll G row kpt row_f kpt_f u1 e1 l H.size) m1073 m1074 m5 m1075 2 hdX8_copyAll ⟨Nat.le_of_ble_eq_true rfl, Nat.le_of_ble_eq_true rfl⟩ ⟨rfl, rfl⟩ hP hD hS [1, 2] rfl rfl rfl hl.1 rfl (Nat.le_of_ble_eq_true rfl) dX8_image_8 ⟨Nat.zero_le _, Nat.zero_le _⟩) hP hD hS hA [1, 2] rfl rfl rfl (fun H locs hP hD hS => ?_)
  have hP : va_P G.1 vwCl [(t, .inr (8, [.ref row, .ref kpt, .int images, .ref errs, .ref bitsOf, .ref sizeOf, .ref cels, .ref broken, .ref isFit, .ref breaks, .int mfit, .int known, .ref act, .ref wth, .ref facts, .ref pile, .int laid, .int hre, .int opnd, .int bad, .int usg, .ref trc, .int trcd, .int isP])), (row, .inl (xI G, 400, .inl row_f)), (kpt, .inl (xI G, 400, .inl u1))] H := hP
  have hD : va_D A [(t, .inr (8, [.ref row, .ref kpt, .int images, .ref errs, .ref bitsOf, .ref sizeOf, .ref cels, .ref broken, .ref isFit, .ref breaks, .int mfit, .int known, .ref act, .ref wth, .ref facts, .ref pile, .int laid, .int hre, .int opnd, .int bad, .int usg, .ref trc, .int trcd, .int isP])), (row, .inl (xI G, 400, .inl row_f)), (kpt, .inl (xI G, 400, .inl u1))] := hD
  refine lv_aload_n hx hb dX8_image_11 rfl (lv_at hl 0 rfl) ?_
  refine lv_dup hx hb dX8_image_12 rfl ?_
  refine va_get (ci := 8) (v := .int images) (C := RX8) (T := TX8) (N := 24) hx hb hts (fun w h => tcons w (xin8 w h)) hown hK hP 0 rfl rfl 2 (by decide) (hts _ (tcons _ m1072)) (fun _ h9 => h9) rfl dX8_image_13 ?_
  refine lv_iconst (v := 1) hx hb dX8_image_16 (by decide) ?_
  refine lv_iadd hx hb dX8_image_17 ?_
  refine va_put (ci := 8) (v := .int (images + (1 : Int32))) (ty := .int) (C := RX8) (T := TX8) (N := 24) hx hb hts (fun w h => tcons w (xin8 w h)) tyX8 tyX8_ok nmX8 hown hK hP hD hS 0 rfl rfl 2 (by decide) (hts _ (tcons _ m1072)) (fun _ h9 => h9) rfl (by decide +kernel) rfl rfl (Nat.le_of_ble_eq_true rfl) dX8_image_18 (fun H locs hP hD hS => ?_)
  have hP : va_P G.1 vwCl [(t, .inr (8, [.ref row, .ref kpt, .int (images + (1 : Int32)), .ref errs, .ref bitsOf, .ref sizeOf, .ref cels, .ref broken, .ref isFit, .ref breaks, .int mfit, .int known, .ref act, .ref wth, .ref facts, .ref pile, .int laid, .int hre, .int opnd, .int bad, .int usg, .ref trc, .int trcd, .int isP])), (row, .inl (xI G, 400, .inl row_f)), (kpt, .inl (xI G, 400, .inl u1))] H := hP
  have hD : va_D A [(t, .inr (8, [.ref row, .ref kpt, .int (images + (1 : Int32)), .ref errs, .ref bitsOf, .ref sizeOf, .ref cels, .ref broken, .ref isFit, .ref breaks, .int mfit, .int known, .ref act, .ref wth, .ref facts, .ref pile, .int laid, .int hre, .int opnd, .int bad, .int usg, .ref trc, .int trcd, .int isP])), (row, .inl (xI G, 400, .inl row_f)), (kpt, .inl (xI G, 400, .inl u1))] := hD
  refine lv_aload_n hx hb dX8_image_21 rfl (lv_at hl 0 rfl) ?_
  refine va_get (ci := 8) (v := .int (images + (1 : Int32))) (C := RX8) (T := TX8) (N := 24) hx hb hts (fun w h => tcons w (xin8 w h)) hown hK hP 0 rfl rfl 2 (by decide) (hts _ (tcons _ m1072)) (fun _ h9 => h9) rfl dX8_image_22 ?_
  obtain rfl := Option.some.inj hF
  rw [← hQ]
  exact W.iret (v := (images + (1 : Int32))) hx hb hr (fun t ht hW => ⟨⟨_, (), rfl, ⟨rfl, rfl⟩, xLf hP ht⟩, hS.F ht⟩) hS.2.2 dX8_image_25
def F_X8_restore (images : Int32) (known : Int32) (row_f : Nat → Int32) (kpt_f : Nat → Int32) (errs_f : Nat → Int32) : Option (Int32 × Int32 × (Nat → Int32) × (Nat → Int32)) := if images = 0 then (bd (F_X8_error errs_f (-1000000002 : Int32)) (fun (u1 : (Int32 × (Nat → Int32))) => some (u1.1, known, row_f, u1.2))) else (bd (F_X8_copyAll kpt_f row_f) (fun (u1 : (Nat → Int32)) => some ((u1 (0 : Int32).toNatClampNeg), (0 : Int32), u1, errs_f)))
theorem hdX8_restore : yX8_restore.cls ≠ "java/lang/invoke/MethodHandle" ∧ yX8_restore.cls ≠ "java/lang/invoke/VarHandle" ∧ (parseMethodDescriptor yX8_restore.desc).map (fun d => d.parameters.length) = some 0 := by decide +kernel
set_option maxHeartbeats 4000000 in
set_option maxRecDepth 100000 in
theorem c_X8_restore (G : xG) (t : Nat) (row : Nat) (kpt : Nat) (errs : Nat) (bitsOf : Nat) (sizeOf : Nat) (cels : Nat) (broken : Nat) (isFit : Nat) (breaks : Nat) (act : Nat) (wth : Nat) (facts : Nat) (pile : Nat) (trc : Nat) (images : Int32) (mfit : Int32) (known : Int32) (laid : Int32) (hre : Int32) (opnd : Int32) (bad : Int32) (usg : Int32) (trcd : Int32) (isP : Int32) (row_f : Nat → Int32) (kpt_f : Nat → Int32) (errs_f : Nat → Int32)  (u : (Int32 × Int32 × (Nat → Int32) × (Nat → Int32))) (hF : F_X8_restore images known row_f kpt_f errs_f = some u) : Ki G .int yX8_restore (Cond.code yX8_restore cX8_restore 1 (some .int) :: TBL) { frames := 1, cells := 0, slots := 0, locals := 22 } [.ref t] [(t, .inr (8, [.ref row, .ref kpt, .int images, .ref errs, .ref bitsOf, .ref sizeOf, .ref cels, .ref broken, .ref isFit, .ref breaks, .int mfit, .int known, .ref act, .ref wth, .ref facts, .ref pile, .int laid, .int hre, .int opnd, .int bad, .int usg, .ref trc, .int trcd, .int isP])), (row, .inl (xI G, 400, .inl row_f)), (kpt, .inl (xI G, 400, .inl kpt_f)), (errs, .inl (xI G, 7, .inl errs_f))] [(t, .inr (8, [.ref row, .ref kpt, .int images, .ref errs, .ref bitsOf, .ref sizeOf, .ref cels, .ref broken, .ref isFit, .ref breaks, .int mfit, .int u.2.1, .ref act, .ref wth, .ref facts, .ref pile, .int laid, .int hre, .int opnd, .int bad, .int usg, .ref trc, .int trcd, .int isP])), (row, .inl (xI G, 400, .inl u.2.2.1)), (kpt, .inl (xI G, 400, .inl kpt_f)), (errs, .inl (xI G, 7, .inl u.2.2.2))] u.1 := by
  intro l sz
  refine Met.ofW (cc := cX8_restore) (maxL := 1) (ret := (some .int)) (by decide) rfl ?_
  intro p e s m args below meth c s₁ B hml hv
  obtain ⟨rfl, hsz, hP, hD0, hm⟩ := hv
  have hx := B.exec
  have hb := B.bytes
  have hr := B.returns
  have hts := atoms_spec (ws := Cond.code yX8_restore cX8_restore 1 (some .int) :: TBL) B.pre
  have hown : s.vm.findClass RX8 = some m.cls := findClass_of_methodNamed B.named
  have hlocks := B.notSynchronized
  subst hsz
  have hD := hD0.self (sz := s.heap.size)
  generalize hAe : va_A [(t, .inr (8, [.ref row, .ref kpt, .int images, .ref errs, .ref bitsOf, .ref sizeOf, .ref cels, .ref broken, .ref isFit, .ref breaks, .int mfit, .int known, .ref act, .ref wth, .ref facts, .ref pile, .int laid, .int hre, .int opnd, .int bad, .int usg, .ref trc, .int trcd, .int isP])), (row, .inl (xI G, 400, .inl row_f)), (kpt, .inl (xI G, 400, .inl kpt_f)), (errs, .inl (xI G, 7, .inl errs_f))] s.heap.size = A at hD hm ⊢
  have hA : ∀ q : Nat, s.heap.size ≤ q → A q := fun q h => by rw [← hAe]; exact Or.inr h
  have hK := hm.1
  have hZ : xAnd p m c cX8_restore 1 s _ (Cond.code yX8_restore cX8_restore 1 (some .int) :: TBL) RX8 G A := ⟨⟨hx, hb, hml, hown, hts⟩, tcons, hA, hm⟩
  have hP : va_P G.1 vwCl [(t, .inr (8, [.ref row, .ref kpt, .int images, .ref errs, .ref bitsOf, .ref sizeOf, .ref cels, .ref broken, .ref isFit, .ref breaks, .int mfit, .int known, .ref act, .ref wth, .ref facts, .ref pile, .int laid, .int hre, .int opnd, .int bad, .int usg, .ref trc, .int trcd, .int isP])), (row, .inl (xI G, 400, .inl row_f)), (kpt, .inl (xI G, 400, .inl kpt_f)), (errs, .inl (xI G, 7, .inl errs_f))] s.heap := hP
  have hl := lv_entry ([.ref t]) (n := 1) (Nat.le_of_ble_eq_true rfl)
  rw [lg_entry_eq]
  generalize (lg_sl ([.ref t]) ++ List.replicate (1 - (lg_sl ([.ref t])).length) Slot.unset).toArray = ls at hl ⊢
  have hl : lv_has ls 1 [(0, .ref t)] := hl
  generalize hQ : MQ below _ _ s _ _ _ = Q
  refine xGo (A := A) hP (fun H locs hP hS => ?_)
  unfold F_X8_restore at hF
  refine lv_aload_n hx hb dX8_restore_0 rfl (lv_at hl 0 rfl) ?_
  refine va_get (ci := 8) (v := .int images) (C := RX8) (T := TX8) (N := 24) hx hb hts (fun w h => tcons w (xin8 w h)) hown hK hP 0 rfl rfl 2 (by decide) (hts _ (tcons _ m1072)) (fun _ h9 => h9) rfl dX8_restore_1 ?_
  refine lv_if_ne (tgt := 14) hx hb dX8_restore_4 (by decide) (fun c4 => ?_) (fun c4 => ?_)
  · have hF := itN c4 hF
    refine lv_aload_n hx hb dX8_restore_14 rfl (lv_at hl 0 rfl) ?_
    refine va_get (ci := 8) (v := .ref kpt) (C := RX8) (T := TX8) (N := 24) hx hb hts (fun w h => tcons w (xin8 w h)) hown hK hP 0 rfl rfl 1 (by decide) (hts _ (tcons _ m138)) (fun _ h9 => h9) rfl dX8_restore_15 ?_
    refine lv_aload_n hx hb dX8_restore_18 rfl (lv_at hl 0 rfl) ?_
    refine va_get (ci := 8) (v := .ref row) (C := RX8) (T := TX8) (N := 24) hx hb hts (fun w h => tcons w (xin8 w h)) hown hK hP 0 rfl rfl 0 (by decide) (hts _ (tcons _ m137)) (fun _ h9 => h9) rfl dX8_restore_19 ?_
    obtain ⟨u1, e1, hF⟩ := bdS hF
    refine xEndV (xRunS (As := [.ref kpt, .ref row]) (rest := []) hZ (c_X8_copyAll G kpt row kpt_f row_f u1 e1 l H.size) m1073 m1074 m5 m1075 2 hdX8_copyAll ⟨Nat.le_of_ble_eq_true rfl, Nat.le_of_ble_eq_true rfl⟩ ⟨rfl, rfl⟩ hP hD hS [2, 1] rfl rfl rfl hl.1 rfl (Nat.le_of_ble_eq_true rfl) dX8_restore_22 ⟨Nat.zero_le _, Nat.zero_le _⟩) hP hD hS hA [2, 1] rfl rfl rfl (fun H locs hP hD hS => ?_)
    have hP : va_P G.1 vwCl [(t, .inr (8, [.ref row, .ref kpt, .int images, .ref errs, .ref bitsOf, .ref sizeOf, .ref cels, .ref broken, .ref isFit, .ref breaks, .int mfit, .int known, .ref act, .ref wth, .ref facts, .ref pile, .int laid, .int hre, .int opnd, .int bad, .int usg, .ref trc, .int trcd, .int isP])), (row, .inl (xI G, 400, .inl u1)), (kpt, .inl (xI G, 400, .inl kpt_f)), (errs, .inl (xI G, 7, .inl errs_f))] H := hP
    have hD : va_D A [(t, .inr (8, [.ref row, .ref kpt, .int images, .ref errs, .ref bitsOf, .ref sizeOf, .ref cels, .ref broken, .ref isFit, .ref breaks, .int mfit, .int known, .ref act, .ref wth, .ref facts, .ref pile, .int laid, .int hre, .int opnd, .int bad, .int usg, .ref trc, .int trcd, .int isP])), (row, .inl (xI G, 400, .inl u1)), (kpt, .inl (xI G, 400, .inl kpt_f)), (errs, .inl (xI G, 7, .inl errs_f))] := hD
    refine lv_aload_n hx hb dX8_restore_25 rfl (lv_at hl 0 rfl) ?_
    refine lv_iconst (v := 0) hx hb dX8_restore_26 (by decide) ?_
    refine va_put (ci := 8) (v := .int (0 : Int32)) (ty := .boolean) (C := RX8) (T := TX8) (N := 24) hx hb hts (fun w h => tcons w (xin8 w h)) tyX8 tyX8_ok nmX8 hown hK hP hD hS 0 rfl rfl 11 (by decide) (hts _ (tcons _ m316)) (fun _ h9 => h9) rfl (by decide +kernel) (by decide) (by decide) (Nat.le_of_ble_eq_true rfl) dX8_restore_27 (fun H locs hP hD hS => ?_)
    have hP : va_P G.1 vwCl [(t, .inr (8, [.ref row, .ref kpt, .int images, .ref errs, .ref bitsOf, .ref sizeOf, .ref cels, .ref broken, .ref isFit, .ref breaks, .int mfit, .int (0 : Int32), .ref act, .ref wth, .ref facts, .ref pile, .int laid, .int hre, .int opnd, .int bad, .int usg, .ref trc, .int trcd, .int isP])), (row, .inl (xI G, 400, .inl u1)), (kpt, .inl (xI G, 400, .inl kpt_f)), (errs, .inl (xI G, 7, .inl errs_f))] H := hP
    have hD : va_D A [(t, .inr (8, [.ref row, .ref kpt, .int images, .ref errs, .ref bitsOf, .ref sizeOf, .ref cels, .ref broken, .ref isFit, .ref breaks, .int mfit, .int (0 : Int32), .ref act, .ref wth, .ref facts, .ref pile, .int laid, .int hre, .int opnd, .int bad, .int usg, .ref trc, .int trcd, .int isP])), (row, .inl (xI G, 400, .inl u1)), (kpt, .inl (xI G, 400, .inl kpt_f)), (errs, .inl (xI G, 7, .inl errs_f))] := hD
    refine lv_aload_n hx hb dX8_restore_30 rfl (lv_at hl 0 rfl) ?_
    refine va_get (ci := 8) (v := .ref row) (C := RX8) (T := TX8) (N := 24) hx hb hts (fun w h => tcons w (xin8 w h)) hown hK hP 0 rfl rfl 0 (by decide) (hts _ (tcons _ m137)) (fun _ h9 => h9) rfl dX8_restore_31 ?_
    refine lv_iconst (v := 0) hx hb dX8_restore_34 (by decide) ?_
    refine va_iald hx hb hK hP 1 0 rfl rfl (by unfold vp_in; decide) dX8_restore_35 ?_
    obtain rfl := Option.some.inj hF
    rw [← hQ]
    exact W.iret (v := (u1 (0 : Int32).toNatClampNeg)) hx hb hr (fun t ht hW => ⟨⟨_, (), rfl, ⟨rfl, rfl⟩, xLf hP ht⟩, hS.F ht⟩) hS.2.2 dX8_restore_36
  · have hF := itP c4 hF
    refine lv_aload_n hx hb dX8_restore_7 rfl (lv_at hl 0 rfl) ?_
    refine lv_ldc (v := -1000000002) hx hb hown (hts _ (tcons _ m805)) dX8_restore_8 ?_
    obtain ⟨u1, e1, hF⟩ := bdS hF
    refine xEndI (xRunV (As := [.int (-1000000002 : Int32)]) (rest := []) hZ (c_X8_error G t row kpt errs bitsOf sizeOf cels broken isFit breaks act wth facts pile trc images mfit known laid hre opnd bad usg trcd isP errs_f (-1000000002 : Int32) u1 e1 l H.size) m193 m194 m195 m5 m196 1 ⟨rfl, hdX8_error⟩ ⟨Nat.le_of_ble_eq_true rfl, Nat.le_of_ble_eq_true rfl⟩ ⟨rfl, rfl⟩ hP hD hS 0 8 rfl rfl rfl [0, 3] rfl rfl rfl hl.1 rfl (Nat.le_of_ble_eq_true rfl) dX8_restore_10 ⟨Nat.zero_le _, Nat.zero_le _⟩) hP hD hS hA [0, 3] rfl rfl rfl (fun H locs n1 hP hD hS => ?_)
    have hP : va_P G.1 vwCl [(t, .inr (8, [.ref row, .ref kpt, .int images, .ref errs, .ref bitsOf, .ref sizeOf, .ref cels, .ref broken, .ref isFit, .ref breaks, .int mfit, .int known, .ref act, .ref wth, .ref facts, .ref pile, .int laid, .int hre, .int opnd, .int bad, .int usg, .ref trc, .int trcd, .int isP])), (row, .inl (xI G, 400, .inl row_f)), (kpt, .inl (xI G, 400, .inl kpt_f)), (errs, .inl (xI G, 7, .inl u1.2))] H := hP
    have hD : va_D A [(t, .inr (8, [.ref row, .ref kpt, .int images, .ref errs, .ref bitsOf, .ref sizeOf, .ref cels, .ref broken, .ref isFit, .ref breaks, .int mfit, .int known, .ref act, .ref wth, .ref facts, .ref pile, .int laid, .int hre, .int opnd, .int bad, .int usg, .ref trc, .int trcd, .int isP])), (row, .inl (xI G, 400, .inl row_f)), (kpt, .inl (xI G, 400, .inl kpt_f)), (errs, .inl (xI G, 7, .inl u1.2))] := hD
    obtain rfl := Option.some.inj hF
    rw [← hQ]
    exact W.iret (v := u1.1) hx hb hr (fun t ht hW => ⟨⟨_, (), rfl, ⟨rfl, rfl⟩, xLf hP ht⟩, hS.F ht⟩) hS.2.2 dX8_restore_13
def F_X8_tell (row_f : Nat → Int32) (errs_f : Nat → Int32) (vo : Int32) : Option (Int32 × (Nat → Int32) × (Nat → Int32)) := if (row_f (7 : Int32).toNatClampNeg) = (24 : Int32) then (bd (F_X8_error errs_f (-1000000004 : Int32)) (fun (u1 : (Int32 × (Nat → Int32))) => some (u1.1, row_f, u1.2))) else (if (((134 : Int32) + (row_f (7 : Int32).toNatClampNeg)) < 0 ∨ 400 ≤ ((134 : Int32) + (row_f (7 : Int32).toNatClampNeg)).toNatClampNeg) then none else (some (((upd (upd row_f ((134 : Int32) + (row_f (7 : Int32).toNatClampNeg)).toNatClampNeg vo) (7 : Int32).toNatClampNeg (((upd row_f ((134 : Int32) + (row_f (7 : Int32).toNatClampNeg)).toNatClampNeg vo) (7 : Int32).toNatClampNeg) + (1 : Int32))) (7 : Int32).toNatClampNeg), (upd (upd row_f ((134 : Int32) + (row_f (7 : Int32).toNatClampNeg)).toNatClampNeg vo) (7 : Int32).toNatClampNeg (((upd row_f ((134 : Int32) + (row_f (7 : Int32).toNatClampNeg)).toNatClampNeg vo) (7 : Int32).toNatClampNeg) + (1 : Int32))), errs_f)))
theorem hdX8_tell : yX8_tell.cls ≠ "java/lang/invoke/MethodHandle" ∧ yX8_tell.cls ≠ "java/lang/invoke/VarHandle" ∧ (parseMethodDescriptor yX8_tell.desc).map (fun d => d.parameters.length) = some 1 := by decide +kernel
set_option maxHeartbeats 4000000 in
set_option maxRecDepth 100000 in
theorem c_X8_tell (G : xG) (t : Nat) (row : Nat) (kpt : Nat) (errs : Nat) (bitsOf : Nat) (sizeOf : Nat) (cels : Nat) (broken : Nat) (isFit : Nat) (breaks : Nat) (act : Nat) (wth : Nat) (facts : Nat) (pile : Nat) (trc : Nat) (images : Int32) (mfit : Int32) (known : Int32) (laid : Int32) (hre : Int32) (opnd : Int32) (bad : Int32) (usg : Int32) (trcd : Int32) (isP : Int32) (row_f : Nat → Int32) (errs_f : Nat → Int32) (vo : Int32)  (u : (Int32 × (Nat → Int32) × (Nat → Int32))) (hF : F_X8_tell row_f errs_f vo = some u) : Ki G .int yX8_tell (Cond.code yX8_tell cX8_tell 2 (some .int) :: TBL) { frames := 1, cells := 0, slots := 0, locals := 21 } [.ref t, .int vo] [(t, .inr (8, [.ref row, .ref kpt, .int images, .ref errs, .ref bitsOf, .ref sizeOf, .ref cels, .ref broken, .ref isFit, .ref breaks, .int mfit, .int known, .ref act, .ref wth, .ref facts, .ref pile, .int laid, .int hre, .int opnd, .int bad, .int usg, .ref trc, .int trcd, .int isP])), (row, .inl (xI G, 400, .inl row_f)), (errs, .inl (xI G, 7, .inl errs_f))] [(t, .inr (8, [.ref row, .ref kpt, .int images, .ref errs, .ref bitsOf, .ref sizeOf, .ref cels, .ref broken, .ref isFit, .ref breaks, .int mfit, .int known, .ref act, .ref wth, .ref facts, .ref pile, .int laid, .int hre, .int opnd, .int bad, .int usg, .ref trc, .int trcd, .int isP])), (row, .inl (xI G, 400, .inl u.2.1)), (errs, .inl (xI G, 7, .inl u.2.2))] u.1 := by
  intro l sz
  refine Met.ofW (cc := cX8_tell) (maxL := 2) (ret := (some .int)) (by decide) rfl ?_
  intro p e s m args below meth c s₁ B hml hv
  obtain ⟨rfl, hsz, hP, hD0, hm⟩ := hv
  have hx := B.exec
  have hb := B.bytes
  have hr := B.returns
  have hts := atoms_spec (ws := Cond.code yX8_tell cX8_tell 2 (some .int) :: TBL) B.pre
  have hown : s.vm.findClass RX8 = some m.cls := findClass_of_methodNamed B.named
  have hlocks := B.notSynchronized
  subst hsz
  have hD := hD0.self (sz := s.heap.size)
  generalize hAe : va_A [(t, .inr (8, [.ref row, .ref kpt, .int images, .ref errs, .ref bitsOf, .ref sizeOf, .ref cels, .ref broken, .ref isFit, .ref breaks, .int mfit, .int known, .ref act, .ref wth, .ref facts, .ref pile, .int laid, .int hre, .int opnd, .int bad, .int usg, .ref trc, .int trcd, .int isP])), (row, .inl (xI G, 400, .inl row_f)), (errs, .inl (xI G, 7, .inl errs_f))] s.heap.size = A at hD hm ⊢
  have hA : ∀ q : Nat, s.heap.size ≤ q → A q := fun q h => by rw [← hAe]; exact Or.inr h
  have hK := hm.1
  have hZ : xAnd p m c cX8_tell 2 s _ (Cond.code yX8_tell cX8_tell 2 (some .int) :: TBL) RX8 G A := ⟨⟨hx, hb, hml, hown, hts⟩, tcons, hA, hm⟩
  have hP : va_P G.1 vwCl [(t, .inr (8, [.ref row, .ref kpt, .int images, .ref errs, .ref bitsOf, .ref sizeOf, .ref cels, .ref broken, .ref isFit, .ref breaks, .int mfit, .int known, .ref act, .ref wth, .ref facts, .ref pile, .int laid, .int hre, .int opnd, .int bad, .int usg, .ref trc, .int trcd, .int isP])), (row, .inl (xI G, 400, .inl row_f)), (errs, .inl (xI G, 7, .inl errs_f))] s.heap := hP
  have hl := lv_entry ([.ref t, .int vo]) (n := 2) (Nat.le_of_ble_eq_true rfl)
  rw [lg_entry_eq]
  generalize (lg_sl ([.ref t, .int vo]) ++ List.replicate (2 - (lg_sl ([.ref t, .int vo])).length) Slot.unset).toArray = ls at hl ⊢
  have hl : lv_has ls 2 [(0, .ref t), (1, .int vo)] := hl
  generalize hQ : MQ below _ _ s _ _ _ = Q
  refine xGo (A := A) hP (fun H locs hP hS => ?_)
  unfold F_X8_tell at hF
  refine lv_aload_n hx hb dX8_tell_0 rfl (lv_at hl 0 rfl) ?_
  refine va_get (ci := 8) (v := .ref row) (C := RX8) (T := TX8) (N := 24) hx hb hts (fun w h => tcons w (xin8 w h)) hown hK hP 0 rfl rfl 0 (by decide) (hts _ (tcons _ m137)) (fun _ h9 => h9) rfl dX8_tell_1 ?_
  refine lv_bipush (v := 7) hx hb dX8_tell_4 (by decide) ?_
  refine va_iald hx hb hK hP 1 0 rfl rfl (by unfold vp_in; decide) dX8_tell_6 ?_
  refine lv_bipush (v := 24) hx hb dX8_tell_7 (by decide) ?_
  refine lv_icmp_ne (tgt := 19) hx hb dX8_tell_9 (by decide) (fun c9 => ?_) (fun c9 => ?_)
  · have hF := itN c9 hF
    refine lv_aload_n hx hb dX8_tell_19 rfl (lv_at hl 0 rfl) ?_
    refine va_get (ci := 8) (v := .ref row) (C := RX8) (T := TX8) (N := 24) hx hb hts (fun w h => tcons w (xin8 w h)) hown hK hP 0 rfl rfl 0 (by decide) (hts _ (tcons _ m137)) (fun _ h9 => h9) rfl dX8_tell_20 ?_
    refine lv_sipush (v := 134) hx hb dX8_tell_23 (by decide) ?_
    refine lv_aload_n hx hb dX8_tell_26 rfl (lv_at hl 0 rfl) ?_
    refine va_get (ci := 8) (v := .ref row) (C := RX8) (T := TX8) (N := 24) hx hb hts (fun w h => tcons w (xin8 w h)) hown hK hP 0 rfl rfl 0 (by decide) (hts _ (tcons _ m137)) (fun _ h9 => h9) rfl dX8_tell_27 ?_
    refine lv_bipush (v := 7) hx hb dX8_tell_30 (by decide) ?_
    refine va_iald hx hb hK hP 1 0 rfl rfl (by unfold vp_in; decide) dX8_tell_32 ?_
    refine lv_iadd hx hb dX8_tell_33 ?_
    refine lv_iload_n hx hb dX8_tell_34 rfl (lv_at hl 1 rfl) ?_
    obtain ⟨g35, hF⟩ := gdS hF
    refine va_iast hx hb hK hP hD hS 1 0 rfl rfl g35 dX8_tell_35 (fun H locs hP hD hS => ?_)
    have hP : va_P G.1 vwCl [(t, .inr (8, [.ref row, .ref kpt, .int images, .ref errs, .ref bitsOf, .ref sizeOf, .ref cels, .ref broken, .ref isFit, .ref breaks, .int mfit, .int known, .ref act, .ref wth, .ref facts, .ref pile, .int laid, .int hre, .int opnd, .int bad, .int usg, .ref trc, .int trcd, .int isP])), (row, .inl (xI G, 400, .inl (upd row_f ((134 : Int32) + (row_f (7 : Int32).toNatClampNeg)).toNatClampNeg vo))), (errs, .inl (xI G, 7, .inl errs_f))] H := hP
    have hD : va_D A [(t, .inr (8, [.ref row, .ref kpt, .int images, .ref errs, .ref bitsOf, .ref sizeOf, .ref cels, .ref broken, .ref isFit, .ref breaks, .int mfit, .int known, .ref act, .ref wth, .ref facts, .ref pile, .int laid, .int hre, .int opnd, .int bad, .int usg, .ref trc, .int trcd, .int isP])), (row, .inl (xI G, 400, .inl (upd row_f ((134 : Int32) + (row_f (7 : Int32).toNatClampNeg)).toNatClampNeg vo))), (errs, .inl (xI G, 7, .inl errs_f))] := hD
    refine lv_aload_n hx hb dX8_tell_36 rfl (lv_at hl 0 rfl) ?_
    refine va_get (ci := 8) (v := .ref row) (C := RX8) (T := TX8) (N := 24) hx hb hts (fun w h => tcons w (xin8 w h)) hown hK hP 0 rfl rfl 0 (by decide) (hts _ (tcons _ m137)) (fun _ h9 => h9) rfl dX8_tell_37 ?_
    refine lv_bipush (v := 7) hx hb dX8_tell_40 (by decide) ?_
    refine lv_dup2_11 hx hb dX8_tell_42 rfl rfl ?_
    refine va_iald hx hb hK hP 1 0 rfl rfl (by unfold vp_in; decide) dX8_tell_43 ?_
    refine lv_iconst (v := 1) hx hb dX8_tell_44 (by decide) ?_
    refine lv_iadd hx hb dX8_tell_45 ?_
    refine va_iast hx hb hK hP hD hS 1 0 rfl rfl (by unfold vp_in; decide) dX8_tell_46 (fun H locs hP hD hS => ?_)
    have hP : va_P G.1 vwCl [(t, .inr (8, [.ref row, .ref kpt, .int images, .ref errs, .ref bitsOf, .ref sizeOf, .ref cels, .ref broken, .ref isFit, .ref breaks, .int mfit, .int known, .ref act, .ref wth, .ref facts, .ref pile, .int laid, .int hre, .int opnd, .int bad, .int usg, .ref trc, .int trcd, .int isP])), (row, .inl (xI G, 400, .inl (upd (upd row_f ((134 : Int32) + (row_f (7 : Int32).toNatClampNeg)).toNatClampNeg vo) (7 : Int32).toNatClampNeg (((upd row_f ((134 : Int32) + (row_f (7 : Int32).toNatClampNeg)).toNatClampNeg vo) (7 : Int32).toNatClampNeg) + (1 : Int32))))), (errs, .inl (xI G, 7, .inl errs_f))] H := hP
    have hD : va_D A [(t, .inr (8, [.ref row, .ref kpt, .int images, .ref errs, .ref bitsOf, .ref sizeOf, .ref cels, .ref broken, .ref isFit, .ref breaks, .int mfit, .int known, .ref act, .ref wth, .ref facts, .ref pile, .int laid, .int hre, .int opnd, .int bad, .int usg, .ref trc, .int trcd, .int isP])), (row, .inl (xI G, 400, .inl (upd (upd row_f ((134 : Int32) + (row_f (7 : Int32).toNatClampNeg)).toNatClampNeg vo) (7 : Int32).toNatClampNeg (((upd row_f ((134 : Int32) + (row_f (7 : Int32).toNatClampNeg)).toNatClampNeg vo) (7 : Int32).toNatClampNeg) + (1 : Int32))))), (errs, .inl (xI G, 7, .inl errs_f))] := hD
    refine lv_aload_n hx hb dX8_tell_47 rfl (lv_at hl 0 rfl) ?_
    refine va_get (ci := 8) (v := .ref row) (C := RX8) (T := TX8) (N := 24) hx hb hts (fun w h => tcons w (xin8 w h)) hown hK hP 0 rfl rfl 0 (by decide) (hts _ (tcons _ m137)) (fun _ h9 => h9) rfl dX8_tell_48 ?_
    refine lv_bipush (v := 7) hx hb dX8_tell_51 (by decide) ?_
    refine va_iald hx hb hK hP 1 0 rfl rfl (by unfold vp_in; decide) dX8_tell_53 ?_
    obtain rfl := Option.some.inj hF
    rw [← hQ]
    exact W.iret (v := ((upd (upd row_f ((134 : Int32) + (row_f (7 : Int32).toNatClampNeg)).toNatClampNeg vo) (7 : Int32).toNatClampNeg (((upd row_f ((134 : Int32) + (row_f (7 : Int32).toNatClampNeg)).toNatClampNeg vo) (7 : Int32).toNatClampNeg) + (1 : Int32))) (7 : Int32).toNatClampNeg)) hx hb hr (fun t ht hW => ⟨⟨_, (), rfl, ⟨rfl, rfl⟩, xLf hP ht⟩, hS.F ht⟩) hS.2.2 dX8_tell_54
  · have hF := itP c9 hF
    refine lv_aload_n hx hb dX8_tell_12 rfl (lv_at hl 0 rfl) ?_
    refine lv_ldc (v := -1000000004) hx hb hown (hts _ (tcons _ m186)) dX8_tell_13 ?_
    obtain ⟨u1, e1, hF⟩ := bdS hF
    refine xEndI (xRunV (As := [.int (-1000000004 : Int32)]) (rest := []) hZ (c_X8_error G t row kpt errs bitsOf sizeOf cels broken isFit breaks act wth facts pile trc images mfit known laid hre opnd bad usg trcd isP errs_f (-1000000004 : Int32) u1 e1 l H.size) m193 m194 m195 m5 m196 1 ⟨rfl, hdX8_error⟩ ⟨Nat.le_of_ble_eq_true rfl, Nat.le_of_ble_eq_true rfl⟩ ⟨rfl, rfl⟩ hP hD hS 0 8 rfl rfl rfl [0, 2] rfl rfl rfl hl.1 rfl (Nat.le_of_ble_eq_true rfl) dX8_tell_15 ⟨Nat.zero_le _, Nat.zero_le _⟩) hP hD hS hA [0, 2] rfl rfl rfl (fun H locs n1 hP hD hS => ?_)
    have hP : va_P G.1 vwCl [(t, .inr (8, [.ref row, .ref kpt, .int images, .ref errs, .ref bitsOf, .ref sizeOf, .ref cels, .ref broken, .ref isFit, .ref breaks, .int mfit, .int known, .ref act, .ref wth, .ref facts, .ref pile, .int laid, .int hre, .int opnd, .int bad, .int usg, .ref trc, .int trcd, .int isP])), (row, .inl (xI G, 400, .inl row_f)), (errs, .inl (xI G, 7, .inl u1.2))] H := hP
    have hD : va_D A [(t, .inr (8, [.ref row, .ref kpt, .int images, .ref errs, .ref bitsOf, .ref sizeOf, .ref cels, .ref broken, .ref isFit, .ref breaks, .int mfit, .int known, .ref act, .ref wth, .ref facts, .ref pile, .int laid, .int hre, .int opnd, .int bad, .int usg, .ref trc, .int trcd, .int isP])), (row, .inl (xI G, 400, .inl row_f)), (errs, .inl (xI G, 7, .inl u1.2))] := hD
    obtain rfl := Option.some.inj hF
    rw [← hQ]
    exact W.iret (v := u1.1) hx hb hr (fun t ht hW => ⟨⟨_, (), rfl, ⟨rfl, rfl⟩, xLf hP ht⟩, hS.F ht⟩) hS.2.2 dX8_tell_18
def B_X8_check_18 (row_f : Nat → Int32) (k18 : (Int32) → Option (Int32 × (Nat → Int32))) (v18 : (Int32)) : Option (Int32 × (Nat → Int32)) := if (row_f (7 : Int32).toNatClampNeg) ≤ v18 then (some ((0 : Int32), (upd row_f (7 : Int32).toNatClampNeg (0 : Int32)))) else (bd (F_X8_isBrother (upd row_f (7 : Int32).toNatClampNeg (0 : Int32)) v18) (fun (u1 : Int32) => if u1 = 0 then (some (((1 : Int32) + v18), (upd row_f (7 : Int32).toNatClampNeg (0 : Int32)))) else (if (((134 : Int32) + v18) < 0 ∨ 400 ≤ ((134 : Int32) + v18).toNatClampNeg) then none else (bd (F_X8_of (upd row_f (7 : Int32).toNatClampNeg (0 : Int32)) v18 (2 : Int32)) (fun (u2 : Int32) => if ((upd row_f (7 : Int32).toNatClampNeg (0 : Int32)) ((134 : Int32) + v18).toNatClampNeg) = u2 then (k18 (v18 + (1 : Int32))) else (some (((1 : Int32) + v18), (upd row_f (7 : Int32).toNatClampNeg (0 : Int32)))))))))
def F_X8_check (row_f : Nat → Int32) : Option (Int32 × (Nat → Int32)) := lp (B_X8_check_18 row_f) fuelC (0 : Int32)
theorem hdX8_check : yX8_check.cls ≠ "java/lang/invoke/MethodHandle" ∧ yX8_check.cls ≠ "java/lang/invoke/VarHandle" ∧ (parseMethodDescriptor yX8_check.desc).map (fun d => d.parameters.length) = some 0 := by decide +kernel
set_option maxHeartbeats 4000000 in
set_option maxRecDepth 100000 in
theorem c_X8_check (G : xG) (t : Nat) (row : Nat) (kpt : Nat) (errs : Nat) (bitsOf : Nat) (sizeOf : Nat) (cels : Nat) (broken : Nat) (isFit : Nat) (breaks : Nat) (act : Nat) (wth : Nat) (facts : Nat) (pile : Nat) (trc : Nat) (images : Int32) (mfit : Int32) (known : Int32) (laid : Int32) (hre : Int32) (opnd : Int32) (bad : Int32) (usg : Int32) (trcd : Int32) (isP : Int32) (row_f : Nat → Int32)  (u : (Int32 × (Nat → Int32))) (hF : F_X8_check row_f = some u) : Ki G .int yX8_check (Cond.code yX8_check cX8_check 3 (some .int) :: TBL) { frames := 2, cells := 0, slots := 0, locals := 43 } [.ref t] [(t, .inr (8, [.ref row, .ref kpt, .int images, .ref errs, .ref bitsOf, .ref sizeOf, .ref cels, .ref broken, .ref isFit, .ref breaks, .int mfit, .int known, .ref act, .ref wth, .ref facts, .ref pile, .int laid, .int hre, .int opnd, .int bad, .int usg, .ref trc, .int trcd, .int isP])), (row, .inl (xI G, 400, .inl row_f))] [(t, .inr (8, [.ref row, .ref kpt, .int images, .ref errs, .ref bitsOf, .ref sizeOf, .ref cels, .ref broken, .ref isFit, .ref breaks, .int mfit, .int known, .ref act, .ref wth, .ref facts, .ref pile, .int laid, .int hre, .int opnd, .int bad, .int usg, .ref trc, .int trcd, .int isP])), (row, .inl (xI G, 400, .inl u.2))] u.1 := by
  intro l sz
  refine Met.ofW (cc := cX8_check) (maxL := 3) (ret := (some .int)) (by decide) rfl ?_
  intro p e s m args below meth c s₁ B hml hv
  obtain ⟨rfl, hsz, hP, hD0, hm⟩ := hv
  have hx := B.exec
  have hb := B.bytes
  have hr := B.returns
  have hts := atoms_spec (ws := Cond.code yX8_check cX8_check 3 (some .int) :: TBL) B.pre
  have hown : s.vm.findClass RX8 = some m.cls := findClass_of_methodNamed B.named
  have hlocks := B.notSynchronized
  subst hsz
  have hD := hD0.self (sz := s.heap.size)
  generalize hAe : va_A [(t, .inr (8, [.ref row, .ref kpt, .int images, .ref errs, .ref bitsOf, .ref sizeOf, .ref cels, .ref broken, .ref isFit, .ref breaks, .int mfit, .int known, .ref act, .ref wth, .ref facts, .ref pile, .int laid, .int hre, .int opnd, .int bad, .int usg, .ref trc, .int trcd, .int isP])), (row, .inl (xI G, 400, .inl row_f))] s.heap.size = A at hD hm ⊢
  have hA : ∀ q : Nat, s.heap.size ≤ q → A q := fun q h => by rw [← hAe]; exact Or.inr h
  have hK := hm.1
  have hZ : xAnd p m c cX8_check 3 s _ (Cond.code yX8_check cX8_check 3 (some .int) :: TBL) RX8 G A := ⟨⟨hx, hb, hml, hown, hts⟩, tcons, hA, hm⟩
  have hP : va_P G.1 vwCl [(t, .inr (8, [.ref row, .ref kpt, .int images, .ref errs, .ref bitsOf, .ref sizeOf, .ref cels, .ref broken, .ref isFit, .ref breaks, .int mfit, .int known, .ref act, .ref wth, .ref facts, .ref pile, .int laid, .int hre, .int opnd, .int bad, .int usg, .ref trc, .int trcd, .int isP])), (row, .inl (xI G, 400, .inl row_f))] s.heap := hP
  have hl := lv_entry ([.ref t]) (n := 3) (Nat.le_of_ble_eq_true rfl)
  rw [lg_entry_eq]
  generalize (lg_sl ([.ref t]) ++ List.replicate (3 - (lg_sl ([.ref t])).length) Slot.unset).toArray = ls at hl ⊢
  have hl : lv_has ls 3 [(0, .ref t)] := hl
  generalize hQ : MQ below _ _ s _ _ _ = Q
  refine xGo (A := A) hP (fun H locs hP hS => ?_)
  unfold F_X8_check at hF
  refine lv_aload_n hx hb dX8_check_0 rfl (lv_at hl 0 rfl) ?_
  refine va_get (ci := 8) (v := .ref row) (C := RX8) (T := TX8) (N := 24) hx hb hts (fun w h => tcons w (xin8 w h)) hown hK hP 0 rfl rfl 0 (by decide) (hts _ (tcons _ m137)) (fun _ h9 => h9) rfl dX8_check_1 ?_
  refine lv_bipush (v := 7) hx hb dX8_check_4 (by decide) ?_
  refine va_iald hx hb hK hP 1 0 rfl rfl (by unfold vp_in; decide) dX8_check_6 ?_
  refine lv_istore_n (lv' := [(1, .int (row_f (7 : Int32).toNatClampNeg)), (0, .ref t)]) hx hb dX8_check_7 rfl hl (by decide) rfl (fun ls hl => ?_)
  refine lv_aload_n hx hb dX8_check_8 rfl (lv_at hl 1 rfl) ?_
  refine va_get (ci := 8) (v := .ref row) (C := RX8) (T := TX8) (N := 24) hx hb hts (fun w h => tcons w (xin8 w h)) hown hK hP 0 rfl rfl 0 (by decide) (hts _ (tcons _ m137)) (fun _ h9 => h9) rfl dX8_check_9 ?_
  refine lv_bipush (v := 7) hx hb dX8_check_12 (by decide) ?_
  refine lv_iconst (v := 0) hx hb dX8_check_14 (by decide) ?_
  refine va_iast hx hb hK hP hD hS 1 0 rfl rfl (by unfold vp_in; decide) dX8_check_15 (fun H locs hP hD hS => ?_)
  have hP : va_P G.1 vwCl [(t, .inr (8, [.ref row, .ref kpt, .int images, .ref errs, .ref bitsOf, .ref sizeOf, .ref cels, .ref broken, .ref isFit, .ref breaks, .int mfit, .int known, .ref act, .ref wth, .ref facts, .ref pile, .int laid, .int hre, .int opnd, .int bad, .int usg, .ref trc, .int trcd, .int isP])), (row, .inl (xI G, 400, .inl (upd row_f (7 : Int32).toNatClampNeg (0 : Int32))))] H := hP
  have hD : va_D A [(t, .inr (8, [.ref row, .ref kpt, .int images, .ref errs, .ref bitsOf, .ref sizeOf, .ref cels, .ref broken, .ref isFit, .ref breaks, .int mfit, .int known, .ref act, .ref wth, .ref facts, .ref pile, .int laid, .int hre, .int opnd, .int bad, .int usg, .ref trc, .int trcd, .int isP])), (row, .inl (xI G, 400, .inl (upd row_f (7 : Int32).toNatClampNeg (0 : Int32))))] := hD
  refine lv_iconst (v := 0) hx hb dX8_check_16 (by decide) ?_
  refine lv_istore_n (lv' := [(2, .int (0 : Int32)), (1, .int (row_f (7 : Int32).toNatClampNeg)), (0, .ref t)]) hx hb dX8_check_17 rfl hl (by decide) rfl (fun ls hl => ?_)
  refine xLoop1 (body := (B_X8_check_18 row_f)) (fun (v18_0 : Int32) H locs ls => va_P G.1 vwCl [(t, .inr (8, [.ref row, .ref kpt, .int images, .ref errs, .ref bitsOf, .ref sizeOf, .ref cels, .ref broken, .ref isFit, .ref breaks, .int mfit, .int known, .ref act, .ref wth, .ref facts, .ref pile, .int laid, .int hre, .int opnd, .int bad, .int usg, .ref trc, .int trcd, .int isP])), (row, .inl (xI G, 400, .inl (upd row_f (7 : Int32).toNatClampNeg (0 : Int32))))] H ∧ va_D A [(t, .inr (8, [.ref row, .ref kpt, .int images, .ref errs, .ref bitsOf, .ref sizeOf, .ref cels, .ref broken, .ref isFit, .ref breaks, .int mfit, .int known, .ref act, .ref wth, .ref facts, .ref pile, .int laid, .int hre, .int opnd, .int bad, .int usg, .ref trc, .int trcd, .int isP])), (row, .inl (xI G, 400, .inl (upd row_f (7 : Int32).toNatClampNeg (0 : Int32))))] ∧ va_S A s.heap H locs ∧ lv_has ls 3 [(0, .ref t), (1, .int (row_f (7 : Int32).toNatClampNeg)), (2, .int v18_0)]) (fun N18 v18_0 ih18 H locs ls hI hF => ?_) fuelC (0 : Int32) H locs ls ⟨hP, hD, hS, lv_sub hl [2, 1, 0] rfl⟩ hF
  obtain ⟨hP, hD, hS, hl⟩ := hI
  unfold B_X8_check_18 at hF
  refine lv_iload_n hx hb dX8_check_18 rfl (lv_at hl 2 rfl) ?_
  refine lv_iload_n hx hb dX8_check_19 rfl (lv_at hl 1 rfl) ?_
  refine lv_icmp_ge (tgt := 60) hx hb dX8_check_20 (by decide) (fun c20 => ?_) (fun c20 => ?_)
  · have hF := itP c20 hF
    refine lv_iconst (v := 0) hx hb dX8_check_60 (by decide) ?_
    obtain rfl := Option.some.inj hF
    rw [← hQ]
    exact W.iret (v := (0 : Int32)) hx hb hr (fun t ht hW => ⟨⟨_, (), rfl, ⟨rfl, rfl⟩, xLf hP ht⟩, hS.F ht⟩) hS.2.2 dX8_check_61
  · have hF := itN c20 hF
    refine lv_aload_n hx hb dX8_check_23 rfl (lv_at hl 0 rfl) ?_
    refine lv_iload_n hx hb dX8_check_24 rfl (lv_at hl 2 rfl) ?_
    obtain ⟨u1, e1, hF⟩ := bdS hF
    refine xEndI (xRunV (As := [.int v18_0]) (rest := []) hZ (c_X8_isBrother G t row kpt errs bitsOf sizeOf cels broken isFit breaks act wth facts pile trc images mfit known laid hre opnd bad usg trcd isP (upd row_f (7 : Int32).toNatClampNeg (0 : Int32)) v18_0 u1 e1 l H.size) m287 m288 m289 m5 m290 1 ⟨rfl, hdX8_isBrother⟩ ⟨Nat.le_of_ble_eq_true rfl, Nat.le_of_ble_eq_true rfl⟩ ⟨rfl, rfl⟩ hP hD hS 0 8 rfl rfl rfl [0, 1] rfl rfl rfl hl.1 rfl (Nat.le_of_ble_eq_true rfl) dX8_check_25 ⟨Nat.zero_le _, Nat.zero_le _⟩) hP hD hS hA [0, 1] rfl rfl rfl (fun H locs n1 hP hD hS => ?_)
    have hP : va_P G.1 vwCl [(t, .inr (8, [.ref row, .ref kpt, .int images, .ref errs, .ref bitsOf, .ref sizeOf, .ref cels, .ref broken, .ref isFit, .ref breaks, .int mfit, .int known, .ref act, .ref wth, .ref facts, .ref pile, .int laid, .int hre, .int opnd, .int bad, .int usg, .ref trc, .int trcd, .int isP])), (row, .inl (xI G, 400, .inl (upd row_f (7 : Int32).toNatClampNeg (0 : Int32))))] H := hP
    have hD : va_D A [(t, .inr (8, [.ref row, .ref kpt, .int images, .ref errs, .ref bitsOf, .ref sizeOf, .ref cels, .ref broken, .ref isFit, .ref breaks, .int mfit, .int known, .ref act, .ref wth, .ref facts, .ref pile, .int laid, .int hre, .int opnd, .int bad, .int usg, .ref trc, .int trcd, .int isP])), (row, .inl (xI G, 400, .inl (upd row_f (7 : Int32).toNatClampNeg (0 : Int32))))] := hD
    refine lv_if_eq (tgt := 50) hx hb dX8_check_28 (by decide) (fun c28 => ?_) (fun c28 => ?_)
    · have hF := itP c28 hF
      refine lv_iconst (v := 1) hx hb dX8_check_50 (by decide) ?_
      refine lv_iload_n hx hb dX8_check_51 rfl (lv_at hl 2 rfl) ?_
      refine lv_iadd hx hb dX8_check_52 ?_
      obtain rfl := Option.some.inj hF
      rw [← hQ]
      exact W.iret (v := ((1 : Int32) + v18_0)) hx hb hr (fun t ht hW => ⟨⟨_, (), rfl, ⟨rfl, rfl⟩, xLf hP ht⟩, hS.F ht⟩) hS.2.2 dX8_check_53
    · have hF := itN c28 hF
      refine lv_aload_n hx hb dX8_check_31 rfl (lv_at hl 0 rfl) ?_
      refine va_get (ci := 8) (v := .ref row) (C := RX8) (T := TX8) (N := 24) hx hb hts (fun w h => tcons w (xin8 w h)) hown hK hP 0 rfl rfl 0 (by decide) (hts _ (tcons _ m137)) (fun _ h9 => h9) rfl dX8_check_32 ?_
      refine lv_sipush (v := 134) hx hb dX8_check_35 (by decide) ?_
      refine lv_iload_n hx hb dX8_check_38 rfl (lv_at hl 2 rfl) ?_
      refine lv_iadd hx hb dX8_check_39 ?_
      obtain ⟨g40, hF⟩ := gdS hF
      refine va_iald hx hb hK hP 1 0 rfl rfl g40 dX8_check_40 ?_
      refine lv_aload_n hx hb dX8_check_41 rfl (lv_at hl 0 rfl) ?_
      refine lv_iload_n hx hb dX8_check_42 rfl (lv_at hl 2 rfl) ?_
      refine lv_iconst (v := 2) hx hb dX8_check_43 (by decide) ?_
      obtain ⟨u2, e2, hF⟩ := bdS hF
      refine xEndI (xRunV (As := [.int v18_0, .int (2 : Int32)]) (rest := [.int ((upd row_f (7 : Int32).toNatClampNeg (0 : Int32)) ((134 : Int32) + v18_0).toNatClampNeg)]) hZ (c_X8_of G t row kpt errs bitsOf sizeOf cels broken isFit breaks act wth facts pile trc images mfit known laid hre opnd bad usg trcd isP (upd row_f (7 : Int32).toNatClampNeg (0 : Int32)) v18_0 (2 : Int32) u2 e2 l H.size) m291 m292 m293 m5 m294 2 ⟨rfl, hdX8_of⟩ ⟨Nat.le_of_ble_eq_true rfl, Nat.le_of_ble_eq_true rfl⟩ ⟨rfl, rfl⟩ hP hD hS 0 8 rfl rfl rfl [0, 1] rfl rfl rfl hl.1 rfl (Nat.le_of_ble_eq_true rfl) dX8_check_44 ⟨Nat.zero_le _, Nat.zero_le _⟩) hP hD hS hA [0, 1] rfl rfl rfl (fun H locs n2 hP hD hS => ?_)
      have hP : va_P G.1 vwCl [(t, .inr (8, [.ref row, .ref kpt, .int images, .ref errs, .ref bitsOf, .ref sizeOf, .ref cels, .ref broken, .ref isFit, .ref breaks, .int mfit, .int known, .ref act, .ref wth, .ref facts, .ref pile, .int laid, .int hre, .int opnd, .int bad, .int usg, .ref trc, .int trcd, .int isP])), (row, .inl (xI G, 400, .inl (upd row_f (7 : Int32).toNatClampNeg (0 : Int32))))] H := hP
      have hD : va_D A [(t, .inr (8, [.ref row, .ref kpt, .int images, .ref errs, .ref bitsOf, .ref sizeOf, .ref cels, .ref broken, .ref isFit, .ref breaks, .int mfit, .int known, .ref act, .ref wth, .ref facts, .ref pile, .int laid, .int hre, .int opnd, .int bad, .int usg, .ref trc, .int trcd, .int isP])), (row, .inl (xI G, 400, .inl (upd row_f (7 : Int32).toNatClampNeg (0 : Int32))))] := hD
      refine lv_icmp_eq (tgt := 54) hx hb dX8_check_47 (by decide) (fun c47 => ?_) (fun c47 => ?_)
      · have hF := itP c47 hF
        refine lv_iinc (v := (v18_0 + (1 : Int32))) (lv' := [(2, .int (v18_0 + (1 : Int32))), (0, .ref t), (1, .int (row_f (7 : Int32).toNatClampNeg))]) hx hb dX8_check_54 hl (k := 2) rfl (xInc_1 _) (by decide) rfl (fun ls hl => ?_)
        refine lv_goto (tgt := 18) hx hb dX8_check_57 (by decide) ?_
        exact ih18 (v18_0 + (1 : Int32)) H locs ls ⟨hP, hD, hS, lv_sub hl [1, 2, 0] rfl⟩ hF
      · have hF := itN c47 hF
        refine lv_iconst (v := 1) hx hb dX8_check_50 (by decide) ?_
        refine lv_iload_n hx hb dX8_check_51 rfl (lv_at hl 2 rfl) ?_
        refine lv_iadd hx hb dX8_check_52 ?_
        obtain rfl := Option.some.inj hF
        rw [← hQ]
        exact W.iret (v := ((1 : Int32) + v18_0)) hx hb hr (fun t ht hW => ⟨⟨_, (), rfl, ⟨rfl, rfl⟩, xLf hP ht⟩, hS.F ht⟩) hS.2.2 dX8_check_53
def F_X8_count (trcd : Int32) (row_f : Nat → Int32) (errs_f : Nat → Int32) (wh : Int32) : Option (Int32 × (Nat → Int32)) := if wh = (0 : Int32) then (some ((row_f (2 : Int32).toNatClampNeg), errs_f)) else (if wh = (1 : Int32) then (some ((row_f (3 : Int32).toNatClampNeg), errs_f)) else (if wh = (2 : Int32) then (some ((row_f (0 : Int32).toNatClampNeg), errs_f)) else (if wh = (3 : Int32) then (some ((row_f (4 : Int32).toNatClampNeg), errs_f)) else (if wh = (4 : Int32) then (some ((row_f (5 : Int32).toNatClampNeg), errs_f)) else (if wh = (5 : Int32) then (some ((row_f (6 : Int32).toNatClampNeg), errs_f)) else (if wh = (6 : Int32) then (some ((row_f (7 : Int32).toNatClampNeg), errs_f)) else (if wh = (7 : Int32) then (some (trcd, errs_f)) else (if wh = (8 : Int32) then (some ((row_f (1 : Int32).toNatClampNeg), errs_f)) else (bd (F_X8_error errs_f (-1000000001 : Int32)) (fun (u1 : (Int32 × (Nat → Int32))) => some (u1.1, u1.2)))))))))))
theorem hdX8_count : yX8_count.cls ≠ "java/lang/invoke/MethodHandle" ∧ yX8_count.cls ≠ "java/lang/invoke/VarHandle" ∧ (parseMethodDescriptor yX8_count.desc).map (fun d => d.parameters.length) = some 1 := by decide +kernel
set_option maxHeartbeats 4000000 in
set_option maxRecDepth 100000 in
theorem c_X8_count (G : xG) (t : Nat) (row : Nat) (kpt : Nat) (errs : Nat) (bitsOf : Nat) (sizeOf : Nat) (cels : Nat) (broken : Nat) (isFit : Nat) (breaks : Nat) (act : Nat) (wth : Nat) (facts : Nat) (pile : Nat) (trc : Nat) (images : Int32) (mfit : Int32) (known : Int32) (laid : Int32) (hre : Int32) (opnd : Int32) (bad : Int32) (usg : Int32) (trcd : Int32) (isP : Int32) (row_f : Nat → Int32) (errs_f : Nat → Int32) (wh : Int32)  (u : (Int32 × (Nat → Int32))) (hF : F_X8_count trcd row_f errs_f wh = some u) : Ki G .int yX8_count (Cond.code yX8_count cX8_count 2 (some .int) :: TBL) { frames := 1, cells := 0, slots := 0, locals := 21 } [.ref t, .int wh] [(t, .inr (8, [.ref row, .ref kpt, .int images, .ref errs, .ref bitsOf, .ref sizeOf, .ref cels, .ref broken, .ref isFit, .ref breaks, .int mfit, .int known, .ref act, .ref wth, .ref facts, .ref pile, .int laid, .int hre, .int opnd, .int bad, .int usg, .ref trc, .int trcd, .int isP])), (row, .inl (xI G, 400, .inl row_f)), (errs, .inl (xI G, 7, .inl errs_f))] [(t, .inr (8, [.ref row, .ref kpt, .int images, .ref errs, .ref bitsOf, .ref sizeOf, .ref cels, .ref broken, .ref isFit, .ref breaks, .int mfit, .int known, .ref act, .ref wth, .ref facts, .ref pile, .int laid, .int hre, .int opnd, .int bad, .int usg, .ref trc, .int trcd, .int isP])), (row, .inl (xI G, 400, .inl row_f)), (errs, .inl (xI G, 7, .inl u.2))] u.1 := by
  intro l sz
  refine Met.ofW (cc := cX8_count) (maxL := 2) (ret := (some .int)) (by decide) rfl ?_
  intro p e s m args below meth c s₁ B hml hv
  obtain ⟨rfl, hsz, hP, hD0, hm⟩ := hv
  have hx := B.exec
  have hb := B.bytes
  have hr := B.returns
  have hts := atoms_spec (ws := Cond.code yX8_count cX8_count 2 (some .int) :: TBL) B.pre
  have hown : s.vm.findClass RX8 = some m.cls := findClass_of_methodNamed B.named
  have hlocks := B.notSynchronized
  subst hsz
  have hD := hD0.self (sz := s.heap.size)
  generalize hAe : va_A [(t, .inr (8, [.ref row, .ref kpt, .int images, .ref errs, .ref bitsOf, .ref sizeOf, .ref cels, .ref broken, .ref isFit, .ref breaks, .int mfit, .int known, .ref act, .ref wth, .ref facts, .ref pile, .int laid, .int hre, .int opnd, .int bad, .int usg, .ref trc, .int trcd, .int isP])), (row, .inl (xI G, 400, .inl row_f)), (errs, .inl (xI G, 7, .inl errs_f))] s.heap.size = A at hD hm ⊢
  have hA : ∀ q : Nat, s.heap.size ≤ q → A q := fun q h => by rw [← hAe]; exact Or.inr h
  have hK := hm.1
  have hZ : xAnd p m c cX8_count 2 s _ (Cond.code yX8_count cX8_count 2 (some .int) :: TBL) RX8 G A := ⟨⟨hx, hb, hml, hown, hts⟩, tcons, hA, hm⟩
  have hP : va_P G.1 vwCl [(t, .inr (8, [.ref row, .ref kpt, .int images, .ref errs, .ref bitsOf, .ref sizeOf, .ref cels, .ref broken, .ref isFit, .ref breaks, .int mfit, .int known, .ref act, .ref wth, .ref facts, .ref pile, .int laid, .int hre, .int opnd, .int bad, .int usg, .ref trc, .int trcd, .int isP])), (row, .inl (xI G, 400, .inl row_f)), (errs, .inl (xI G, 7, .inl errs_f))] s.heap := hP
  have hl := lv_entry ([.ref t, .int wh]) (n := 2) (Nat.le_of_ble_eq_true rfl)
  rw [lg_entry_eq]
  generalize (lg_sl ([.ref t, .int wh]) ++ List.replicate (2 - (lg_sl ([.ref t, .int wh])).length) Slot.unset).toArray = ls at hl ⊢
  have hl : lv_has ls 2 [(0, .ref t), (1, .int wh)] := hl
  generalize hQ : MQ below _ _ s _ _ _ = Q
  refine xGo (A := A) hP (fun H locs hP hS => ?_)
  unfold F_X8_count at hF
  refine lv_iload_n hx hb dX8_count_0 rfl (lv_at hl 1 rfl) ?_
  by_cases c1_0 : wh = (0 : Int32)
  · have hF := itP c1_0 hF
    refine lv_tableIn (off := 51) (tgt := 52) hx hb dX8_count_1 (by rw [c1_0]; decide) (by rw [c1_0]; decide) (by rw [c1_0]; rfl) (by decide) ?_
    refine lv_aload_n hx hb dX8_count_52 rfl (lv_at hl 0 rfl) ?_
    refine va_get (ci := 8) (v := .ref row) (C := RX8) (T := TX8) (N := 24) hx hb hts (fun w h => tcons w (xin8 w h)) hown hK hP 0 rfl rfl 0 (by decide) (hts _ (tcons _ m137)) (fun _ h9 => h9) rfl dX8_count_53 ?_
    refine lv_iconst (v := 2) hx hb dX8_count_56 (by decide) ?_
    refine va_iald hx hb hK hP 1 0 rfl rfl (by unfold vp_in; decide) dX8_count_57 ?_
    obtain rfl := Option.some.inj hF
    rw [← hQ]
    exact W.iret (v := (row_f (2 : Int32).toNatClampNeg)) hx hb hr (fun t ht hW => ⟨⟨_, (), rfl, ⟨rfl, rfl⟩, xLf hP ht⟩, hS.F ht⟩) hS.2.2 dX8_count_58
  · have hF := itN c1_0 hF
    by_cases c1_1 : wh = (1 : Int32)
    · have hF := itP c1_1 hF
      refine lv_tableIn (off := 58) (tgt := 59) hx hb dX8_count_1 (by rw [c1_1]; decide) (by rw [c1_1]; decide) (by rw [c1_1]; rfl) (by decide) ?_
      refine lv_aload_n hx hb dX8_count_59 rfl (lv_at hl 0 rfl) ?_
      refine va_get (ci := 8) (v := .ref row) (C := RX8) (T := TX8) (N := 24) hx hb hts (fun w h => tcons w (xin8 w h)) hown hK hP 0 rfl rfl 0 (by decide) (hts _ (tcons _ m137)) (fun _ h9 => h9) rfl dX8_count_60 ?_
      refine lv_iconst (v := 3) hx hb dX8_count_63 (by decide) ?_
      refine va_iald hx hb hK hP 1 0 rfl rfl (by unfold vp_in; decide) dX8_count_64 ?_
      obtain rfl := Option.some.inj hF
      rw [← hQ]
      exact W.iret (v := (row_f (3 : Int32).toNatClampNeg)) hx hb hr (fun t ht hW => ⟨⟨_, (), rfl, ⟨rfl, rfl⟩, xLf hP ht⟩, hS.F ht⟩) hS.2.2 dX8_count_65
    · have hF := itN c1_1 hF
      by_cases c1_2 : wh = (2 : Int32)
      · have hF := itP c1_2 hF
        refine lv_tableIn (off := 65) (tgt := 66) hx hb dX8_count_1 (by rw [c1_2]; decide) (by rw [c1_2]; decide) (by rw [c1_2]; rfl) (by decide) ?_
        refine lv_aload_n hx hb dX8_count_66 rfl (lv_at hl 0 rfl) ?_
        refine va_get (ci := 8) (v := .ref row) (C := RX8) (T := TX8) (N := 24) hx hb hts (fun w h => tcons w (xin8 w h)) hown hK hP 0 rfl rfl 0 (by decide) (hts _ (tcons _ m137)) (fun _ h9 => h9) rfl dX8_count_67 ?_
        refine lv_iconst (v := 0) hx hb dX8_count_70 (by decide) ?_
        refine va_iald hx hb hK hP 1 0 rfl rfl (by unfold vp_in; decide) dX8_count_71 ?_
        obtain rfl := Option.some.inj hF
        rw [← hQ]
        exact W.iret (v := (row_f (0 : Int32).toNatClampNeg)) hx hb hr (fun t ht hW => ⟨⟨_, (), rfl, ⟨rfl, rfl⟩, xLf hP ht⟩, hS.F ht⟩) hS.2.2 dX8_count_72
      · have hF := itN c1_2 hF
        by_cases c1_3 : wh = (3 : Int32)
        · have hF := itP c1_3 hF
          refine lv_tableIn (off := 72) (tgt := 73) hx hb dX8_count_1 (by rw [c1_3]; decide) (by rw [c1_3]; decide) (by rw [c1_3]; rfl) (by decide) ?_
          refine lv_aload_n hx hb dX8_count_73 rfl (lv_at hl 0 rfl) ?_
          refine va_get (ci := 8) (v := .ref row) (C := RX8) (T := TX8) (N := 24) hx hb hts (fun w h => tcons w (xin8 w h)) hown hK hP 0 rfl rfl 0 (by decide) (hts _ (tcons _ m137)) (fun _ h9 => h9) rfl dX8_count_74 ?_
          refine lv_iconst (v := 4) hx hb dX8_count_77 (by decide) ?_
          refine va_iald hx hb hK hP 1 0 rfl rfl (by unfold vp_in; decide) dX8_count_78 ?_
          obtain rfl := Option.some.inj hF
          rw [← hQ]
          exact W.iret (v := (row_f (4 : Int32).toNatClampNeg)) hx hb hr (fun t ht hW => ⟨⟨_, (), rfl, ⟨rfl, rfl⟩, xLf hP ht⟩, hS.F ht⟩) hS.2.2 dX8_count_79
        · have hF := itN c1_3 hF
          by_cases c1_4 : wh = (4 : Int32)
          · have hF := itP c1_4 hF
            refine lv_tableIn (off := 79) (tgt := 80) hx hb dX8_count_1 (by rw [c1_4]; decide) (by rw [c1_4]; decide) (by rw [c1_4]; rfl) (by decide) ?_
            refine lv_aload_n hx hb dX8_count_80 rfl (lv_at hl 0 rfl) ?_
            refine va_get (ci := 8) (v := .ref row) (C := RX8) (T := TX8) (N := 24) hx hb hts (fun w h => tcons w (xin8 w h)) hown hK hP 0 rfl rfl 0 (by decide) (hts _ (tcons _ m137)) (fun _ h9 => h9) rfl dX8_count_81 ?_
            refine lv_iconst (v := 5) hx hb dX8_count_84 (by decide) ?_
            refine va_iald hx hb hK hP 1 0 rfl rfl (by unfold vp_in; decide) dX8_count_85 ?_
            obtain rfl := Option.some.inj hF
            rw [← hQ]
            exact W.iret (v := (row_f (5 : Int32).toNatClampNeg)) hx hb hr (fun t ht hW => ⟨⟨_, (), rfl, ⟨rfl, rfl⟩, xLf hP ht⟩, hS.F ht⟩) hS.2.2 dX8_count_86
          · have hF := itN c1_4 hF
            by_cases c1_5 : wh = (5 : Int32)
            · have hF := itP c1_5 hF
              refine lv_tableIn (off := 86) (tgt := 87) hx hb dX8_count_1 (by rw [c1_5]; decide) (by rw [c1_5]; decide) (by rw [c1_5]; rfl) (by decide) ?_
              refine lv_aload_n hx hb dX8_count_87 rfl (lv_at hl 0 rfl) ?_
              refine va_get (ci := 8) (v := .ref row) (C := RX8) (T := TX8) (N := 24) hx hb hts (fun w h => tcons w (xin8 w h)) hown hK hP 0 rfl rfl 0 (by decide) (hts _ (tcons _ m137)) (fun _ h9 => h9) rfl dX8_count_88 ?_
              refine lv_bipush (v := 6) hx hb dX8_count_91 (by decide) ?_
              refine va_iald hx hb hK hP 1 0 rfl rfl (by unfold vp_in; decide) dX8_count_93 ?_
              obtain rfl := Option.some.inj hF
              rw [← hQ]
              exact W.iret (v := (row_f (6 : Int32).toNatClampNeg)) hx hb hr (fun t ht hW => ⟨⟨_, (), rfl, ⟨rfl, rfl⟩, xLf hP ht⟩, hS.F ht⟩) hS.2.2 dX8_count_94
            · have hF := itN c1_5 hF
              by_cases c1_6 : wh = (6 : Int32)
              · have hF := itP c1_6 hF
                refine lv_tableIn (off := 94) (tgt := 95) hx hb dX8_count_1 (by rw [c1_6]; decide) (by rw [c1_6]; decide) (by rw [c1_6]; rfl) (by decide) ?_
                refine lv_aload_n hx hb dX8_count_95 rfl (lv_at hl 0 rfl) ?_
                refine va_get (ci := 8) (v := .ref row) (C := RX8) (T := TX8) (N := 24) hx hb hts (fun w h => tcons w (xin8 w h)) hown hK hP 0 rfl rfl 0 (by decide) (hts _ (tcons _ m137)) (fun _ h9 => h9) rfl dX8_count_96 ?_
                refine lv_bipush (v := 7) hx hb dX8_count_99 (by decide) ?_
                refine va_iald hx hb hK hP 1 0 rfl rfl (by unfold vp_in; decide) dX8_count_101 ?_
                obtain rfl := Option.some.inj hF
                rw [← hQ]
                exact W.iret (v := (row_f (7 : Int32).toNatClampNeg)) hx hb hr (fun t ht hW => ⟨⟨_, (), rfl, ⟨rfl, rfl⟩, xLf hP ht⟩, hS.F ht⟩) hS.2.2 dX8_count_102
              · have hF := itN c1_6 hF
                by_cases c1_7 : wh = (7 : Int32)
                · have hF := itP c1_7 hF
                  refine lv_tableIn (off := 102) (tgt := 103) hx hb dX8_count_1 (by rw [c1_7]; decide) (by rw [c1_7]; decide) (by rw [c1_7]; rfl) (by decide) ?_
                  refine lv_aload_n hx hb dX8_count_103 rfl (lv_at hl 0 rfl) ?_
                  refine va_get (ci := 8) (v := .int trcd) (C := RX8) (T := TX8) (N := 24) hx hb hts (fun w h => tcons w (xin8 w h)) hown hK hP 0 rfl rfl 22 (by decide) (hts _ (tcons _ m936)) (fun _ h9 => h9) rfl dX8_count_104 ?_
                  obtain rfl := Option.some.inj hF
                  rw [← hQ]
                  exact W.iret (v := trcd) hx hb hr (fun t ht hW => ⟨⟨_, (), rfl, ⟨rfl, rfl⟩, xLf hP ht⟩, hS.F ht⟩) hS.2.2 dX8_count_107
                · have hF := itN c1_7 hF
                  by_cases c1_8 : wh = (8 : Int32)
                  · have hF := itP c1_8 hF
                    refine lv_tableIn (off := 107) (tgt := 108) hx hb dX8_count_1 (by rw [c1_8]; decide) (by rw [c1_8]; decide) (by rw [c1_8]; rfl) (by decide) ?_
                    refine lv_aload_n hx hb dX8_count_108 rfl (lv_at hl 0 rfl) ?_
                    refine va_get (ci := 8) (v := .ref row) (C := RX8) (T := TX8) (N := 24) hx hb hts (fun w h => tcons w (xin8 w h)) hown hK hP 0 rfl rfl 0 (by decide) (hts _ (tcons _ m137)) (fun _ h9 => h9) rfl dX8_count_109 ?_
                    refine lv_iconst (v := 1) hx hb dX8_count_112 (by decide) ?_
                    refine va_iald hx hb hK hP 1 0 rfl rfl (by unfold vp_in; decide) dX8_count_113 ?_
                    obtain rfl := Option.some.inj hF
                    rw [← hQ]
                    exact W.iret (v := (row_f (1 : Int32).toNatClampNeg)) hx hb hr (fun t ht hW => ⟨⟨_, (), rfl, ⟨rfl, rfl⟩, xLf hP ht⟩, hS.F ht⟩) hS.2.2 dX8_count_114
                  · have hF := itN c1_8 hF
                    refine lv_tableOut (tgt := 115) hx hb dX8_count_1 (by have h0 : wh.toInt ≠ 0 := xNe c1_0; have h1 : wh.toInt ≠ 1 := xNe c1_1; have h2 : wh.toInt ≠ 2 := xNe c1_2; have h3 : wh.toInt ≠ 3 := xNe c1_3; have h4 : wh.toInt ≠ 4 := xNe c1_4; have h5 : wh.toInt ≠ 5 := xNe c1_5; have h6 : wh.toInt ≠ 6 := xNe c1_6; have h7 : wh.toInt ≠ 7 := xNe c1_7; have h8 : wh.toInt ≠ 8 := xNe c1_8; omega) (by decide) ?_
                    refine lv_aload_n hx hb dX8_count_115 rfl (lv_at hl 0 rfl) ?_
                    refine lv_ldc (v := -1000000001) hx hb hown (hts _ (tcons _ m185)) dX8_count_116 ?_
                    obtain ⟨u1, e1, hF⟩ := bdS hF
                    refine xEndI (xRunV (As := [.int (-1000000001 : Int32)]) (rest := []) hZ (c_X8_error G t row kpt errs bitsOf sizeOf cels broken isFit breaks act wth facts pile trc images mfit known laid hre opnd bad usg trcd isP errs_f (-1000000001 : Int32) u1 e1 l H.size) m193 m194 m195 m5 m196 1 ⟨rfl, hdX8_error⟩ ⟨Nat.le_of_ble_eq_true rfl, Nat.le_of_ble_eq_true rfl⟩ ⟨rfl, rfl⟩ hP hD hS 0 8 rfl rfl rfl [0, 2] rfl rfl rfl hl.1 rfl (Nat.le_of_ble_eq_true rfl) dX8_count_118 ⟨Nat.zero_le _, Nat.zero_le _⟩) hP hD hS hA [0, 2] rfl rfl rfl (fun H locs n1 hP hD hS => ?_)
                    have hP : va_P G.1 vwCl [(t, .inr (8, [.ref row, .ref kpt, .int images, .ref errs, .ref bitsOf, .ref sizeOf, .ref cels, .ref broken, .ref isFit, .ref breaks, .int mfit, .int known, .ref act, .ref wth, .ref facts, .ref pile, .int laid, .int hre, .int opnd, .int bad, .int usg, .ref trc, .int trcd, .int isP])), (row, .inl (xI G, 400, .inl row_f)), (errs, .inl (xI G, 7, .inl u1.2))] H := hP
                    have hD : va_D A [(t, .inr (8, [.ref row, .ref kpt, .int images, .ref errs, .ref bitsOf, .ref sizeOf, .ref cels, .ref broken, .ref isFit, .ref breaks, .int mfit, .int known, .ref act, .ref wth, .ref facts, .ref pile, .int laid, .int hre, .int opnd, .int bad, .int usg, .ref trc, .int trcd, .int isP])), (row, .inl (xI G, 400, .inl row_f)), (errs, .inl (xI G, 7, .inl u1.2))] := hD
                    obtain rfl := Option.some.inj hF
                    rw [← hQ]
                    exact W.iret (v := u1.1) hx hb hr (fun t ht hW => ⟨⟨_, (), rfl, ⟨rfl, rfl⟩, xLf hP ht⟩, hS.F ht⟩) hS.2.2 dX8_count_121
def F_X8_told (errs_f : Nat → Int32) (k : Int32) : Option (Int32 × (Nat → Int32)) := bd (F_X8_in k (1 : Int32) (6 : Int32)) (fun (u1 : Int32) => if u1 = 0 then (bd (F_X8_error errs_f (-1000000001 : Int32)) (fun (u2 : (Int32 × (Nat → Int32))) => some (u2.1, u2.2))) else (if (k < 0 ∨ 7 ≤ k.toNatClampNeg) then none else (some ((errs_f k.toNatClampNeg), errs_f))))
theorem hdX8_told : yX8_told.cls ≠ "java/lang/invoke/MethodHandle" ∧ yX8_told.cls ≠ "java/lang/invoke/VarHandle" ∧ (parseMethodDescriptor yX8_told.desc).map (fun d => d.parameters.length) = some 1 := by decide +kernel
set_option maxHeartbeats 4000000 in
set_option maxRecDepth 100000 in
theorem c_X8_told (G : xG) (t : Nat) (row : Nat) (kpt : Nat) (errs : Nat) (bitsOf : Nat) (sizeOf : Nat) (cels : Nat) (broken : Nat) (isFit : Nat) (breaks : Nat) (act : Nat) (wth : Nat) (facts : Nat) (pile : Nat) (trc : Nat) (images : Int32) (mfit : Int32) (known : Int32) (laid : Int32) (hre : Int32) (opnd : Int32) (bad : Int32) (usg : Int32) (trcd : Int32) (isP : Int32) (errs_f : Nat → Int32) (k : Int32)  (u : (Int32 × (Nat → Int32))) (hF : F_X8_told errs_f k = some u) : Ki G .int yX8_told (Cond.code yX8_told cX8_told 2 (some .int) :: TBL) { frames := 1, cells := 0, slots := 0, locals := 22 } [.ref t, .int k] [(t, .inr (8, [.ref row, .ref kpt, .int images, .ref errs, .ref bitsOf, .ref sizeOf, .ref cels, .ref broken, .ref isFit, .ref breaks, .int mfit, .int known, .ref act, .ref wth, .ref facts, .ref pile, .int laid, .int hre, .int opnd, .int bad, .int usg, .ref trc, .int trcd, .int isP])), (errs, .inl (xI G, 7, .inl errs_f))] [(t, .inr (8, [.ref row, .ref kpt, .int images, .ref errs, .ref bitsOf, .ref sizeOf, .ref cels, .ref broken, .ref isFit, .ref breaks, .int mfit, .int known, .ref act, .ref wth, .ref facts, .ref pile, .int laid, .int hre, .int opnd, .int bad, .int usg, .ref trc, .int trcd, .int isP])), (errs, .inl (xI G, 7, .inl u.2))] u.1 := by
  intro l sz
  refine Met.ofW (cc := cX8_told) (maxL := 2) (ret := (some .int)) (by decide) rfl ?_
  intro p e s m args below meth c s₁ B hml hv
  obtain ⟨rfl, hsz, hP, hD0, hm⟩ := hv
  have hx := B.exec
  have hb := B.bytes
  have hr := B.returns
  have hts := atoms_spec (ws := Cond.code yX8_told cX8_told 2 (some .int) :: TBL) B.pre
  have hown : s.vm.findClass RX8 = some m.cls := findClass_of_methodNamed B.named
  have hlocks := B.notSynchronized
  subst hsz
  have hD := hD0.self (sz := s.heap.size)
  generalize hAe : va_A [(t, .inr (8, [.ref row, .ref kpt, .int images, .ref errs, .ref bitsOf, .ref sizeOf, .ref cels, .ref broken, .ref isFit, .ref breaks, .int mfit, .int known, .ref act, .ref wth, .ref facts, .ref pile, .int laid, .int hre, .int opnd, .int bad, .int usg, .ref trc, .int trcd, .int isP])), (errs, .inl (xI G, 7, .inl errs_f))] s.heap.size = A at hD hm ⊢
  have hA : ∀ q : Nat, s.heap.size ≤ q → A q := fun q h => by rw [← hAe]; exact Or.inr h
  have hK := hm.1
  have hZ : xAnd p m c cX8_told 2 s _ (Cond.code yX8_told cX8_told 2 (some .int) :: TBL) RX8 G A := ⟨⟨hx, hb, hml, hown, hts⟩, tcons, hA, hm⟩
  have hP : va_P G.1 vwCl [(t, .inr (8, [.ref row, .ref kpt, .int images, .ref errs, .ref bitsOf, .ref sizeOf, .ref cels, .ref broken, .ref isFit, .ref breaks, .int mfit, .int known, .ref act, .ref wth, .ref facts, .ref pile, .int laid, .int hre, .int opnd, .int bad, .int usg, .ref trc, .int trcd, .int isP])), (errs, .inl (xI G, 7, .inl errs_f))] s.heap := hP
  have hl := lv_entry ([.ref t, .int k]) (n := 2) (Nat.le_of_ble_eq_true rfl)
  rw [lg_entry_eq]
  generalize (lg_sl ([.ref t, .int k]) ++ List.replicate (2 - (lg_sl ([.ref t, .int k])).length) Slot.unset).toArray = ls at hl ⊢
  have hl : lv_has ls 2 [(0, .ref t), (1, .int k)] := hl
  generalize hQ : MQ below _ _ s _ _ _ = Q
  refine xGo (A := A) hP (fun H locs hP hS => ?_)
  unfold F_X8_told at hF
  refine lv_iload_n hx hb dX8_told_0 rfl (lv_at hl 1 rfl) ?_
  refine lv_iconst (v := 1) hx hb dX8_told_1 (by decide) ?_
  refine lv_bipush (v := 6) hx hb dX8_told_2 (by decide) ?_
  obtain ⟨u1, e1, hF⟩ := bdS hF
  refine xEndI (xRunS (As := [.int k, .int (1 : Int32), .int (6 : Int32)]) (rest := []) hZ (c_X8_in G k (1 : Int32) (6 : Int32) u1 e1 l H.size) m190 m191 m5 m192 3 hdX8_in ⟨Nat.le_of_ble_eq_true rfl, Nat.le_of_ble_eq_true rfl⟩ ⟨rfl, rfl⟩ hP hD hS [] rfl rfl rfl hl.1 rfl (Nat.le_of_ble_eq_true rfl) dX8_told_4 ⟨Nat.zero_le _, Nat.zero_le _⟩) hP hD hS hA [] rfl rfl rfl (fun H locs n1 hP hD hS => ?_)
  have hP : va_P G.1 vwCl [(t, .inr (8, [.ref row, .ref kpt, .int images, .ref errs, .ref bitsOf, .ref sizeOf, .ref cels, .ref broken, .ref isFit, .ref breaks, .int mfit, .int known, .ref act, .ref wth, .ref facts, .ref pile, .int laid, .int hre, .int opnd, .int bad, .int usg, .ref trc, .int trcd, .int isP])), (errs, .inl (xI G, 7, .inl errs_f))] H := hP
  have hD : va_D A [(t, .inr (8, [.ref row, .ref kpt, .int images, .ref errs, .ref bitsOf, .ref sizeOf, .ref cels, .ref broken, .ref isFit, .ref breaks, .int mfit, .int known, .ref act, .ref wth, .ref facts, .ref pile, .int laid, .int hre, .int opnd, .int bad, .int usg, .ref trc, .int trcd, .int isP])), (errs, .inl (xI G, 7, .inl errs_f))] := hD
  refine lv_if_eq (tgt := 19) hx hb dX8_told_7 (by decide) (fun c7 => ?_) (fun c7 => ?_)
  · have hF := itP c7 hF
    refine lv_aload_n hx hb dX8_told_19 rfl (lv_at hl 0 rfl) ?_
    refine lv_ldc (v := -1000000001) hx hb hown (hts _ (tcons _ m185)) dX8_told_20 ?_
    obtain ⟨u2, e2, hF⟩ := bdS hF
    refine xEndI (xRunV (As := [.int (-1000000001 : Int32)]) (rest := []) hZ (c_X8_error G t row kpt errs bitsOf sizeOf cels broken isFit breaks act wth facts pile trc images mfit known laid hre opnd bad usg trcd isP errs_f (-1000000001 : Int32) u2 e2 l H.size) m193 m194 m195 m5 m196 1 ⟨rfl, hdX8_error⟩ ⟨Nat.le_of_ble_eq_true rfl, Nat.le_of_ble_eq_true rfl⟩ ⟨rfl, rfl⟩ hP hD hS 0 8 rfl rfl rfl [0, 1] rfl rfl rfl hl.1 rfl (Nat.le_of_ble_eq_true rfl) dX8_told_22 ⟨Nat.zero_le _, Nat.zero_le _⟩) hP hD hS hA [0, 1] rfl rfl rfl (fun H locs n2 hP hD hS => ?_)
    have hP : va_P G.1 vwCl [(t, .inr (8, [.ref row, .ref kpt, .int images, .ref errs, .ref bitsOf, .ref sizeOf, .ref cels, .ref broken, .ref isFit, .ref breaks, .int mfit, .int known, .ref act, .ref wth, .ref facts, .ref pile, .int laid, .int hre, .int opnd, .int bad, .int usg, .ref trc, .int trcd, .int isP])), (errs, .inl (xI G, 7, .inl u2.2))] H := hP
    have hD : va_D A [(t, .inr (8, [.ref row, .ref kpt, .int images, .ref errs, .ref bitsOf, .ref sizeOf, .ref cels, .ref broken, .ref isFit, .ref breaks, .int mfit, .int known, .ref act, .ref wth, .ref facts, .ref pile, .int laid, .int hre, .int opnd, .int bad, .int usg, .ref trc, .int trcd, .int isP])), (errs, .inl (xI G, 7, .inl u2.2))] := hD
    obtain rfl := Option.some.inj hF
    rw [← hQ]
    exact W.iret (v := u2.1) hx hb hr (fun t ht hW => ⟨⟨_, (), rfl, ⟨rfl, rfl⟩, xLf hP ht⟩, hS.F ht⟩) hS.2.2 dX8_told_25
  · have hF := itN c7 hF
    refine lv_aload_n hx hb dX8_told_10 rfl (lv_at hl 0 rfl) ?_
    refine va_get (ci := 8) (v := .ref errs) (C := RX8) (T := TX8) (N := 24) hx hb hts (fun w h => tcons w (xin8 w h)) hown hK hP 0 rfl rfl 3 (by decide) (hts _ (tcons _ m139)) (fun _ h9 => h9) rfl dX8_told_11 ?_
    refine lv_iload_n hx hb dX8_told_14 rfl (lv_at hl 1 rfl) ?_
    obtain ⟨g15, hF⟩ := gdS hF
    refine va_iald hx hb hK hP 1 0 rfl rfl g15 dX8_told_15 ?_
    refine lv_goto (tgt := 25) hx hb dX8_told_16 (by decide) ?_
    obtain rfl := Option.some.inj hF
    rw [← hQ]
    exact W.iret (v := (errs_f k.toNatClampNeg)) hx hb hr (fun t ht hW => ⟨⟨_, (), rfl, ⟨rfl, rfl⟩, xLf hP ht⟩, hS.F ht⟩) hS.2.2 dX8_told_25
