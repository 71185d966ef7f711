def F_X8_fittingNow (mfit : Int32) (known : Int32) (row_f : Nat → Int32) (broken_f : Nat → Int64) (isFit_f : Nat → Int32) (breaks_f : Nat → Int32) : Option (Int32 × Int32 × Int32 × (Nat → Int32) × (Nat → Int32)) := bd (F_X8_findVows mfit known row_f broken_f isFit_f breaks_f) (fun (u1 : (Int32 × Int32 × (Nat → Int32) × (Nat → Int32))) => some (u1.1, u1.1, u1.2.1, u1.2.2.1, u1.2.2.2))
theorem hdX8_fittingNow : yX8_fittingNow.cls ≠ "java/lang/invoke/MethodHandle" ∧ yX8_fittingNow.cls ≠ "java/lang/invoke/VarHandle" ∧ (parseMethodDescriptor yX8_fittingNow.desc).map (fun d => d.parameters.length) = some 0 := by decide +kernel
set_option maxHeartbeats 4000000 in
set_option maxRecDepth 100000 in
theorem c_X8_fittingNow (G : xG) (t : Nat) (row : Nat) (kpt : Nat) (errs : Nat) (bitsOf : Nat) (sizeOf : Nat) (cels : Nat) (broken : Nat) (isFit : Nat) (breaks : Nat) (act : Nat) (wth : Nat) (facts : Nat) (pile : Nat) (trc : Nat) (images : Int32) (mfit : Int32) (known : Int32) (laid : Int32) (hre : Int32) (opnd : Int32) (bad : Int32) (usg : Int32) (trcd : Int32) (isP : Int32) (row_f : Nat → Int32) (broken_f : Nat → Int64) (isFit_f : Nat → Int32) (breaks_f : Nat → Int32)  (u : (Int32 × Int32 × Int32 × (Nat → Int32) × (Nat → Int32))) (hF : F_X8_fittingNow mfit known row_f broken_f isFit_f breaks_f = some u) : Ki G .int yX8_fittingNow (Cond.code yX8_fittingNow cX8_fittingNow 1 (some .int) :: TBL) { frames := 3, cells := 0, slots := 0, locals := 67 } [.ref t] [(t, .inr (8, [.ref row, .ref kpt, .int images, .ref errs, .ref bitsOf, .ref sizeOf, .ref cels, .ref broken, .ref isFit, .ref breaks, .int mfit, .int known, .ref act, .ref wth, .ref facts, .ref pile, .int laid, .int hre, .int opnd, .int bad, .int usg, .ref trc, .int trcd, .int isP])), (row, .inl (xI G, 400, .inl row_f)), (broken, .inl (xJ G, 729, .inr (.inl broken_f))), (isFit, .inl (xZ G, 729, .inl isFit_f)), (breaks, .inl (xI G, 64, .inl breaks_f))] [(t, .inr (8, [.ref row, .ref kpt, .int images, .ref errs, .ref bitsOf, .ref sizeOf, .ref cels, .ref broken, .ref isFit, .ref breaks, .int u.2.1, .int u.2.2.1, .ref act, .ref wth, .ref facts, .ref pile, .int laid, .int hre, .int opnd, .int bad, .int usg, .ref trc, .int trcd, .int isP])), (row, .inl (xI G, 400, .inl row_f)), (broken, .inl (xJ G, 729, .inr (.inl broken_f))), (isFit, .inl (xZ G, 729, .inl u.2.2.2.1)), (breaks, .inl (xI G, 64, .inl u.2.2.2.2))] u.1 := by
  intro l sz
  refine Met.ofW (cc := cX8_fittingNow) (maxL := 1) (ret := (some .int)) (by decide) rfl ?_
  intro p e s m args below meth c s₁ B hml hv
  obtain ⟨rfl, hsz, hP, hD0, hm⟩ := hv
  have hx := B.exec
  have hb := B.bytes
  have hr := B.returns
  have hts := atoms_spec (ws := Cond.code yX8_fittingNow cX8_fittingNow 1 (some .int) :: TBL) B.pre
  have hown : s.vm.findClass RX8 = some m.cls := findClass_of_methodNamed B.named
  have hlocks := B.notSynchronized
  subst hsz
  have hD := hD0.self (sz := s.heap.size)
  generalize hAe : va_A [(t, .inr (8, [.ref row, .ref kpt, .int images, .ref errs, .ref bitsOf, .ref sizeOf, .ref cels, .ref broken, .ref isFit, .ref breaks, .int mfit, .int known, .ref act, .ref wth, .ref facts, .ref pile, .int laid, .int hre, .int opnd, .int bad, .int usg, .ref trc, .int trcd, .int isP])), (row, .inl (xI G, 400, .inl row_f)), (broken, .inl (xJ G, 729, .inr (.inl broken_f))), (isFit, .inl (xZ G, 729, .inl isFit_f)), (breaks, .inl (xI G, 64, .inl breaks_f))] s.heap.size = A at hD hm ⊢
  have hA : ∀ q : Nat, s.heap.size ≤ q → A q := fun q h => by rw [← hAe]; exact Or.inr h
  have hK := hm.1
  have hZ : xAnd p m c cX8_fittingNow 1 s _ (Cond.code yX8_fittingNow cX8_fittingNow 1 (some .int) :: TBL) RX8 G A := ⟨⟨hx, hb, hml, hown, hts⟩, tcons, hA, hm⟩
  have hP : va_P G.1 vwCl [(t, .inr (8, [.ref row, .ref kpt, .int images, .ref errs, .ref bitsOf, .ref sizeOf, .ref cels, .ref broken, .ref isFit, .ref breaks, .int mfit, .int known, .ref act, .ref wth, .ref facts, .ref pile, .int laid, .int hre, .int opnd, .int bad, .int usg, .ref trc, .int trcd, .int isP])), (row, .inl (xI G, 400, .inl row_f)), (broken, .inl (xJ G, 729, .inr (.inl broken_f))), (isFit, .inl (xZ G, 729, .inl isFit_f)), (breaks, .inl (xI G, 64, .inl breaks_f))] s.heap := hP
  have hl := lv_entry ([.ref t]) (n := 1) (Nat.le_of_ble_eq_true rfl)
  rw [lg_entry_eq]
  generalize (lg_sl ([.ref t]) ++ List.replicate (1 - (lg_sl ([.ref t])).length) Slot.unset).toArray = ls at hl ⊢
  have hl : lv_has ls 1 [(0, .ref t)] := hl
  generalize hQ : MQ below _ _ s _ _ _ = Q
  refine xGo (A := A) hP (fun H locs hP hS => ?_)
  unfold F_X8_fittingNow at hF
  refine lv_aload_n hx hb dX8_fittingNow_0 rfl (lv_at hl 0 rfl) ?_
  obtain ⟨u1, e1, hF⟩ := bdS hF
  refine xEndV (xRunV (As := []) (rest := []) hZ (c_X8_findVows G t row kpt errs bitsOf sizeOf cels broken isFit breaks act wth facts pile trc images mfit known laid hre opnd bad usg trcd isP row_f broken_f isFit_f breaks_f u1 e1 l H.size) m312 m313 m314 m5 m315 0 ⟨rfl, hdX8_findVows⟩ ⟨Nat.le_of_ble_eq_true rfl, Nat.le_of_ble_eq_true rfl⟩ ⟨rfl, rfl⟩ hP hD hS 0 8 rfl rfl rfl [0, 1, 2, 3, 4] rfl rfl rfl hl.1 rfl (Nat.le_of_ble_eq_true rfl) dX8_fittingNow_1 ⟨Nat.zero_le _, Nat.zero_le _⟩) hP hD hS hA [0, 1, 2, 3, 4] rfl rfl rfl (fun H locs hP hD hS => ?_)
  have hP : va_P G.1 vwCl [(t, .inr (8, [.ref row, .ref kpt, .int images, .ref errs, .ref bitsOf, .ref sizeOf, .ref cels, .ref broken, .ref isFit, .ref breaks, .int u1.1, .int u1.2.1, .ref act, .ref wth, .ref facts, .ref pile, .int laid, .int hre, .int opnd, .int bad, .int usg, .ref trc, .int trcd, .int isP])), (row, .inl (xI G, 400, .inl row_f)), (broken, .inl (xJ G, 729, .inr (.inl broken_f))), (isFit, .inl (xZ G, 729, .inl u1.2.2.1)), (breaks, .inl (xI G, 64, .inl u1.2.2.2))] H := hP
  have hD : va_D A [(t, .inr (8, [.ref row, .ref kpt, .int images, .ref errs, .ref bitsOf, .ref sizeOf, .ref cels, .ref broken, .ref isFit, .ref breaks, .int u1.1, .int u1.2.1, .ref act, .ref wth, .ref facts, .ref pile, .int laid, .int hre, .int opnd, .int bad, .int usg, .ref trc, .int trcd, .int isP])), (row, .inl (xI G, 400, .inl row_f)), (broken, .inl (xJ G, 729, .inr (.inl broken_f))), (isFit, .inl (xZ G, 729, .inl u1.2.2.1)), (breaks, .inl (xI G, 64, .inl u1.2.2.2))] := hD
  refine lv_aload_n hx hb dX8_fittingNow_4 rfl (lv_at hl 0 rfl) ?_
  refine va_get (ci := 8) (v := .int u1.1) (C := RX8) (T := TX8) (N := 24) hx hb hts (fun w h => tcons w (xin8 w h)) hown hK hP 0 rfl rfl 10 (by decide) (hts _ (tcons _ m303)) (fun _ h9 => h9) rfl dX8_fittingNow_5 ?_
  obtain rfl := Option.some.inj hF
  rw [← hQ]
  exact W.iret (v := u1.1) hx hb hr (fun t ht hW => ⟨⟨_, (), rfl, ⟨rfl, rfl⟩, xLf hP ht⟩, hS.F ht⟩) hS.2.2 dX8_fittingNow_8
def F_X8_breaksBy (mfit : Int32) (known : Int32) (row_f : Nat → Int32) (broken_f : Nat → Int64) (isFit_f : Nat → Int32) (breaks_f : Nat → Int32) (sy : Int32) : Option (Int32 × Int32 × Int32 × (Nat → Int32) × (Nat → Int32)) := bd (F_X8_findVows mfit known row_f broken_f isFit_f breaks_f) (fun (u1 : (Int32 × Int32 × (Nat → Int32) × (Nat → Int32))) => if (sy < 0 ∨ 64 ≤ sy.toNatClampNeg) then none else (some ((u1.2.2.2 sy.toNatClampNeg), u1.1, u1.2.1, u1.2.2.1, u1.2.2.2)))
theorem hdX8_breaksBy : yX8_breaksBy.cls ≠ "java/lang/invoke/MethodHandle" ∧ yX8_breaksBy.cls ≠ "java/lang/invoke/VarHandle" ∧ (parseMethodDescriptor yX8_breaksBy.desc).map (fun d => d.parameters.length) = some 1 := by decide +kernel
set_option maxHeartbeats 4000000 in
set_option maxRecDepth 100000 in
theorem c_X8_breaksBy (G : xG) (t : Nat) (row : Nat) (kpt : Nat) (errs : Nat) (bitsOf : Nat) (sizeOf : Nat) (cels : Nat) (broken : Nat) (isFit : Nat) (breaks : Nat) (act : Nat) (wth : Nat) (facts : Nat) (pile : Nat) (trc : Nat) (images : Int32) (mfit : Int32) (known : Int32) (laid : Int32) (hre : Int32) (opnd : Int32) (bad : Int32) (usg : Int32) (trcd : Int32) (isP : Int32) (row_f : Nat → Int32) (broken_f : Nat → Int64) (isFit_f : Nat → Int32) (breaks_f : Nat → Int32) (sy : Int32)  (u : (Int32 × Int32 × Int32 × (Nat → Int32) × (Nat → Int32))) (hF : F_X8_breaksBy mfit known row_f broken_f isFit_f breaks_f sy = some u) : Ki G .int yX8_breaksBy (Cond.code yX8_breaksBy cX8_breaksBy 2 (some .int) :: TBL) { frames := 3, cells := 0, slots := 0, locals := 67 } [.ref t, .int sy] [(t, .inr (8, [.ref row, .ref kpt, .int images, .ref errs, .ref bitsOf, .ref sizeOf, .ref cels, .ref broken, .ref isFit, .ref breaks, .int mfit, .int known, .ref act, .ref wth, .ref facts, .ref pile, .int laid, .int hre, .int opnd, .int bad, .int usg, .ref trc, .int trcd, .int isP])), (row, .inl (xI G, 400, .inl row_f)), (broken, .inl (xJ G, 729, .inr (.inl broken_f))), (isFit, .inl (xZ G, 729, .inl isFit_f)), (breaks, .inl (xI G, 64, .inl breaks_f))] [(t, .inr (8, [.ref row, .ref kpt, .int images, .ref errs, .ref bitsOf, .ref sizeOf, .ref cels, .ref broken, .ref isFit, .ref breaks, .int u.2.1, .int u.2.2.1, .ref act, .ref wth, .ref facts, .ref pile, .int laid, .int hre, .int opnd, .int bad, .int usg, .ref trc, .int trcd, .int isP])), (row, .inl (xI G, 400, .inl row_f)), (broken, .inl (xJ G, 729, .inr (.inl broken_f))), (isFit, .inl (xZ G, 729, .inl u.2.2.2.1)), (breaks, .inl (xI G, 64, .inl u.2.2.2.2))] u.1 := by
  intro l sz
  refine Met.ofW (cc := cX8_breaksBy) (maxL := 2) (ret := (some .int)) (by decide) rfl ?_
  intro p e s m args below meth c s₁ B hml hv
  obtain ⟨rfl, hsz, hP, hD0, hm⟩ := hv
  have hx := B.exec
  have hb := B.bytes
  have hr := B.returns
  have hts := atoms_spec (ws := Cond.code yX8_breaksBy cX8_breaksBy 2 (some .int) :: TBL) B.pre
  have hown : s.vm.findClass RX8 = some m.cls := findClass_of_methodNamed B.named
  have hlocks := B.notSynchronized
  subst hsz
  have hD := hD0.self (sz := s.heap.size)
  generalize hAe : va_A [(t, .inr (8, [.ref row, .ref kpt, .int images, .ref errs, .ref bitsOf, .ref sizeOf, .ref cels, .ref broken, .ref isFit, .ref breaks, .int mfit, .int known, .ref act, .ref wth, .ref facts, .ref pile, .int laid, .int hre, .int opnd, .int bad, .int usg, .ref trc, .int trcd, .int isP])), (row, .inl (xI G, 400, .inl row_f)), (broken, .inl (xJ G, 729, .inr (.inl broken_f))), (isFit, .inl (xZ G, 729, .inl isFit_f)), (breaks, .inl (xI G, 64, .inl breaks_f))] s.heap.size = A at hD hm ⊢
  have hA : ∀ q : Nat, s.heap.size ≤ q → A q := fun q h => by rw [← hAe]; exact Or.inr h
  have hK := hm.1
  have hZ : xAnd p m c cX8_breaksBy 2 s _ (Cond.code yX8_breaksBy cX8_breaksBy 2 (some .int) :: TBL) RX8 G A := ⟨⟨hx, hb, hml, hown, hts⟩, tcons, hA, hm⟩
  have hP : va_P G.1 vwCl [(t, .inr (8, [.ref row, .ref kpt, .int images, .ref errs, .ref bitsOf, .ref sizeOf, .ref cels, .ref broken, .ref isFit, .ref breaks, .int mfit, .int known, .ref act, .ref wth, .ref facts, .ref pile, .int laid, .int hre, .int opnd, .int bad, .int usg, .ref trc, .int trcd, .int isP])), (row, .inl (xI G, 400, .inl row_f)), (broken, .inl (xJ G, 729, .inr (.inl broken_f))), (isFit, .inl (xZ G, 729, .inl isFit_f)), (breaks, .inl (xI G, 64, .inl breaks_f))] s.heap := hP
  have hl := lv_entry ([.ref t, .int sy]) (n := 2) (Nat.le_of_ble_eq_true rfl)
  rw [lg_entry_eq]
  generalize (lg_sl ([.ref t, .int sy]) ++ List.replicate (2 - (lg_sl ([.ref t, .int sy])).length) Slot.unset).toArray = ls at hl ⊢
  have hl : lv_has ls 2 [(0, .ref t), (1, .int sy)] := hl
  generalize hQ : MQ below _ _ s _ _ _ = Q
  refine xGo (A := A) hP (fun H locs hP hS => ?_)
  unfold F_X8_breaksBy at hF
  refine lv_aload_n hx hb dX8_breaksBy_0 rfl (lv_at hl 0 rfl) ?_
  obtain ⟨u1, e1, hF⟩ := bdS hF
  refine xEndV (xRunV (As := []) (rest := []) hZ (c_X8_findVows G t row kpt errs bitsOf sizeOf cels broken isFit breaks act wth facts pile trc images mfit known laid hre opnd bad usg trcd isP row_f broken_f isFit_f breaks_f u1 e1 l H.size) m312 m313 m314 m5 m315 0 ⟨rfl, hdX8_findVows⟩ ⟨Nat.le_of_ble_eq_true rfl, Nat.le_of_ble_eq_true rfl⟩ ⟨rfl, rfl⟩ hP hD hS 0 8 rfl rfl rfl [0, 1, 2, 3, 4] rfl rfl rfl hl.1 rfl (Nat.le_of_ble_eq_true rfl) dX8_breaksBy_1 ⟨Nat.zero_le _, Nat.zero_le _⟩) hP hD hS hA [0, 1, 2, 3, 4] rfl rfl rfl (fun H locs hP hD hS => ?_)
  have hP : va_P G.1 vwCl [(t, .inr (8, [.ref row, .ref kpt, .int images, .ref errs, .ref bitsOf, .ref sizeOf, .ref cels, .ref broken, .ref isFit, .ref breaks, .int u1.1, .int u1.2.1, .ref act, .ref wth, .ref facts, .ref pile, .int laid, .int hre, .int opnd, .int bad, .int usg, .ref trc, .int trcd, .int isP])), (row, .inl (xI G, 400, .inl row_f)), (broken, .inl (xJ G, 729, .inr (.inl broken_f))), (isFit, .inl (xZ G, 729, .inl u1.2.2.1)), (breaks, .inl (xI G, 64, .inl u1.2.2.2))] H := hP
  have hD : va_D A [(t, .inr (8, [.ref row, .ref kpt, .int images, .ref errs, .ref bitsOf, .ref sizeOf, .ref cels, .ref broken, .ref isFit, .ref breaks, .int u1.1, .int u1.2.1, .ref act, .ref wth, .ref facts, .ref pile, .int laid, .int hre, .int opnd, .int bad, .int usg, .ref trc, .int trcd, .int isP])), (row, .inl (xI G, 400, .inl row_f)), (broken, .inl (xJ G, 729, .inr (.inl broken_f))), (isFit, .inl (xZ G, 729, .inl u1.2.2.1)), (breaks, .inl (xI G, 64, .inl u1.2.2.2))] := hD
  refine lv_aload_n hx hb dX8_breaksBy_4 rfl (lv_at hl 0 rfl) ?_
  refine va_get (ci := 8) (v := .ref breaks) (C := RX8) (T := TX8) (N := 24) hx hb hts (fun w h => tcons w (xin8 w h)) hown hK hP 0 rfl rfl 9 (by decide) (hts _ (tcons _ m145)) (fun _ h9 => h9) rfl dX8_breaksBy_5 ?_
  refine lv_iload_n hx hb dX8_breaksBy_8 rfl (lv_at hl 1 rfl) ?_
  obtain ⟨g9, hF⟩ := gdS hF
  refine va_iald hx hb hK hP 4 0 rfl rfl g9 dX8_breaksBy_9 ?_
  obtain rfl := Option.some.inj hF
  rw [← hQ]
  exact W.iret (v := (u1.2.2.2 sy.toNatClampNeg)) hx hb hr (fun t ht hW => ⟨⟨_, (), rfl, ⟨rfl, rfl⟩, xLf hP ht⟩, hS.F ht⟩) hS.2.2 dX8_breaksBy_10
def F_X8_comes (row_f : Nat → Int32) (sy : Int32) (fe : Int32) : Option (Int32 × (Nat → Int32)) := if (((26 : Int32) + ((2 : Int32) * (row_f (3 : Int32).toNatClampNeg))) < 0 ∨ 400 ≤ ((26 : Int32) + ((2 : Int32) * (row_f (3 : Int32).toNatClampNeg))).toNatClampNeg) then none else (if ((((26 : Int32) + ((2 : Int32) * (row_f (3 : Int32).toNatClampNeg))) + (1 : Int32)) < 0 ∨ 400 ≤ (((26 : Int32) + ((2 : Int32) * (row_f (3 : Int32).toNatClampNeg))) + (1 : Int32)).toNatClampNeg) then none else (some ((0 : Int32), (upd (upd (upd row_f ((26 : Int32) + ((2 : Int32) * (row_f (3 : Int32).toNatClampNeg))).toNatClampNeg sy) (((26 : Int32) + ((2 : Int32) * (row_f (3 : Int32).toNatClampNeg))) + (1 : Int32)).toNatClampNeg fe) (3 : Int32).toNatClampNeg (((upd (upd row_f ((26 : Int32) + ((2 : Int32) * (row_f (3 : Int32).toNatClampNeg))).toNatClampNeg sy) (((26 : Int32) + ((2 : Int32) * (row_f (3 : Int32).toNatClampNeg))) + (1 : Int32)).toNatClampNeg fe) (3 : Int32).toNatClampNeg) + (1 : Int32))))))
theorem hdX8_comes : yX8_comes.cls ≠ "java/lang/invoke/MethodHandle" ∧ yX8_comes.cls ≠ "java/lang/invoke/VarHandle" ∧ (parseMethodDescriptor yX8_comes.desc).map (fun d => d.parameters.length) = some 2 := by decide +kernel
set_option maxHeartbeats 4000000 in
set_option maxRecDepth 100000 in
theorem c_X8_comes (G : xG) (t : Nat) (row : Nat) (kpt : Nat) (errs : Nat) (bitsOf : Nat) (sizeOf : Nat) (cels : Nat) (broken : Nat) (isFit : Nat) (breaks : Nat) (act : Nat) (wth : Nat) (facts : Nat) (pile : Nat) (trc : Nat) (images : Int32) (mfit : Int32) (known : Int32) (laid : Int32) (hre : Int32) (opnd : Int32) (bad : Int32) (usg : Int32) (trcd : Int32) (isP : Int32) (row_f : Nat → Int32) (sy : Int32) (fe : Int32)  (u : (Int32 × (Nat → Int32))) (hF : F_X8_comes row_f sy fe = some u) : Kv G yX8_comes (Cond.code yX8_comes cX8_comes 4 none :: TBL) { frames := 0, cells := 0, slots := 0, locals := 0 } [.ref t, .int sy, .int fe] [(t, .inr (8, [.ref row, .ref kpt, .int images, .ref errs, .ref bitsOf, .ref sizeOf, .ref cels, .ref broken, .ref isFit, .ref breaks, .int mfit, .int known, .ref act, .ref wth, .ref facts, .ref pile, .int laid, .int hre, .int opnd, .int bad, .int usg, .ref trc, .int trcd, .int isP])), (row, .inl (xI G, 400, .inl row_f))] [(t, .inr (8, [.ref row, .ref kpt, .int images, .ref errs, .ref bitsOf, .ref sizeOf, .ref cels, .ref broken, .ref isFit, .ref breaks, .int mfit, .int u.1, .ref act, .ref wth, .ref facts, .ref pile, .int laid, .int hre, .int opnd, .int bad, .int usg, .ref trc, .int trcd, .int isP])), (row, .inl (xI G, 400, .inl u.2))] := by
  intro l sz
  refine Met.ofW (cc := cX8_comes) (maxL := 4) (ret := none) (by decide) rfl ?_
  intro p e s m args below meth c s₁ B hml hv
  obtain ⟨rfl, hsz, hP, hD0, hm⟩ := hv
  have hx := B.exec
  have hb := B.bytes
  have hr := B.returns
  have hts := atoms_spec (ws := Cond.code yX8_comes cX8_comes 4 none :: TBL) B.pre
  have hown : s.vm.findClass RX8 = some m.cls := findClass_of_methodNamed B.named
  have hlocks := B.notSynchronized
  subst hsz
  have hD := hD0.self (sz := s.heap.size)
  generalize hAe : va_A [(t, .inr (8, [.ref row, .ref kpt, .int images, .ref errs, .ref bitsOf, .ref sizeOf, .ref cels, .ref broken, .ref isFit, .ref breaks, .int mfit, .int known, .ref act, .ref wth, .ref facts, .ref pile, .int laid, .int hre, .int opnd, .int bad, .int usg, .ref trc, .int trcd, .int isP])), (row, .inl (xI G, 400, .inl row_f))] s.heap.size = A at hD hm ⊢
  have hA : ∀ q : Nat, s.heap.size ≤ q → A q := fun q h => by rw [← hAe]; exact Or.inr h
  have hK := hm.1
  have hZ : xAnd p m c cX8_comes 4 s _ (Cond.code yX8_comes cX8_comes 4 none :: TBL) RX8 G A := ⟨⟨hx, hb, hml, hown, hts⟩, tcons, hA, hm⟩
  have hP : va_P G.1 vwCl [(t, .inr (8, [.ref row, .ref kpt, .int images, .ref errs, .ref bitsOf, .ref sizeOf, .ref cels, .ref broken, .ref isFit, .ref breaks, .int mfit, .int known, .ref act, .ref wth, .ref facts, .ref pile, .int laid, .int hre, .int opnd, .int bad, .int usg, .ref trc, .int trcd, .int isP])), (row, .inl (xI G, 400, .inl row_f))] s.heap := hP
  have hl := lv_entry ([.ref t, .int sy, .int fe]) (n := 4) (Nat.le_of_ble_eq_true rfl)
  rw [lg_entry_eq]
  generalize (lg_sl ([.ref t, .int sy, .int fe]) ++ List.replicate (4 - (lg_sl ([.ref t, .int sy, .int fe])).length) Slot.unset).toArray = ls at hl ⊢
  have hl : lv_has ls 4 [(0, .ref t), (1, .int sy), (2, .int fe)] := hl
  generalize hQ : MQ below _ _ s _ _ _ = Q
  refine xGo (A := A) hP (fun H locs hP hS => ?_)
  unfold F_X8_comes at hF
  refine lv_bipush (v := 26) hx hb dX8_comes_0 (by decide) ?_
  refine lv_iconst (v := 2) hx hb dX8_comes_2 (by decide) ?_
  refine lv_aload_n hx hb dX8_comes_3 rfl (lv_at hl 0 rfl) ?_
  refine va_get (ci := 8) (v := .ref row) (C := RX8) (T := TX8) (N := 24) hx hb hts (fun w h => tcons w (xin8 w h)) hown hK hP 0 rfl rfl 0 (by decide) (hts _ (tcons _ m137)) (fun _ h9 => h9) rfl dX8_comes_4 ?_
  refine lv_iconst (v := 3) hx hb dX8_comes_7 (by decide) ?_
  refine va_iald hx hb hK hP 1 0 rfl rfl (by unfold vp_in; decide) dX8_comes_8 ?_
  refine lv_imul hx hb dX8_comes_9 ?_
  refine lv_iadd hx hb dX8_comes_10 ?_
  refine lv_istore_n (lv' := [(3, .int ((26 : Int32) + ((2 : Int32) * (row_f (3 : Int32).toNatClampNeg)))), (0, .ref t), (1, .int sy), (2, .int fe)]) hx hb dX8_comes_11 rfl hl (by decide) rfl (fun ls hl => ?_)
  refine lv_aload_n hx hb dX8_comes_12 rfl (lv_at hl 1 rfl) ?_
  refine va_get (ci := 8) (v := .ref row) (C := RX8) (T := TX8) (N := 24) hx hb hts (fun w h => tcons w (xin8 w h)) hown hK hP 0 rfl rfl 0 (by decide) (hts _ (tcons _ m137)) (fun _ h9 => h9) rfl dX8_comes_13 ?_
  refine lv_iload_n hx hb dX8_comes_16 rfl (lv_at hl 0 rfl) ?_
  refine lv_iload_n hx hb dX8_comes_17 rfl (lv_at hl 2 rfl) ?_
  obtain ⟨g18, hF⟩ := gdS hF
  refine va_iast hx hb hK hP hD hS 1 0 rfl rfl g18 dX8_comes_18 (fun H locs hP hD hS => ?_)
  have hP : va_P G.1 vwCl [(t, .inr (8, [.ref row, .ref kpt, .int images, .ref errs, .ref bitsOf, .ref sizeOf, .ref cels, .ref broken, .ref isFit, .ref breaks, .int mfit, .int known, .ref act, .ref wth, .ref facts, .ref pile, .int laid, .int hre, .int opnd, .int bad, .int usg, .ref trc, .int trcd, .int isP])), (row, .inl (xI G, 400, .inl (upd row_f ((26 : Int32) + ((2 : Int32) * (row_f (3 : Int32).toNatClampNeg))).toNatClampNeg sy)))] H := hP
  have hD : va_D A [(t, .inr (8, [.ref row, .ref kpt, .int images, .ref errs, .ref bitsOf, .ref sizeOf, .ref cels, .ref broken, .ref isFit, .ref breaks, .int mfit, .int known, .ref act, .ref wth, .ref facts, .ref pile, .int laid, .int hre, .int opnd, .int bad, .int usg, .ref trc, .int trcd, .int isP])), (row, .inl (xI G, 400, .inl (upd row_f ((26 : Int32) + ((2 : Int32) * (row_f (3 : Int32).toNatClampNeg))).toNatClampNeg sy)))] := hD
  refine lv_aload_n hx hb dX8_comes_19 rfl (lv_at hl 1 rfl) ?_
  refine va_get (ci := 8) (v := .ref row) (C := RX8) (T := TX8) (N := 24) hx hb hts (fun w h => tcons w (xin8 w h)) hown hK hP 0 rfl rfl 0 (by decide) (hts _ (tcons _ m137)) (fun _ h9 => h9) rfl dX8_comes_20 ?_
  refine lv_iload_n hx hb dX8_comes_23 rfl (lv_at hl 0 rfl) ?_
  refine lv_iconst (v := 1) hx hb dX8_comes_24 (by decide) ?_
  refine lv_iadd hx hb dX8_comes_25 ?_
  refine lv_iload_n hx hb dX8_comes_26 rfl (lv_at hl 3 rfl) ?_
  obtain ⟨g27, hF⟩ := gdS hF
  refine va_iast hx hb hK hP hD hS 1 0 rfl rfl g27 dX8_comes_27 (fun H locs hP hD hS => ?_)
  have hP : va_P G.1 vwCl [(t, .inr (8, [.ref row, .ref kpt, .int images, .ref errs, .ref bitsOf, .ref sizeOf, .ref cels, .ref broken, .ref isFit, .ref breaks, .int mfit, .int known, .ref act, .ref wth, .ref facts, .ref pile, .int laid, .int hre, .int opnd, .int bad, .int usg, .ref trc, .int trcd, .int isP])), (row, .inl (xI G, 400, .inl (upd (upd row_f ((26 : Int32) + ((2 : Int32) * (row_f (3 : Int32).toNatClampNeg))).toNatClampNeg sy) (((26 : Int32) + ((2 : Int32) * (row_f (3 : Int32).toNatClampNeg))) + (1 : Int32)).toNatClampNeg fe)))] H := hP
  have hD : va_D A [(t, .inr (8, [.ref row, .ref kpt, .int images, .ref errs, .ref bitsOf, .ref sizeOf, .ref cels, .ref broken, .ref isFit, .ref breaks, .int mfit, .int known, .ref act, .ref wth, .ref facts, .ref pile, .int laid, .int hre, .int opnd, .int bad, .int usg, .ref trc, .int trcd, .int isP])), (row, .inl (xI G, 400, .inl (upd (upd row_f ((26 : Int32) + ((2 : Int32) * (row_f (3 : Int32).toNatClampNeg))).toNatClampNeg sy) (((26 : Int32) + ((2 : Int32) * (row_f (3 : Int32).toNatClampNeg))) + (1 : Int32)).toNatClampNeg fe)))] := hD
  refine lv_aload_n hx hb dX8_comes_28 rfl (lv_at hl 1 rfl) ?_
  refine va_get (ci := 8) (v := .ref row) (C := RX8) (T := TX8) (N := 24) hx hb hts (fun w h => tcons w (xin8 w h)) hown hK hP 0 rfl rfl 0 (by decide) (hts _ (tcons _ m137)) (fun _ h9 => h9) rfl dX8_comes_29 ?_
  refine lv_iconst (v := 3) hx hb dX8_comes_32 (by decide) ?_
  refine lv_dup2_11 hx hb dX8_comes_33 rfl rfl ?_
  refine va_iald hx hb hK hP 1 0 rfl rfl (by unfold vp_in; decide) dX8_comes_34 ?_
  refine lv_iconst (v := 1) hx hb dX8_comes_35 (by decide) ?_
  refine lv_iadd hx hb dX8_comes_36 ?_
  refine va_iast hx hb hK hP hD hS 1 0 rfl rfl (by unfold vp_in; decide) dX8_comes_37 (fun H locs hP hD hS => ?_)
  have hP : va_P G.1 vwCl [(t, .inr (8, [.ref row, .ref kpt, .int images, .ref errs, .ref bitsOf, .ref sizeOf, .ref cels, .ref broken, .ref isFit, .ref breaks, .int mfit, .int known, .ref act, .ref wth, .ref facts, .ref pile, .int laid, .int hre, .int opnd, .int bad, .int usg, .ref trc, .int trcd, .int isP])), (row, .inl (xI G, 400, .inl (upd (upd (upd row_f ((26 : Int32) + ((2 : Int32) * (row_f (3 : Int32).toNatClampNeg))).toNatClampNeg sy) (((26 : Int32) + ((2 : Int32) * (row_f (3 : Int32).toNatClampNeg))) + (1 : Int32)).toNatClampNeg fe) (3 : Int32).toNatClampNeg (((upd (upd row_f ((26 : Int32) + ((2 : Int32) * (row_f (3 : Int32).toNatClampNeg))).toNatClampNeg sy) (((26 : Int32) + ((2 : Int32) * (row_f (3 : Int32).toNatClampNeg))) + (1 : Int32)).toNatClampNeg fe) (3 : Int32).toNatClampNeg) + (1 : Int32)))))] H := hP
  have hD : va_D A [(t, .inr (8, [.ref row, .ref kpt, .int images, .ref errs, .ref bitsOf, .ref sizeOf, .ref cels, .ref broken, .ref isFit, .ref breaks, .int mfit, .int known, .ref act, .ref wth, .ref facts, .ref pile, .int laid, .int hre, .int opnd, .int bad, .int usg, .ref trc, .int trcd, .int isP])), (row, .inl (xI G, 400, .inl (upd (upd (upd row_f ((26 : Int32) + ((2 : Int32) * (row_f (3 : Int32).toNatClampNeg))).toNatClampNeg sy) (((26 : Int32) + ((2 : Int32) * (row_f (3 : Int32).toNatClampNeg))) + (1 : Int32)).toNatClampNeg fe) (3 : Int32).toNatClampNeg (((upd (upd row_f ((26 : Int32) + ((2 : Int32) * (row_f (3 : Int32).toNatClampNeg))).toNatClampNeg sy) (((26 : Int32) + ((2 : Int32) * (row_f (3 : Int32).toNatClampNeg))) + (1 : Int32)).toNatClampNeg fe) (3 : Int32).toNatClampNeg) + (1 : Int32)))))] := hD
  refine lv_aload_n hx hb dX8_comes_38 rfl (lv_at hl 1 rfl) ?_
  refine lv_iconst (v := 0) hx hb dX8_comes_39 (by decide) ?_
  refine va_put (ci := 8) (v := .int (0 : Int32)) (ty := .boolean) (C := RX8) (T := TX8) (N := 24) hx hb hts (fun w h => tcons w (xin8 w h)) tyX8 tyX8_ok nmX8 hown hK hP hD hS 0 rfl rfl 11 (by decide) (hts _ (tcons _ m316)) (fun _ h9 => h9) rfl (by decide +kernel) (by decide) (by decide) (Nat.le_of_ble_eq_true rfl) dX8_comes_40 (fun H locs hP hD hS => ?_)
  have hP : va_P G.1 vwCl [(t, .inr (8, [.ref row, .ref kpt, .int images, .ref errs, .ref bitsOf, .ref sizeOf, .ref cels, .ref broken, .ref isFit, .ref breaks, .int mfit, .int (0 : Int32), .ref act, .ref wth, .ref facts, .ref pile, .int laid, .int hre, .int opnd, .int bad, .int usg, .ref trc, .int trcd, .int isP])), (row, .inl (xI G, 400, .inl (upd (upd (upd row_f ((26 : Int32) + ((2 : Int32) * (row_f (3 : Int32).toNatClampNeg))).toNatClampNeg sy) (((26 : Int32) + ((2 : Int32) * (row_f (3 : Int32).toNatClampNeg))) + (1 : Int32)).toNatClampNeg fe) (3 : Int32).toNatClampNeg (((upd (upd row_f ((26 : Int32) + ((2 : Int32) * (row_f (3 : Int32).toNatClampNeg))).toNatClampNeg sy) (((26 : Int32) + ((2 : Int32) * (row_f (3 : Int32).toNatClampNeg))) + (1 : Int32)).toNatClampNeg fe) (3 : Int32).toNatClampNeg) + (1 : Int32)))))] H := hP
  have hD : va_D A [(t, .inr (8, [.ref row, .ref kpt, .int images, .ref errs, .ref bitsOf, .ref sizeOf, .ref cels, .ref broken, .ref isFit, .ref breaks, .int mfit, .int (0 : Int32), .ref act, .ref wth, .ref facts, .ref pile, .int laid, .int hre, .int opnd, .int bad, .int usg, .ref trc, .int trcd, .int isP])), (row, .inl (xI G, 400, .inl (upd (upd (upd row_f ((26 : Int32) + ((2 : Int32) * (row_f (3 : Int32).toNatClampNeg))).toNatClampNeg sy) (((26 : Int32) + ((2 : Int32) * (row_f (3 : Int32).toNatClampNeg))) + (1 : Int32)).toNatClampNeg fe) (3 : Int32).toNatClampNeg (((upd (upd row_f ((26 : Int32) + ((2 : Int32) * (row_f (3 : Int32).toNatClampNeg))).toNatClampNeg sy) (((26 : Int32) + ((2 : Int32) * (row_f (3 : Int32).toNatClampNeg))) + (1 : Int32)).toNatClampNeg fe) (3 : Int32).toNatClampNeg) + (1 : Int32)))))] := hD
  obtain rfl := Option.some.inj hF
  rw [← hQ]
  exact W.vret hx hb hr (fun t ht hW => ⟨⟨(), rfl, trivial, xLf hP ht⟩, hS.F ht⟩) hS.2.2 dX8_comes_43
def F_X8_look (hre : Int32) (row_f : Nat → Int32) : Option Int32 := if (row_f (6 : Int32).toNatClampNeg) ≤ hre then (some (-1 : Int32)) else (if (((74 : Int32) + hre) < 0 ∨ 400 ≤ ((74 : Int32) + hre).toNatClampNeg) then none else (some (row_f ((74 : Int32) + hre).toNatClampNeg)))
theorem hdX8_look : yX8_look.cls ≠ "java/lang/invoke/MethodHandle" ∧ yX8_look.cls ≠ "java/lang/invoke/VarHandle" ∧ (parseMethodDescriptor yX8_look.desc).map (fun d => d.parameters.length) = some 0 := by decide +kernel
set_option maxHeartbeats 4000000 in
set_option maxRecDepth 100000 in
theorem c_X8_look (G : xG) (t : Nat) (row : Nat) (kpt : Nat) (errs : Nat) (bitsOf : Nat) (sizeOf : Nat) (cels : Nat) (broken : Nat) (isFit : Nat) (breaks : Nat) (act : Nat) (wth : Nat) (facts : Nat) (pile : Nat) (trc : Nat) (images : Int32) (mfit : Int32) (known : Int32) (laid : Int32) (hre : Int32) (opnd : Int32) (bad : Int32) (usg : Int32) (trcd : Int32) (isP : Int32) (row_f : Nat → Int32)  (u : Int32) (hF : F_X8_look hre row_f = some u) : Ki G .int yX8_look (Cond.code yX8_look cX8_look 1 (some .int) :: TBL) { frames := 0, cells := 0, slots := 0, locals := 0 } [.ref t] [(t, .inr (8, [.ref row, .ref kpt, .int images, .ref errs, .ref bitsOf, .ref sizeOf, .ref cels, .ref broken, .ref isFit, .ref breaks, .int mfit, .int known, .ref act, .ref wth, .ref facts, .ref pile, .int laid, .int hre, .int opnd, .int bad, .int usg, .ref trc, .int trcd, .int isP])), (row, .inl (xI G, 400, .inl row_f))] [(t, .inr (8, [.ref row, .ref kpt, .int images, .ref errs, .ref bitsOf, .ref sizeOf, .ref cels, .ref broken, .ref isFit, .ref breaks, .int mfit, .int known, .ref act, .ref wth, .ref facts, .ref pile, .int laid, .int hre, .int opnd, .int bad, .int usg, .ref trc, .int trcd, .int isP])), (row, .inl (xI G, 400, .inl row_f))] u := by
  intro l sz
  refine Met.ofW (cc := cX8_look) (maxL := 1) (ret := (some .int)) (by decide) rfl ?_
  intro p e s m args below meth c s₁ B hml hv
  obtain ⟨rfl, hsz, hP, hD0, hm⟩ := hv
  have hx := B.exec
  have hb := B.bytes
  have hr := B.returns
  have hts := atoms_spec (ws := Cond.code yX8_look cX8_look 1 (some .int) :: TBL) B.pre
  have hown : s.vm.findClass RX8 = some m.cls := findClass_of_methodNamed B.named
  have hlocks := B.notSynchronized
  subst hsz
  have hD := hD0.self (sz := s.heap.size)
  generalize hAe : va_A [(t, .inr (8, [.ref row, .ref kpt, .int images, .ref errs, .ref bitsOf, .ref sizeOf, .ref cels, .ref broken, .ref isFit, .ref breaks, .int mfit, .int known, .ref act, .ref wth, .ref facts, .ref pile, .int laid, .int hre, .int opnd, .int bad, .int usg, .ref trc, .int trcd, .int isP])), (row, .inl (xI G, 400, .inl row_f))] s.heap.size = A at hD hm ⊢
  have hA : ∀ q : Nat, s.heap.size ≤ q → A q := fun q h => by rw [← hAe]; exact Or.inr h
  have hK := hm.1
  have hZ : xAnd p m c cX8_look 1 s _ (Cond.code yX8_look cX8_look 1 (some .int) :: TBL) RX8 G A := ⟨⟨hx, hb, hml, hown, hts⟩, tcons, hA, hm⟩
  have hP : va_P G.1 vwCl [(t, .inr (8, [.ref row, .ref kpt, .int images, .ref errs, .ref bitsOf, .ref sizeOf, .ref cels, .ref broken, .ref isFit, .ref breaks, .int mfit, .int known, .ref act, .ref wth, .ref facts, .ref pile, .int laid, .int hre, .int opnd, .int bad, .int usg, .ref trc, .int trcd, .int isP])), (row, .inl (xI G, 400, .inl row_f))] s.heap := hP
  have hl := lv_entry ([.ref t]) (n := 1) (Nat.le_of_ble_eq_true rfl)
  rw [lg_entry_eq]
  generalize (lg_sl ([.ref t]) ++ List.replicate (1 - (lg_sl ([.ref t])).length) Slot.unset).toArray = ls at hl ⊢
  have hl : lv_has ls 1 [(0, .ref t)] := hl
  generalize hQ : MQ below _ _ s _ _ _ = Q
  refine xGo (A := A) hP (fun H locs hP hS => ?_)
  unfold F_X8_look at hF
  refine lv_aload_n hx hb dX8_look_0 rfl (lv_at hl 0 rfl) ?_
  refine va_get (ci := 8) (v := .int hre) (C := RX8) (T := TX8) (N := 24) hx hb hts (fun w h => tcons w (xin8 w h)) hown hK hP 0 rfl rfl 17 (by decide) (hts _ (tcons _ m678)) (fun _ h9 => h9) rfl dX8_look_1 ?_
  refine lv_aload_n hx hb dX8_look_4 rfl (lv_at hl 0 rfl) ?_
  refine va_get (ci := 8) (v := .ref row) (C := RX8) (T := TX8) (N := 24) hx hb hts (fun w h => tcons w (xin8 w h)) hown hK hP 0 rfl rfl 0 (by decide) (hts _ (tcons _ m137)) (fun _ h9 => h9) rfl dX8_look_5 ?_
  refine lv_bipush (v := 6) hx hb dX8_look_8 (by decide) ?_
  refine va_iald hx hb hK hP 1 0 rfl rfl (by unfold vp_in; decide) dX8_look_10 ?_
  refine lv_icmp_ge (tgt := 29) hx hb dX8_look_11 (by decide) (fun c11 => ?_) (fun c11 => ?_)
  · have hF := itP c11 hF
    refine lv_iconst (v := -1) hx hb dX8_look_29 (by decide) ?_
    obtain rfl := Option.some.inj hF
    rw [← hQ]
    exact W.iret (v := (-1 : Int32)) hx hb hr (fun t ht hW => ⟨⟨_, (), rfl, ⟨rfl, rfl⟩, xLf hP ht⟩, hS.F ht⟩) hS.2.2 dX8_look_30
  · have hF := itN c11 hF
    refine lv_aload_n hx hb dX8_look_14 rfl (lv_at hl 0 rfl) ?_
    refine va_get (ci := 8) (v := .ref row) (C := RX8) (T := TX8) (N := 24) hx hb hts (fun w h => tcons w (xin8 w h)) hown hK hP 0 rfl rfl 0 (by decide) (hts _ (tcons _ m137)) (fun _ h9 => h9) rfl dX8_look_15 ?_
    refine lv_bipush (v := 74) hx hb dX8_look_18 (by decide) ?_
    refine lv_aload_n hx hb dX8_look_20 rfl (lv_at hl 0 rfl) ?_
    refine va_get (ci := 8) (v := .int hre) (C := RX8) (T := TX8) (N := 24) hx hb hts (fun w h => tcons w (xin8 w h)) hown hK hP 0 rfl rfl 17 (by decide) (hts _ (tcons _ m678)) (fun _ h9 => h9) rfl dX8_look_21 ?_
    refine lv_iadd hx hb dX8_look_24 ?_
    obtain ⟨g25, hF⟩ := gdS hF
    refine va_iald hx hb hK hP 1 0 rfl rfl g25 dX8_look_25 ?_
    refine lv_goto (tgt := 30) hx hb dX8_look_26 (by decide) ?_
    obtain rfl := Option.some.inj hF
    rw [← hQ]
    exact W.iret (v := (row_f ((74 : Int32) + hre).toNatClampNeg)) hx hb hr (fun t ht hW => ⟨⟨_, (), rfl, ⟨rfl, rfl⟩, xLf hP ht⟩, hS.F ht⟩) hS.2.2 dX8_look_30
def F_X8_lays (laid : Int32) (act_f : Nat → Int32) (wth_f : Nat → Int32) (wh : Int32) (v : Int32) : Option (Int32 × (Nat → Int32) × (Nat → Int32)) := if (60 : Int32) ≤ laid then (some (laid, act_f, wth_f)) else (if (laid < 0 ∨ 60 ≤ laid.toNatClampNeg) then none else (if (laid < 0 ∨ 60 ≤ laid.toNatClampNeg) then none else (some ((laid + (1 : Int32)), (upd act_f laid.toNatClampNeg wh), (upd wth_f laid.toNatClampNeg v)))))
theorem hdX8_lays : yX8_lays.cls ≠ "java/lang/invoke/MethodHandle" ∧ yX8_lays.cls ≠ "java/lang/invoke/VarHandle" ∧ (parseMethodDescriptor yX8_lays.desc).map (fun d => d.parameters.length) = some 2 := by decide +kernel
set_option maxHeartbeats 4000000 in
set_option maxRecDepth 100000 in
theorem c_X8_lays (G : xG) (t : Nat) (row : Nat) (kpt : Nat) (errs : Nat) (bitsOf : Nat) (sizeOf : Nat) (cels : Nat) (broken : Nat) (isFit : Nat) (breaks : Nat) (act : Nat) (wth : Nat) (facts : Nat) (pile : Nat) (trc : Nat) (images : Int32) (mfit : Int32) (known : Int32) (laid : Int32) (hre : Int32) (opnd : Int32) (bad : Int32) (usg : Int32) (trcd : Int32) (isP : Int32) (act_f : Nat → Int32) (wth_f : Nat → Int32) (wh : Int32) (v : Int32)  (u : (Int32 × (Nat → Int32) × (Nat → Int32))) (hF : F_X8_lays laid act_f wth_f wh v = some u) : Kv G yX8_lays (Cond.code yX8_lays cX8_lays 3 none :: TBL) { frames := 0, cells := 0, slots := 0, locals := 0 } [.ref t, .int wh, .int v] [(t, .inr (8, [.ref row, .ref kpt, .int images, .ref errs, .ref bitsOf, .ref sizeOf, .ref cels, .ref broken, .ref isFit, .ref breaks, .int mfit, .int known, .ref act, .ref wth, .ref facts, .ref pile, .int laid, .int hre, .int opnd, .int bad, .int usg, .ref trc, .int trcd, .int isP])), (act, .inl (xI G, 60, .inl act_f)), (wth, .inl (xI G, 60, .inl wth_f))] [(t, .inr (8, [.ref row, .ref kpt, .int images, .ref errs, .ref bitsOf, .ref sizeOf, .ref cels, .ref broken, .ref isFit, .ref breaks, .int mfit, .int known, .ref act, .ref wth, .ref facts, .ref pile, .int u.1, .int hre, .int opnd, .int bad, .int usg, .ref trc, .int trcd, .int isP])), (act, .inl (xI G, 60, .inl u.2.1)), (wth, .inl (xI G, 60, .inl u.2.2))] := by
  intro l sz
  refine Met.ofW (cc := cX8_lays) (maxL := 3) (ret := none) (by decide) rfl ?_
  intro p e s m args below meth c s₁ B hml hv
  obtain ⟨rfl, hsz, hP, hD0, hm⟩ := hv
  have hx := B.exec
  have hb := B.bytes
  have hr := B.returns
  have hts := atoms_spec (ws := Cond.code yX8_lays cX8_lays 3 none :: TBL) B.pre
  have hown : s.vm.findClass RX8 = some m.cls := findClass_of_methodNamed B.named
  have hlocks := B.notSynchronized
  subst hsz
  have hD := hD0.self (sz := s.heap.size)
  generalize hAe : va_A [(t, .inr (8, [.ref row, .ref kpt, .int images, .ref errs, .ref bitsOf, .ref sizeOf, .ref cels, .ref broken, .ref isFit, .ref breaks, .int mfit, .int known, .ref act, .ref wth, .ref facts, .ref pile, .int laid, .int hre, .int opnd, .int bad, .int usg, .ref trc, .int trcd, .int isP])), (act, .inl (xI G, 60, .inl act_f)), (wth, .inl (xI G, 60, .inl wth_f))] s.heap.size = A at hD hm ⊢
  have hA : ∀ q : Nat, s.heap.size ≤ q → A q := fun q h => by rw [← hAe]; exact Or.inr h
  have hK := hm.1
  have hZ : xAnd p m c cX8_lays 3 s _ (Cond.code yX8_lays cX8_lays 3 none :: TBL) RX8 G A := ⟨⟨hx, hb, hml, hown, hts⟩, tcons, hA, hm⟩
  have hP : va_P G.1 vwCl [(t, .inr (8, [.ref row, .ref kpt, .int images, .ref errs, .ref bitsOf, .ref sizeOf, .ref cels, .ref broken, .ref isFit, .ref breaks, .int mfit, .int known, .ref act, .ref wth, .ref facts, .ref pile, .int laid, .int hre, .int opnd, .int bad, .int usg, .ref trc, .int trcd, .int isP])), (act, .inl (xI G, 60, .inl act_f)), (wth, .inl (xI G, 60, .inl wth_f))] s.heap := hP
  have hl := lv_entry ([.ref t, .int wh, .int v]) (n := 3) (Nat.le_of_ble_eq_true rfl)
  rw [lg_entry_eq]
  generalize (lg_sl ([.ref t, .int wh, .int v]) ++ List.replicate (3 - (lg_sl ([.ref t, .int wh, .int v])).length) Slot.unset).toArray = ls at hl ⊢
  have hl : lv_has ls 3 [(0, .ref t), (1, .int wh), (2, .int v)] := hl
  generalize hQ : MQ below _ _ s _ _ _ = Q
  refine xGo (A := A) hP (fun H locs hP hS => ?_)
  unfold F_X8_lays at hF
  refine lv_aload_n hx hb dX8_lays_0 rfl (lv_at hl 0 rfl) ?_
  refine va_get (ci := 8) (v := .int laid) (C := RX8) (T := TX8) (N := 24) hx hb hts (fun w h => tcons w (xin8 w h)) hown hK hP 0 rfl rfl 16 (by decide) (hts _ (tcons _ m677)) (fun _ h9 => h9) rfl dX8_lays_1 ?_
  refine lv_aload_n hx hb dX8_lays_4 rfl (lv_at hl 0 rfl) ?_
  refine va_get (ci := 8) (v := .ref act) (C := RX8) (T := TX8) (N := 24) hx hb hts (fun w h => tcons w (xin8 w h)) hown hK hP 0 rfl rfl 12 (by decide) (hts _ (tcons _ m146)) (fun _ h9 => h9) rfl dX8_lays_5 ?_
  refine va_alen (v := (60 : Int32)) hx hb hK hP 1 0 rfl rfl rfl dX8_lays_8 ?_
  refine lv_icmp_ge (tgt := 42) hx hb dX8_lays_9 (by decide) (fun c9 => ?_) (fun c9 => ?_)
  · have hF := itP c9 hF
    obtain rfl := Option.some.inj hF
    rw [← hQ]
    exact W.vret hx hb hr (fun t ht hW => ⟨⟨(), rfl, trivial, xLf hP ht⟩, hS.F ht⟩) hS.2.2 dX8_lays_42
  · have hF := itN c9 hF
    refine lv_aload_n hx hb dX8_lays_12 rfl (lv_at hl 0 rfl) ?_
    refine va_get (ci := 8) (v := .ref act) (C := RX8) (T := TX8) (N := 24) hx hb hts (fun w h => tcons w (xin8 w h)) hown hK hP 0 rfl rfl 12 (by decide) (hts _ (tcons _ m146)) (fun _ h9 => h9) rfl dX8_lays_13 ?_
    refine lv_aload_n hx hb dX8_lays_16 rfl (lv_at hl 0 rfl) ?_
    refine va_get (ci := 8) (v := .int laid) (C := RX8) (T := TX8) (N := 24) hx hb hts (fun w h => tcons w (xin8 w h)) hown hK hP 0 rfl rfl 16 (by decide) (hts _ (tcons _ m677)) (fun _ h9 => h9) rfl dX8_lays_17 ?_
    refine lv_iload_n hx hb dX8_lays_20 rfl (lv_at hl 1 rfl) ?_
    obtain ⟨g21, hF⟩ := gdS hF
    refine va_iast hx hb hK hP hD hS 1 0 rfl rfl g21 dX8_lays_21 (fun H locs hP hD hS => ?_)
    have hP : va_P G.1 vwCl [(t, .inr (8, [.ref row, .ref kpt, .int images, .ref errs, .ref bitsOf, .ref sizeOf, .ref cels, .ref broken, .ref isFit, .ref breaks, .int mfit, .int known, .ref act, .ref wth, .ref facts, .ref pile, .int laid, .int hre, .int opnd, .int bad, .int usg, .ref trc, .int trcd, .int isP])), (act, .inl (xI G, 60, .inl (upd act_f laid.toNatClampNeg wh))), (wth, .inl (xI G, 60, .inl wth_f))] H := hP
    have hD : va_D A [(t, .inr (8, [.ref row, .ref kpt, .int images, .ref errs, .ref bitsOf, .ref sizeOf, .ref cels, .ref broken, .ref isFit, .ref breaks, .int mfit, .int known, .ref act, .ref wth, .ref facts, .ref pile, .int laid, .int hre, .int opnd, .int bad, .int usg, .ref trc, .int trcd, .int isP])), (act, .inl (xI G, 60, .inl (upd act_f laid.toNatClampNeg wh))), (wth, .inl (xI G, 60, .inl wth_f))] := hD
    refine lv_aload_n hx hb dX8_lays_22 rfl (lv_at hl 0 rfl) ?_
    refine va_get (ci := 8) (v := .ref wth) (C := RX8) (T := TX8) (N := 24) hx hb hts (fun w h => tcons w (xin8 w h)) hown hK hP 0 rfl rfl 13 (by decide) (hts _ (tcons _ m147)) (fun _ h9 => h9) rfl dX8_lays_23 ?_
    refine lv_aload_n hx hb dX8_lays_26 rfl (lv_at hl 0 rfl) ?_
    refine va_get (ci := 8) (v := .int laid) (C := RX8) (T := TX8) (N := 24) hx hb hts (fun w h => tcons w (xin8 w h)) hown hK hP 0 rfl rfl 16 (by decide) (hts _ (tcons _ m677)) (fun _ h9 => h9) rfl dX8_lays_27 ?_
    refine lv_iload_n hx hb dX8_lays_30 rfl (lv_at hl 2 rfl) ?_
    obtain ⟨g31, hF⟩ := gdS hF
    refine va_iast hx hb hK hP hD hS 2 0 rfl rfl g31 dX8_lays_31 (fun H locs hP hD hS => ?_)
    have hP : va_P G.1 vwCl [(t, .inr (8, [.ref row, .ref kpt, .int images, .ref errs, .ref bitsOf, .ref sizeOf, .ref cels, .ref broken, .ref isFit, .ref breaks, .int mfit, .int known, .ref act, .ref wth, .ref facts, .ref pile, .int laid, .int hre, .int opnd, .int bad, .int usg, .ref trc, .int trcd, .int isP])), (act, .inl (xI G, 60, .inl (upd act_f laid.toNatClampNeg wh))), (wth, .inl (xI G, 60, .inl (upd wth_f laid.toNatClampNeg v)))] H := hP
    have hD : va_D A [(t, .inr (8, [.ref row, .ref kpt, .int images, .ref errs, .ref bitsOf, .ref sizeOf, .ref cels, .ref broken, .ref isFit, .ref breaks, .int mfit, .int known, .ref act, .ref wth, .ref facts, .ref pile, .int laid, .int hre, .int opnd, .int bad, .int usg, .ref trc, .int trcd, .int isP])), (act, .inl (xI G, 60, .inl (upd act_f laid.toNatClampNeg wh))), (wth, .inl (xI G, 60, .inl (upd wth_f laid.toNatClampNeg v)))] := hD
    refine lv_aload_n hx hb dX8_lays_32 rfl (lv_at hl 0 rfl) ?_
    refine lv_dup hx hb dX8_lays_33 rfl ?_
    refine va_get (ci := 8) (v := .int laid) (C := RX8) (T := TX8) (N := 24) hx hb hts (fun w h => tcons w (xin8 w h)) hown hK hP 0 rfl rfl 16 (by decide) (hts _ (tcons _ m677)) (fun _ h9 => h9) rfl dX8_lays_34 ?_
    refine lv_iconst (v := 1) hx hb dX8_lays_37 (by decide) ?_
    refine lv_iadd hx hb dX8_lays_38 ?_
    refine va_put (ci := 8) (v := .int (laid + (1 : Int32))) (ty := .int) (C := RX8) (T := TX8) (N := 24) hx hb hts (fun w h => tcons w (xin8 w h)) tyX8 tyX8_ok nmX8 hown hK hP hD hS 0 rfl rfl 16 (by decide) (hts _ (tcons _ m677)) (fun _ h9 => h9) rfl (by decide +kernel) rfl rfl (Nat.le_of_ble_eq_true rfl) dX8_lays_39 (fun H locs hP hD hS => ?_)
    have hP : va_P G.1 vwCl [(t, .inr (8, [.ref row, .ref kpt, .int images, .ref errs, .ref bitsOf, .ref sizeOf, .ref cels, .ref broken, .ref isFit, .ref breaks, .int mfit, .int known, .ref act, .ref wth, .ref facts, .ref pile, .int (laid + (1 : Int32)), .int hre, .int opnd, .int bad, .int usg, .ref trc, .int trcd, .int isP])), (act, .inl (xI G, 60, .inl (upd act_f laid.toNatClampNeg wh))), (wth, .inl (xI G, 60, .inl (upd wth_f laid.toNatClampNeg v)))] H := hP
    have hD : va_D A [(t, .inr (8, [.ref row, .ref kpt, .int images, .ref errs, .ref bitsOf, .ref sizeOf, .ref cels, .ref broken, .ref isFit, .ref breaks, .int mfit, .int known, .ref act, .ref wth, .ref facts, .ref pile, .int (laid + (1 : Int32)), .int hre, .int opnd, .int bad, .int usg, .ref trc, .int trcd, .int isP])), (act, .inl (xI G, 60, .inl (upd act_f laid.toNatClampNeg wh))), (wth, .inl (xI G, 60, .inl (upd wth_f laid.toNatClampNeg v)))] := hD
    obtain rfl := Option.some.inj hF
    rw [← hQ]
    exact W.vret hx hb hr (fun t ht hW => ⟨⟨(), rfl, trivial, xLf hP ht⟩, hS.F ht⟩) hS.2.2 dX8_lays_42
def F_X8_nameOf (usg : Int32) (byt : Int32) : Option Int32 := if byt = (97 : Int32) then (if usg = 0 then (if byt = (97 : Int32) then (some (0 : Int32)) else (if byt = (98 : Int32) then (some (1 : Int32)) else (some (2 : Int32)))) else (some (-1 : Int32))) else (if byt = (98 : Int32) then (if usg = 0 then (if byt = (97 : Int32) then (some (0 : Int32)) else (if byt = (98 : Int32) then (some (1 : Int32)) else (some (2 : Int32)))) else (some (-1 : Int32))) else (if byt = (100 : Int32) then (if usg = (1 : Int32) then (if byt = (116 : Int32) then (some (0 : Int32)) else (if byt = (115 : Int32) then (some (1 : Int32)) else (some (2 : Int32)))) else (some (-1 : Int32))) else (if byt = (102 : Int32) then (if usg = 0 then (if byt = (97 : Int32) then (some (0 : Int32)) else (if byt = (98 : Int32) then (some (1 : Int32)) else (some (2 : Int32)))) else (some (-1 : Int32))) else (if byt = (115 : Int32) then (if usg = (1 : Int32) then (if byt = (116 : Int32) then (some (0 : Int32)) else (if byt = (115 : Int32) then (some (1 : Int32)) else (some (2 : Int32)))) else (some (-1 : Int32))) else (if byt = (116 : Int32) then (if usg = (1 : Int32) then (if byt = (116 : Int32) then (some (0 : Int32)) else (if byt = (115 : Int32) then (some (1 : Int32)) else (some (2 : Int32)))) else (some (-1 : Int32))) else (some (-1 : Int32)))))))
theorem hdX8_nameOf : yX8_nameOf.cls ≠ "java/lang/invoke/MethodHandle" ∧ yX8_nameOf.cls ≠ "java/lang/invoke/VarHandle" ∧ (parseMethodDescriptor yX8_nameOf.desc).map (fun d => d.parameters.length) = some 1 := by decide +kernel
set_option maxHeartbeats 4000000 in
set_option maxRecDepth 100000 in
theorem c_X8_nameOf (G : xG) (t : Nat) (row : Nat) (kpt : Nat) (errs : Nat) (bitsOf : Nat) (sizeOf : Nat) (cels : Nat) (broken : Nat) (isFit : Nat) (breaks : Nat) (act : Nat) (wth : Nat) (facts : Nat) (pile : Nat) (trc : Nat) (images : Int32) (mfit : Int32) (known : Int32) (laid : Int32) (hre : Int32) (opnd : Int32) (bad : Int32) (usg : Int32) (trcd : Int32) (isP : Int32) (byt : Int32)  (u : Int32) (hF : F_X8_nameOf usg byt = some u) : Ki G .int yX8_nameOf (Cond.code yX8_nameOf cX8_nameOf 2 (some .int) :: TBL) { frames := 0, cells := 0, slots := 0, locals := 0 } [.ref t, .int byt] [(t, .inr (8, [.ref row, .ref kpt, .int images, .ref errs, .ref bitsOf, .ref sizeOf, .ref cels, .ref broken, .ref isFit, .ref breaks, .int mfit, .int known, .ref act, .ref wth, .ref facts, .ref pile, .int laid, .int hre, .int opnd, .int bad, .int usg, .ref trc, .int trcd, .int isP]))] [(t, .inr (8, [.ref row, .ref kpt, .int images, .ref errs, .ref bitsOf, .ref sizeOf, .ref cels, .ref broken, .ref isFit, .ref breaks, .int mfit, .int known, .ref act, .ref wth, .ref facts, .ref pile, .int laid, .int hre, .int opnd, .int bad, .int usg, .ref trc, .int trcd, .int isP]))] u := by
  intro l sz
  refine Met.ofW (cc := cX8_nameOf) (maxL := 2) (ret := (some .int)) (by decide) rfl ?_
  intro p e s m args below meth c s₁ B hml hv
  obtain ⟨rfl, hsz, hP, hD0, hm⟩ := hv
  have hx := B.exec
  have hb := B.bytes
  have hr := B.returns
  have hts := atoms_spec (ws := Cond.code yX8_nameOf cX8_nameOf 2 (some .int) :: TBL) B.pre
  have hown : s.vm.findClass RX8 = some m.cls := findClass_of_methodNamed B.named
  have hlocks := B.notSynchronized
  subst hsz
  have hD := hD0.self (sz := s.heap.size)
  generalize hAe : va_A [(t, .inr (8, [.ref row, .ref kpt, .int images, .ref errs, .ref bitsOf, .ref sizeOf, .ref cels, .ref broken, .ref isFit, .ref breaks, .int mfit, .int known, .ref act, .ref wth, .ref facts, .ref pile, .int laid, .int hre, .int opnd, .int bad, .int usg, .ref trc, .int trcd, .int isP]))] s.heap.size = A at hD hm ⊢
  have hA : ∀ q : Nat, s.heap.size ≤ q → A q := fun q h => by rw [← hAe]; exact Or.inr h
  have hK := hm.1
  have hZ : xAnd p m c cX8_nameOf 2 s _ (Cond.code yX8_nameOf cX8_nameOf 2 (some .int) :: TBL) RX8 G A := ⟨⟨hx, hb, hml, hown, hts⟩, tcons, hA, hm⟩
  have hP : va_P G.1 vwCl [(t, .inr (8, [.ref row, .ref kpt, .int images, .ref errs, .ref bitsOf, .ref sizeOf, .ref cels, .ref broken, .ref isFit, .ref breaks, .int mfit, .int known, .ref act, .ref wth, .ref facts, .ref pile, .int laid, .int hre, .int opnd, .int bad, .int usg, .ref trc, .int trcd, .int isP]))] s.heap := hP
  have hl := lv_entry ([.ref t, .int byt]) (n := 2) (Nat.le_of_ble_eq_true rfl)
  rw [lg_entry_eq]
  generalize (lg_sl ([.ref t, .int byt]) ++ List.replicate (2 - (lg_sl ([.ref t, .int byt])).length) Slot.unset).toArray = ls at hl ⊢
  have hl : lv_has ls 2 [(0, .ref t), (1, .int byt)] := hl
  generalize hQ : MQ below _ _ s _ _ _ = Q
  refine xGo (A := A) hP (fun H locs hP hS => ?_)
  unfold F_X8_nameOf at hF
  refine lv_iload_n hx hb dX8_nameOf_0 rfl (lv_at hl 1 rfl) ?_
  by_cases c1_0 : byt = (97 : Int32)
  · have hF := itP c1_0 hF
    refine lv_tableIn (off := 95) (tgt := 96) hx hb dX8_nameOf_1 (by rw [c1_0]; decide) (by rw [c1_0]; decide) (by rw [c1_0]; rfl) (by decide) ?_
    refine lv_aload_n hx hb dX8_nameOf_96 rfl (lv_at hl 0 rfl) ?_
    refine va_get (ci := 8) (v := .int usg) (C := RX8) (T := TX8) (N := 24) hx hb hts (fun w h => tcons w (xin8 w h)) hown hK hP 0 rfl rfl 20 (by decide) (hts _ (tcons _ m676)) (fun _ h9 => h9) rfl dX8_nameOf_97 ?_
    refine lv_if_eq (tgt := 107) hx hb dX8_nameOf_100 (by decide) (fun c100 => ?_) (fun c100 => ?_)
    · have hF := itP c100 hF
      refine lv_iload_n hx hb dX8_nameOf_107 rfl (lv_at hl 1 rfl) ?_
      refine lv_bipush (v := 97) hx hb dX8_nameOf_108 (by decide) ?_
      refine lv_icmp_ne (tgt := 117) hx hb dX8_nameOf_110 (by decide) (fun c110 => ?_) (fun c110 => ?_)
      · have hF := itN c110 hF
        refine lv_iload_n hx hb dX8_nameOf_117 rfl (lv_at hl 1 rfl) ?_
        refine lv_bipush (v := 98) hx hb dX8_nameOf_118 (by decide) ?_
        refine lv_icmp_ne (tgt := 127) hx hb dX8_nameOf_120 (by decide) (fun c120 => ?_) (fun c120 => ?_)
        · have hF := itN c120 hF
          refine lv_iconst (v := 2) hx hb dX8_nameOf_127 (by decide) ?_
          obtain rfl := Option.some.inj hF
          rw [← hQ]
          exact W.iret (v := (2 : Int32)) hx hb hr (fun t ht hW => ⟨⟨_, (), rfl, ⟨rfl, rfl⟩, xLf hP ht⟩, hS.F ht⟩) hS.2.2 dX8_nameOf_128
        · have hF := itP c120 hF
          refine lv_iconst (v := 1) hx hb dX8_nameOf_123 (by decide) ?_
          refine lv_goto (tgt := 128) hx hb dX8_nameOf_124 (by decide) ?_
          obtain rfl := Option.some.inj hF
          rw [← hQ]
          exact W.iret (v := (1 : Int32)) hx hb hr (fun t ht hW => ⟨⟨_, (), rfl, ⟨rfl, rfl⟩, xLf hP ht⟩, hS.F ht⟩) hS.2.2 dX8_nameOf_128
      · have hF := itP c110 hF
        refine lv_iconst (v := 0) hx hb dX8_nameOf_113 (by decide) ?_
        refine lv_goto (tgt := 128) hx hb dX8_nameOf_114 (by decide) ?_
        obtain rfl := Option.some.inj hF
        rw [← hQ]
        exact W.iret (v := (0 : Int32)) hx hb hr (fun t ht hW => ⟨⟨_, (), rfl, ⟨rfl, rfl⟩, xLf hP ht⟩, hS.F ht⟩) hS.2.2 dX8_nameOf_128
    · have hF := itN c100 hF
      refine lv_iconst (v := -1) hx hb dX8_nameOf_103 (by decide) ?_
      refine lv_goto (tgt := 128) hx hb dX8_nameOf_104 (by decide) ?_
      obtain rfl := Option.some.inj hF
      rw [← hQ]
      exact W.iret (v := (-1 : Int32)) hx hb hr (fun t ht hW => ⟨⟨_, (), rfl, ⟨rfl, rfl⟩, xLf hP ht⟩, hS.F ht⟩) hS.2.2 dX8_nameOf_128
  · have hF := itN c1_0 hF
    by_cases c1_1 : byt = (98 : Int32)
    · have hF := itP c1_1 hF
      refine lv_tableIn (off := 95) (tgt := 96) hx hb dX8_nameOf_1 (by rw [c1_1]; decide) (by rw [c1_1]; decide) (by rw [c1_1]; rfl) (by decide) ?_
      refine lv_aload_n hx hb dX8_nameOf_96 rfl (lv_at hl 0 rfl) ?_
      refine va_get (ci := 8) (v := .int usg) (C := RX8) (T := TX8) (N := 24) hx hb hts (fun w h => tcons w (xin8 w h)) hown hK hP 0 rfl rfl 20 (by decide) (hts _ (tcons _ m676)) (fun _ h9 => h9) rfl dX8_nameOf_97 ?_
      refine lv_if_eq (tgt := 107) hx hb dX8_nameOf_100 (by decide) (fun c100 => ?_) (fun c100 => ?_)
      · have hF := itP c100 hF
        refine lv_iload_n hx hb dX8_nameOf_107 rfl (lv_at hl 1 rfl) ?_
        refine lv_bipush (v := 97) hx hb dX8_nameOf_108 (by decide) ?_
        refine lv_icmp_ne (tgt := 117) hx hb dX8_nameOf_110 (by decide) (fun c110 => ?_) (fun c110 => ?_)
        · have hF := itN c110 hF
          refine lv_iload_n hx hb dX8_nameOf_117 rfl (lv_at hl 1 rfl) ?_
          refine lv_bipush (v := 98) hx hb dX8_nameOf_118 (by decide) ?_
          refine lv_icmp_ne (tgt := 127) hx hb dX8_nameOf_120 (by decide) (fun c120 => ?_) (fun c120 => ?_)
          · have hF := itN c120 hF
            refine lv_iconst (v := 2) hx hb dX8_nameOf_127 (by decide) ?_
            obtain rfl := Option.some.inj hF
            rw [← hQ]
            exact W.iret (v := (2 : Int32)) hx hb hr (fun t ht hW => ⟨⟨_, (), rfl, ⟨rfl, rfl⟩, xLf hP ht⟩, hS.F ht⟩) hS.2.2 dX8_nameOf_128
          · have hF := itP c120 hF
            refine lv_iconst (v := 1) hx hb dX8_nameOf_123 (by decide) ?_
            refine lv_goto (tgt := 128) hx hb dX8_nameOf_124 (by decide) ?_
            obtain rfl := Option.some.inj hF
            rw [← hQ]
            exact W.iret (v := (1 : Int32)) hx hb hr (fun t ht hW => ⟨⟨_, (), rfl, ⟨rfl, rfl⟩, xLf hP ht⟩, hS.F ht⟩) hS.2.2 dX8_nameOf_128
        · have hF := itP c110 hF
          refine lv_iconst (v := 0) hx hb dX8_nameOf_113 (by decide) ?_
          refine lv_goto (tgt := 128) hx hb dX8_nameOf_114 (by decide) ?_
          obtain rfl := Option.some.inj hF
          rw [← hQ]
          exact W.iret (v := (0 : Int32)) hx hb hr (fun t ht hW => ⟨⟨_, (), rfl, ⟨rfl, rfl⟩, xLf hP ht⟩, hS.F ht⟩) hS.2.2 dX8_nameOf_128
      · have hF := itN c100 hF
        refine lv_iconst (v := -1) hx hb dX8_nameOf_103 (by decide) ?_
        refine lv_goto (tgt := 128) hx hb dX8_nameOf_104 (by decide) ?_
        obtain rfl := Option.some.inj hF
        rw [← hQ]
        exact W.iret (v := (-1 : Int32)) hx hb hr (fun t ht hW => ⟨⟨_, (), rfl, ⟨rfl, rfl⟩, xLf hP ht⟩, hS.F ht⟩) hS.2.2 dX8_nameOf_128
    · have hF := itN c1_1 hF
      by_cases c1_2 : byt = (100 : Int32)
      · have hF := itP c1_2 hF
        refine lv_tableIn (off := 128) (tgt := 129) hx hb dX8_nameOf_1 (by rw [c1_2]; decide) (by rw [c1_2]; decide) (by rw [c1_2]; rfl) (by decide) ?_
        refine lv_aload_n hx hb dX8_nameOf_129 rfl (lv_at hl 0 rfl) ?_
        refine va_get (ci := 8) (v := .int usg) (C := RX8) (T := TX8) (N := 24) hx hb hts (fun w h => tcons w (xin8 w h)) hown hK hP 0 rfl rfl 20 (by decide) (hts _ (tcons _ m676)) (fun _ h9 => h9) rfl dX8_nameOf_130 ?_
        refine lv_iconst (v := 1) hx hb dX8_nameOf_133 (by decide) ?_
        refine lv_icmp_eq (tgt := 141) hx hb dX8_nameOf_134 (by decide) (fun c134 => ?_) (fun c134 => ?_)
        · have hF := itP c134 hF
          refine lv_iload_n hx hb dX8_nameOf_141 rfl (lv_at hl 1 rfl) ?_
          refine lv_bipush (v := 116) hx hb dX8_nameOf_142 (by decide) ?_
          refine lv_icmp_ne (tgt := 151) hx hb dX8_nameOf_144 (by decide) (fun c144 => ?_) (fun c144 => ?_)
          · have hF := itN c144 hF
            refine lv_iload_n hx hb dX8_nameOf_151 rfl (lv_at hl 1 rfl) ?_
            refine lv_bipush (v := 115) hx hb dX8_nameOf_152 (by decide) ?_
            refine lv_icmp_ne (tgt := 161) hx hb dX8_nameOf_154 (by decide) (fun c154 => ?_) (fun c154 => ?_)
            · have hF := itN c154 hF
              refine lv_iconst (v := 2) hx hb dX8_nameOf_161 (by decide) ?_
              obtain rfl := Option.some.inj hF
              rw [← hQ]
              exact W.iret (v := (2 : Int32)) hx hb hr (fun t ht hW => ⟨⟨_, (), rfl, ⟨rfl, rfl⟩, xLf hP ht⟩, hS.F ht⟩) hS.2.2 dX8_nameOf_162
            · have hF := itP c154 hF
              refine lv_iconst (v := 1) hx hb dX8_nameOf_157 (by decide) ?_
              refine lv_goto (tgt := 162) hx hb dX8_nameOf_158 (by decide) ?_
              obtain rfl := Option.some.inj hF
              rw [← hQ]
              exact W.iret (v := (1 : Int32)) hx hb hr (fun t ht hW => ⟨⟨_, (), rfl, ⟨rfl, rfl⟩, xLf hP ht⟩, hS.F ht⟩) hS.2.2 dX8_nameOf_162
          · have hF := itP c144 hF
            refine lv_iconst (v := 0) hx hb dX8_nameOf_147 (by decide) ?_
            refine lv_goto (tgt := 162) hx hb dX8_nameOf_148 (by decide) ?_
            obtain rfl := Option.some.inj hF
            rw [← hQ]
            exact W.iret (v := (0 : Int32)) hx hb hr (fun t ht hW => ⟨⟨_, (), rfl, ⟨rfl, rfl⟩, xLf hP ht⟩, hS.F ht⟩) hS.2.2 dX8_nameOf_162
        · have hF := itN c134 hF
          refine lv_iconst (v := -1) hx hb dX8_nameOf_137 (by decide) ?_
          refine lv_goto (tgt := 162) hx hb dX8_nameOf_138 (by decide) ?_
          obtain rfl := Option.some.inj hF
          rw [← hQ]
          exact W.iret (v := (-1 : Int32)) hx hb hr (fun t ht hW => ⟨⟨_, (), rfl, ⟨rfl, rfl⟩, xLf hP ht⟩, hS.F ht⟩) hS.2.2 dX8_nameOf_162
      · have hF := itN c1_2 hF
        by_cases c1_3 : byt = (102 : Int32)
        · have hF := itP c1_3 hF
          refine lv_tableIn (off := 95) (tgt := 96) hx hb dX8_nameOf_1 (by rw [c1_3]; decide) (by rw [c1_3]; decide) (by rw [c1_3]; rfl) (by decide) ?_
          refine lv_aload_n hx hb dX8_nameOf_96 rfl (lv_at hl 0 rfl) ?_
          refine va_get (ci := 8) (v := .int usg) (C := RX8) (T := TX8) (N := 24) hx hb hts (fun w h => tcons w (xin8 w h)) hown hK hP 0 rfl rfl 20 (by decide) (hts _ (tcons _ m676)) (fun _ h9 => h9) rfl dX8_nameOf_97 ?_
          refine lv_if_eq (tgt := 107) hx hb dX8_nameOf_100 (by decide) (fun c100 => ?_) (fun c100 => ?_)
          · have hF := itP c100 hF
            refine lv_iload_n hx hb dX8_nameOf_107 rfl (lv_at hl 1 rfl) ?_
            refine lv_bipush (v := 97) hx hb dX8_nameOf_108 (by decide) ?_
            refine lv_icmp_ne (tgt := 117) hx hb dX8_nameOf_110 (by decide) (fun c110 => ?_) (fun c110 => ?_)
            · have hF := itN c110 hF
              refine lv_iload_n hx hb dX8_nameOf_117 rfl (lv_at hl 1 rfl) ?_
              refine lv_bipush (v := 98) hx hb dX8_nameOf_118 (by decide) ?_
              refine lv_icmp_ne (tgt := 127) hx hb dX8_nameOf_120 (by decide) (fun c120 => ?_) (fun c120 => ?_)
              · have hF := itN c120 hF
                refine lv_iconst (v := 2) hx hb dX8_nameOf_127 (by decide) ?_
                obtain rfl := Option.some.inj hF
                rw [← hQ]
                exact W.iret (v := (2 : Int32)) hx hb hr (fun t ht hW => ⟨⟨_, (), rfl, ⟨rfl, rfl⟩, xLf hP ht⟩, hS.F ht⟩) hS.2.2 dX8_nameOf_128
              · have hF := itP c120 hF
                refine lv_iconst (v := 1) hx hb dX8_nameOf_123 (by decide) ?_
                refine lv_goto (tgt := 128) hx hb dX8_nameOf_124 (by decide) ?_
                obtain rfl := Option.some.inj hF
                rw [← hQ]
                exact W.iret (v := (1 : Int32)) hx hb hr (fun t ht hW => ⟨⟨_, (), rfl, ⟨rfl, rfl⟩, xLf hP ht⟩, hS.F ht⟩) hS.2.2 dX8_nameOf_128
            · have hF := itP c110 hF
              refine lv_iconst (v := 0) hx hb dX8_nameOf_113 (by decide) ?_
              refine lv_goto (tgt := 128) hx hb dX8_nameOf_114 (by decide) ?_
              obtain rfl := Option.some.inj hF
              rw [← hQ]
              exact W.iret (v := (0 : Int32)) hx hb hr (fun t ht hW => ⟨⟨_, (), rfl, ⟨rfl, rfl⟩, xLf hP ht⟩, hS.F ht⟩) hS.2.2 dX8_nameOf_128
          · have hF := itN c100 hF
            refine lv_iconst (v := -1) hx hb dX8_nameOf_103 (by decide) ?_
            refine lv_goto (tgt := 128) hx hb dX8_nameOf_104 (by decide) ?_
            obtain rfl := Option.some.inj hF
            rw [← hQ]
            exact W.iret (v := (-1 : Int32)) hx hb hr (fun t ht hW => ⟨⟨_, (), rfl, ⟨rfl, rfl⟩, xLf hP ht⟩, hS.F ht⟩) hS.2.2 dX8_nameOf_128
        · have hF := itN c1_3 hF
          by_cases c1_4 : byt = (115 : Int32)
          · have hF := itP c1_4 hF
            refine lv_tableIn (off := 128) (tgt := 129) hx hb dX8_nameOf_1 (by rw [c1_4]; decide) (by rw [c1_4]; decide) (by rw [c1_4]; rfl) (by decide) ?_
            refine lv_aload_n hx hb dX8_nameOf_129 rfl (lv_at hl 0 rfl) ?_
            refine va_get (ci := 8) (v := .int usg) (C := RX8) (T := TX8) (N := 24) hx hb hts (fun w h => tcons w (xin8 w h)) hown hK hP 0 rfl rfl 20 (by decide) (hts _ (tcons _ m676)) (fun _ h9 => h9) rfl dX8_nameOf_130 ?_
            refine lv_iconst (v := 1) hx hb dX8_nameOf_133 (by decide) ?_
            refine lv_icmp_eq (tgt := 141) hx hb dX8_nameOf_134 (by decide) (fun c134 => ?_) (fun c134 => ?_)
            · have hF := itP c134 hF
              refine lv_iload_n hx hb dX8_nameOf_141 rfl (lv_at hl 1 rfl) ?_
              refine lv_bipush (v := 116) hx hb dX8_nameOf_142 (by decide) ?_
              refine lv_icmp_ne (tgt := 151) hx hb dX8_nameOf_144 (by decide) (fun c144 => ?_) (fun c144 => ?_)
              · have hF := itN c144 hF
                refine lv_iload_n hx hb dX8_nameOf_151 rfl (lv_at hl 1 rfl) ?_
                refine lv_bipush (v := 115) hx hb dX8_nameOf_152 (by decide) ?_
                refine lv_icmp_ne (tgt := 161) hx hb dX8_nameOf_154 (by decide) (fun c154 => ?_) (fun c154 => ?_)
                · have hF := itN c154 hF
                  refine lv_iconst (v := 2) hx hb dX8_nameOf_161 (by decide) ?_
                  obtain rfl := Option.some.inj hF
                  rw [← hQ]
                  exact W.iret (v := (2 : Int32)) hx hb hr (fun t ht hW => ⟨⟨_, (), rfl, ⟨rfl, rfl⟩, xLf hP ht⟩, hS.F ht⟩) hS.2.2 dX8_nameOf_162
                · have hF := itP c154 hF
                  refine lv_iconst (v := 1) hx hb dX8_nameOf_157 (by decide) ?_
                  refine lv_goto (tgt := 162) hx hb dX8_nameOf_158 (by decide) ?_
                  obtain rfl := Option.some.inj hF
                  rw [← hQ]
                  exact W.iret (v := (1 : Int32)) hx hb hr (fun t ht hW => ⟨⟨_, (), rfl, ⟨rfl, rfl⟩, xLf hP ht⟩, hS.F ht⟩) hS.2.2 dX8_nameOf_162
              · have hF := itP c144 hF
                refine lv_iconst (v := 0) hx hb dX8_nameOf_147 (by decide) ?_
                refine lv_goto (tgt := 162) hx hb dX8_nameOf_148 (by decide) ?_
                obtain rfl := Option.some.inj hF
                rw [← hQ]
                exact W.iret (v := (0 : Int32)) hx hb hr (fun t ht hW => ⟨⟨_, (), rfl, ⟨rfl, rfl⟩, xLf hP ht⟩, hS.F ht⟩) hS.2.2 dX8_nameOf_162
            · have hF := itN c134 hF
              refine lv_iconst (v := -1) hx hb dX8_nameOf_137 (by decide) ?_
              refine lv_goto (tgt := 162) hx hb dX8_nameOf_138 (by decide) ?_
              obtain rfl := Option.some.inj hF
              rw [← hQ]
              exact W.iret (v := (-1 : Int32)) hx hb hr (fun t ht hW => ⟨⟨_, (), rfl, ⟨rfl, rfl⟩, xLf hP ht⟩, hS.F ht⟩) hS.2.2 dX8_nameOf_162
          · have hF := itN c1_4 hF
            by_cases c1_5 : byt = (116 : Int32)
            · have hF := itP c1_5 hF
              refine lv_tableIn (off := 128) (tgt := 129) hx hb dX8_nameOf_1 (by rw [c1_5]; decide) (by rw [c1_5]; decide) (by rw [c1_5]; rfl) (by decide) ?_
              refine lv_aload_n hx hb dX8_nameOf_129 rfl (lv_at hl 0 rfl) ?_
              refine va_get (ci := 8) (v := .int usg) (C := RX8) (T := TX8) (N := 24) hx hb hts (fun w h => tcons w (xin8 w h)) hown hK hP 0 rfl rfl 20 (by decide) (hts _ (tcons _ m676)) (fun _ h9 => h9) rfl dX8_nameOf_130 ?_
              refine lv_iconst (v := 1) hx hb dX8_nameOf_133 (by decide) ?_
              refine lv_icmp_eq (tgt := 141) hx hb dX8_nameOf_134 (by decide) (fun c134 => ?_) (fun c134 => ?_)
              · have hF := itP c134 hF
                refine lv_iload_n hx hb dX8_nameOf_141 rfl (lv_at hl 1 rfl) ?_
                refine lv_bipush (v := 116) hx hb dX8_nameOf_142 (by decide) ?_
                refine lv_icmp_ne (tgt := 151) hx hb dX8_nameOf_144 (by decide) (fun c144 => ?_) (fun c144 => ?_)
                · have hF := itN c144 hF
                  refine lv_iload_n hx hb dX8_nameOf_151 rfl (lv_at hl 1 rfl) ?_
                  refine lv_bipush (v := 115) hx hb dX8_nameOf_152 (by decide) ?_
                  refine lv_icmp_ne (tgt := 161) hx hb dX8_nameOf_154 (by decide) (fun c154 => ?_) (fun c154 => ?_)
                  · have hF := itN c154 hF
                    refine lv_iconst (v := 2) hx hb dX8_nameOf_161 (by decide) ?_
                    obtain rfl := Option.some.inj hF
                    rw [← hQ]
                    exact W.iret (v := (2 : Int32)) hx hb hr (fun t ht hW => ⟨⟨_, (), rfl, ⟨rfl, rfl⟩, xLf hP ht⟩, hS.F ht⟩) hS.2.2 dX8_nameOf_162
                  · have hF := itP c154 hF
                    refine lv_iconst (v := 1) hx hb dX8_nameOf_157 (by decide) ?_
                    refine lv_goto (tgt := 162) hx hb dX8_nameOf_158 (by decide) ?_
                    obtain rfl := Option.some.inj hF
                    rw [← hQ]
                    exact W.iret (v := (1 : Int32)) hx hb hr (fun t ht hW => ⟨⟨_, (), rfl, ⟨rfl, rfl⟩, xLf hP ht⟩, hS.F ht⟩) hS.2.2 dX8_nameOf_162
                · have hF := itP c144 hF
                  refine lv_iconst (v := 0) hx hb dX8_nameOf_147 (by decide) ?_
                  refine lv_goto (tgt := 162) hx hb dX8_nameOf_148 (by decide) ?_
                  obtain rfl := Option.some.inj hF
                  rw [← hQ]
                  exact W.iret (v := (0 : Int32)) hx hb hr (fun t ht hW => ⟨⟨_, (), rfl, ⟨rfl, rfl⟩, xLf hP ht⟩, hS.F ht⟩) hS.2.2 dX8_nameOf_162
              · have hF := itN c134 hF
                refine lv_iconst (v := -1) hx hb dX8_nameOf_137 (by decide) ?_
                refine lv_goto (tgt := 162) hx hb dX8_nameOf_138 (by decide) ?_
                obtain rfl := Option.some.inj hF
                rw [← hQ]
                exact W.iret (v := (-1 : Int32)) hx hb hr (fun t ht hW => ⟨⟨_, (), rfl, ⟨rfl, rfl⟩, xLf hP ht⟩, hS.F ht⟩) hS.2.2 dX8_nameOf_162
            · have hF := itN c1_5 hF
              refine xTab (tgt := 163) hx hb dX8_nameOf_1 (by have h0 : byt.toInt ≠ 97 := xNe c1_0; have h1 : byt.toInt ≠ 98 := xNe c1_1; have h2 : byt.toInt ≠ 100 := xNe c1_2; have h3 : byt.toInt ≠ 102 := xNe c1_3; have h4 : byt.toInt ≠ 115 := xNe c1_4; have h5 : byt.toInt ≠ 116 := xNe c1_5; rcases (show byt.toInt < 97 ∨ 116 < byt.toInt ∨ byt.toInt = 99 ∨ byt.toInt = 101 ∨ byt.toInt = 103 ∨ byt.toInt = 104 ∨ byt.toInt = 105 ∨ byt.toInt = 106 ∨ byt.toInt = 107 ∨ byt.toInt = 108 ∨ byt.toInt = 109 ∨ byt.toInt = 110 ∨ byt.toInt = 111 ∨ byt.toInt = 112 ∨ byt.toInt = 113 ∨ byt.toInt = 114 by omega) with h | h | h | h | h | h | h | h | h | h | h | h | h | h | h | h; exact Or.inl h; exact Or.inr (Or.inl h); all_goals exact Or.inr (Or.inr (by rw [h]; rfl))) (by decide) ?_
              refine lv_iconst (v := -1) hx hb dX8_nameOf_163 (by decide) ?_
              obtain rfl := Option.some.inj hF
              rw [← hQ]
              exact W.iret (v := (-1 : Int32)) hx hb hr (fun t ht hW => ⟨⟨_, (), rfl, ⟨rfl, rfl⟩, xLf hP ht⟩, hS.F ht⟩) hS.2.2 dX8_nameOf_164
def B_X8_number_4 (laid : Int32) (row_f : Nat → Int32) (act_f : Nat → Int32) (wth_f : Nat → Int32) (k4 : (Int32 × Int32 × Int32) → Option (Int32 × Int32 × Int32 × (Nat → Int32) × (Nat → Int32))) (v4 : (Int32 × Int32 × Int32)) : Option (Int32 × Int32 × Int32 × (Nat → Int32) × (Nat → Int32)) := if (4 : Int32) ≤ v4.2.1 then (if v4.2.1 = 0 then (bd (F_X8_lays laid act_f wth_f (1 : Int32) v4.1) (fun (u1 : (Int32 × (Nat → Int32) × (Nat → Int32))) => some (u1.1, v4.2.2, (1 : Int32), u1.2.1, u1.2.2))) else (bd (F_X8_lays laid act_f wth_f (1 : Int32) v4.1) (fun (u1 : (Int32 × (Nat → Int32) × (Nat → Int32))) => some (u1.1, v4.2.2, (0 : Int32), u1.2.1, u1.2.2)))) else (bd (F_X8_look v4.2.2 row_f) (fun (u1 : Int32) => bd (F_X8_in u1 (48 : Int32) (57 : Int32)) (fun (u2 : Int32) => if u2 = 0 then (if v4.2.1 = 0 then (bd (F_X8_lays laid act_f wth_f (1 : Int32) v4.1) (fun (u3 : (Int32 × (Nat → Int32) × (Nat → Int32))) => some (u3.1, v4.2.2, (1 : Int32), u3.2.1, u3.2.2))) else (bd (F_X8_lays laid act_f wth_f (1 : Int32) v4.1) (fun (u3 : (Int32 × (Nat → Int32) × (Nat → Int32))) => some (u3.1, v4.2.2, (0 : Int32), u3.2.1, u3.2.2)))) else (bd (F_X8_look v4.2.2 row_f) (fun (u3 : Int32) => k4 (((((10 : Int32) * v4.1) + u3) - (48 : Int32)), (v4.2.1 + (1 : Int32)), (v4.2.2 + (1 : Int32))))))))
def F_X8_number (laid : Int32) (hre : Int32) (row_f : Nat → Int32) (act_f : Nat → Int32) (wth_f : Nat → Int32) : Option (Int32 × Int32 × Int32 × (Nat → Int32) × (Nat → Int32)) := lp (B_X8_number_4 laid row_f act_f wth_f) fuelC ((0 : Int32), (0 : Int32), hre)
theorem hdX8_number : yX8_number.cls ≠ "java/lang/invoke/MethodHandle" ∧ yX8_number.cls ≠ "java/lang/invoke/VarHandle" ∧ (parseMethodDescriptor yX8_number.desc).map (fun d => d.parameters.length) = some 0 := by decide +kernel
set_option maxHeartbeats 4000000 in
set_option maxRecDepth 100000 in
theorem c_X8_number (G : xG) (t : Nat) (row : Nat) (kpt : Nat) (errs : Nat) (bitsOf : Nat) (sizeOf : Nat) (cels : Nat) (broken : Nat) (isFit : Nat) (breaks : Nat) (act : Nat) (wth : Nat) (facts : Nat) (pile : Nat) (trc : Nat) (images : Int32) (mfit : Int32) (known : Int32) (laid : Int32) (hre : Int32) (opnd : Int32) (bad : Int32) (usg : Int32) (trcd : Int32) (isP : Int32) (row_f : Nat → Int32) (act_f : Nat → Int32) (wth_f : Nat → Int32)  (u : (Int32 × Int32 × Int32 × (Nat → Int32) × (Nat → Int32))) (hF : F_X8_number laid hre row_f act_f wth_f = some u) : Kv G yX8_number (Cond.code yX8_number cX8_number 3 none :: TBL) { frames := 1, cells := 0, slots := 0, locals := 22 } [.ref t] [(t, .inr (8, [.ref row, .ref kpt, .int images, .ref errs, .ref bitsOf, .ref sizeOf, .ref cels, .ref broken, .ref isFit, .ref breaks, .int mfit, .int known, .ref act, .ref wth, .ref facts, .ref pile, .int laid, .int hre, .int opnd, .int bad, .int usg, .ref trc, .int trcd, .int isP])), (row, .inl (xI G, 400, .inl row_f)), (act, .inl (xI G, 60, .inl act_f)), (wth, .inl (xI G, 60, .inl wth_f))] [(t, .inr (8, [.ref row, .ref kpt, .int images, .ref errs, .ref bitsOf, .ref sizeOf, .ref cels, .ref broken, .ref isFit, .ref breaks, .int mfit, .int known, .ref act, .ref wth, .ref facts, .ref pile, .int u.1, .int u.2.1, .int opnd, .int u.2.2.1, .int usg, .ref trc, .int trcd, .int isP])), (row, .inl (xI G, 400, .inl row_f)), (act, .inl (xI G, 60, .inl u.2.2.2.1)), (wth, .inl (xI G, 60, .inl u.2.2.2.2))] := by
  intro l sz
  refine Met.ofW (cc := cX8_number) (maxL := 3) (ret := none) (by decide) rfl ?_
  intro p e s m args below meth c s₁ B hml hv
  obtain ⟨rfl, hsz, hP, hD0, hm⟩ := hv
  have hx := B.exec
  have hb := B.bytes
  have hr := B.returns
  have hts := atoms_spec (ws := Cond.code yX8_number cX8_number 3 none :: TBL) B.pre
  have hown : s.vm.findClass RX8 = some m.cls := findClass_of_methodNamed B.named
  have hlocks := B.notSynchronized
  subst hsz
  have hD := hD0.self (sz := s.heap.size)
  generalize hAe : va_A [(t, .inr (8, [.ref row, .ref kpt, .int images, .ref errs, .ref bitsOf, .ref sizeOf, .ref cels, .ref broken, .ref isFit, .ref breaks, .int mfit, .int known, .ref act, .ref wth, .ref facts, .ref pile, .int laid, .int hre, .int opnd, .int bad, .int usg, .ref trc, .int trcd, .int isP])), (row, .inl (xI G, 400, .inl row_f)), (act, .inl (xI G, 60, .inl act_f)), (wth, .inl (xI G, 60, .inl wth_f))] s.heap.size = A at hD hm ⊢
  have hA : ∀ q : Nat, s.heap.size ≤ q → A q := fun q h => by rw [← hAe]; exact Or.inr h
  have hK := hm.1
  have hZ : xAnd p m c cX8_number 3 s _ (Cond.code yX8_number cX8_number 3 none :: TBL) RX8 G A := ⟨⟨hx, hb, hml, hown, hts⟩, tcons, hA, hm⟩
  have hP : va_P G.1 vwCl [(t, .inr (8, [.ref row, .ref kpt, .int images, .ref errs, .ref bitsOf, .ref sizeOf, .ref cels, .ref broken, .ref isFit, .ref breaks, .int mfit, .int known, .ref act, .ref wth, .ref facts, .ref pile, .int laid, .int hre, .int opnd, .int bad, .int usg, .ref trc, .int trcd, .int isP])), (row, .inl (xI G, 400, .inl row_f)), (act, .inl (xI G, 60, .inl act_f)), (wth, .inl (xI G, 60, .inl wth_f))] s.heap := hP
  have hl := lv_entry ([.ref t]) (n := 3) (Nat.le_of_ble_eq_true rfl)
  rw [lg_entry_eq]
  generalize (lg_sl ([.ref t]) ++ List.replicate (3 - (lg_sl ([.ref t])).length) Slot.unset).toArray = ls at hl ⊢
  have hl : lv_has ls 3 [(0, .ref t)] := hl
  generalize hQ : MQ below _ _ s _ _ _ = Q
  refine xGo (A := A) hP (fun H locs hP hS => ?_)
  unfold F_X8_number at hF
  refine lv_iconst (v := 0) hx hb dX8_number_0 (by decide) ?_
  refine lv_istore_n (lv' := [(1, .int (0 : Int32)), (0, .ref t)]) hx hb dX8_number_1 rfl hl (by decide) rfl (fun ls hl => ?_)
  refine lv_iconst (v := 0) hx hb dX8_number_2 (by decide) ?_
  refine lv_istore_n (lv' := [(2, .int (0 : Int32)), (1, .int (0 : Int32)), (0, .ref t)]) hx hb dX8_number_3 rfl hl (by decide) rfl (fun ls hl => ?_)
  refine xLoop3 (body := (B_X8_number_4 laid row_f act_f wth_f)) (fun (v4_0 : Int32) (v4_1 : Int32) (v4_2 : Int32) H locs ls => va_P G.1 vwCl [(t, .inr (8, [.ref row, .ref kpt, .int images, .ref errs, .ref bitsOf, .ref sizeOf, .ref cels, .ref broken, .ref isFit, .ref breaks, .int mfit, .int known, .ref act, .ref wth, .ref facts, .ref pile, .int laid, .int v4_2, .int opnd, .int bad, .int usg, .ref trc, .int trcd, .int isP])), (row, .inl (xI G, 400, .inl row_f)), (act, .inl (xI G, 60, .inl act_f)), (wth, .inl (xI G, 60, .inl wth_f))] H ∧ va_D A [(t, .inr (8, [.ref row, .ref kpt, .int images, .ref errs, .ref bitsOf, .ref sizeOf, .ref cels, .ref broken, .ref isFit, .ref breaks, .int mfit, .int known, .ref act, .ref wth, .ref facts, .ref pile, .int laid, .int v4_2, .int opnd, .int bad, .int usg, .ref trc, .int trcd, .int isP])), (row, .inl (xI G, 400, .inl row_f)), (act, .inl (xI G, 60, .inl act_f)), (wth, .inl (xI G, 60, .inl wth_f))] ∧ va_S A s.heap H locs ∧ lv_has ls 3 [(0, .ref t), (1, .int v4_0), (2, .int v4_1)]) (fun N4 v4_0 v4_1 v4_2 ih4 H locs ls hI hF => ?_) fuelC (0 : Int32) (0 : Int32) hre H locs ls ⟨hP, hD, hS, lv_sub hl [2, 1, 0] rfl⟩ hF
  obtain ⟨hP, hD, hS, hl⟩ := hI
  unfold B_X8_number_4 at hF
  refine lv_iload_n hx hb dX8_number_4 rfl (lv_at hl 2 rfl) ?_
  refine lv_iconst (v := 4) hx hb dX8_number_5 (by decide) ?_
  refine lv_icmp_ge (tgt := 52) hx hb dX8_number_6 (by decide) (fun c6 => ?_) (fun c6 => ?_)
  · have hF := itP c6 hF
    refine lv_aload_n hx hb dX8_number_52 rfl (lv_at hl 0 rfl) ?_
    refine lv_iload_n hx hb dX8_number_53 rfl (lv_at hl 2 rfl) ?_
    refine lv_if_ne (tgt := 61) hx hb dX8_number_54 (by decide) (fun c54 => ?_) (fun c54 => ?_)
    · have hF := itN c54 hF
      refine lv_iconst (v := 0) hx hb dX8_number_61 (by decide) ?_
      refine va_put (ci := 8) (v := .int (0 : Int32)) (ty := .boolean) (C := RX8) (T := TX8) (N := 24) hx hb hts (fun w h => tcons w (xin8 w h)) tyX8 tyX8_ok nmX8 hown hK hP hD hS 0 rfl rfl 19 (by decide) (hts _ (tcons _ m680)) (fun _ h9 => h9) rfl (by decide +kernel) (by decide) (by decide) (Nat.le_of_ble_eq_true rfl) dX8_number_62 (fun H locs hP hD hS => ?_)
      have hP : va_P G.1 vwCl [(t, .inr (8, [.ref row, .ref kpt, .int images, .ref errs, .ref bitsOf, .ref sizeOf, .ref cels, .ref broken, .ref isFit, .ref breaks, .int mfit, .int known, .ref act, .ref wth, .ref facts, .ref pile, .int laid, .int v4_2, .int opnd, .int (0 : Int32), .int usg, .ref trc, .int trcd, .int isP])), (row, .inl (xI G, 400, .inl row_f)), (act, .inl (xI G, 60, .inl act_f)), (wth, .inl (xI G, 60, .inl wth_f))] H := hP
      have hD : va_D A [(t, .inr (8, [.ref row, .ref kpt, .int images, .ref errs, .ref bitsOf, .ref sizeOf, .ref cels, .ref broken, .ref isFit, .ref breaks, .int mfit, .int known, .ref act, .ref wth, .ref facts, .ref pile, .int laid, .int v4_2, .int opnd, .int (0 : Int32), .int usg, .ref trc, .int trcd, .int isP])), (row, .inl (xI G, 400, .inl row_f)), (act, .inl (xI G, 60, .inl act_f)), (wth, .inl (xI G, 60, .inl wth_f))] := hD
      refine lv_aload_n hx hb dX8_number_65 rfl (lv_at hl 0 rfl) ?_
      refine lv_iconst (v := 1) hx hb dX8_number_66 (by decide) ?_
      refine lv_iload_n hx hb dX8_number_67 rfl (lv_at hl 1 rfl) ?_
      obtain ⟨u1, e1, hF⟩ := bdS hF
      refine xEndV (xRunV (As := [.int (1 : Int32), .int v4_0]) (rest := []) hZ (c_X8_lays G t row kpt errs bitsOf sizeOf cels broken isFit breaks act wth facts pile trc images mfit known laid v4_2 opnd (0 : Int32) usg trcd isP act_f wth_f (1 : Int32) v4_0 u1 e1 l H.size) m692 m693 m694 m5 m695 2 ⟨rfl, hdX8_lays⟩ ⟨Nat.le_of_ble_eq_true rfl, Nat.le_of_ble_eq_true rfl⟩ ⟨rfl, rfl⟩ hP hD hS 0 8 rfl rfl rfl [0, 2, 3] rfl rfl rfl hl.1 rfl (Nat.le_of_ble_eq_true rfl) dX8_number_68 ⟨Nat.zero_le _, Nat.zero_le _⟩) hP hD hS hA [0, 2, 3] rfl rfl rfl (fun H locs hP hD hS => ?_)
      have hP : va_P G.1 vwCl [(t, .inr (8, [.ref row, .ref kpt, .int images, .ref errs, .ref bitsOf, .ref sizeOf, .ref cels, .ref broken, .ref isFit, .ref breaks, .int mfit, .int known, .ref act, .ref wth, .ref facts, .ref pile, .int u1.1, .int v4_2, .int opnd, .int (0 : Int32), .int usg, .ref trc, .int trcd, .int isP])), (row, .inl (xI G, 400, .inl row_f)), (act, .inl (xI G, 60, .inl u1.2.1)), (wth, .inl (xI G, 60, .inl u1.2.2))] H := hP
      have hD : va_D A [(t, .inr (8, [.ref row, .ref kpt, .int images, .ref errs, .ref bitsOf, .ref sizeOf, .ref cels, .ref broken, .ref isFit, .ref breaks, .int mfit, .int known, .ref act, .ref wth, .ref facts, .ref pile, .int u1.1, .int v4_2, .int opnd, .int (0 : Int32), .int usg, .ref trc, .int trcd, .int isP])), (row, .inl (xI G, 400, .inl row_f)), (act, .inl (xI G, 60, .inl u1.2.1)), (wth, .inl (xI G, 60, .inl u1.2.2))] := hD
      obtain rfl := Option.some.inj hF
      rw [← hQ]
      exact W.vret hx hb hr (fun t ht hW => ⟨⟨(), rfl, trivial, xLf hP ht⟩, hS.F ht⟩) hS.2.2 dX8_number_71
    · have hF := itP c54 hF
      refine lv_iconst (v := 1) hx hb dX8_number_57 (by decide) ?_
      refine lv_goto (tgt := 62) hx hb dX8_number_58 (by decide) ?_
      refine va_put (ci := 8) (v := .int (1 : Int32)) (ty := .boolean) (C := RX8) (T := TX8) (N := 24) hx hb hts (fun w h => tcons w (xin8 w h)) tyX8 tyX8_ok nmX8 hown hK hP hD hS 0 rfl rfl 19 (by decide) (hts _ (tcons _ m680)) (fun _ h9 => h9) rfl (by decide +kernel) (by decide) (by decide) (Nat.le_of_ble_eq_true rfl) dX8_number_62 (fun H locs hP hD hS => ?_)
      have hP : va_P G.1 vwCl [(t, .inr (8, [.ref row, .ref kpt, .int images, .ref errs, .ref bitsOf, .ref sizeOf, .ref cels, .ref broken, .ref isFit, .ref breaks, .int mfit, .int known, .ref act, .ref wth, .ref facts, .ref pile, .int laid, .int v4_2, .int opnd, .int (1 : Int32), .int usg, .ref trc, .int trcd, .int isP])), (row, .inl (xI G, 400, .inl row_f)), (act, .inl (xI G, 60, .inl act_f)), (wth, .inl (xI G, 60, .inl wth_f))] H := hP
      have hD : va_D A [(t, .inr (8, [.ref row, .ref kpt, .int images, .ref errs, .ref bitsOf, .ref sizeOf, .ref cels, .ref broken, .ref isFit, .ref breaks, .int mfit, .int known, .ref act, .ref wth, .ref facts, .ref pile, .int laid, .int v4_2, .int opnd, .int (1 : Int32), .int usg, .ref trc, .int trcd, .int isP])), (row, .inl (xI G, 400, .inl row_f)), (act, .inl (xI G, 60, .inl act_f)), (wth, .inl (xI G, 60, .inl wth_f))] := hD
      refine lv_aload_n hx hb dX8_number_65 rfl (lv_at hl 0 rfl) ?_
      refine lv_iconst (v := 1) hx hb dX8_number_66 (by decide) ?_
      refine lv_iload_n hx hb dX8_number_67 rfl (lv_at hl 1 rfl) ?_
      obtain ⟨u1, e1, hF⟩ := bdS hF
      refine xEndV (xRunV (As := [.int (1 : Int32), .int v4_0]) (rest := []) hZ (c_X8_lays G t row kpt errs bitsOf sizeOf cels broken isFit breaks act wth facts pile trc images mfit known laid v4_2 opnd (1 : Int32) usg trcd isP act_f wth_f (1 : Int32) v4_0 u1 e1 l H.size) m692 m693 m694 m5 m695 2 ⟨rfl, hdX8_lays⟩ ⟨Nat.le_of_ble_eq_true rfl, Nat.le_of_ble_eq_true rfl⟩ ⟨rfl, rfl⟩ hP hD hS 0 8 rfl rfl rfl [0, 2, 3] rfl rfl rfl hl.1 rfl (Nat.le_of_ble_eq_true rfl) dX8_number_68 ⟨Nat.zero_le _, Nat.zero_le _⟩) hP hD hS hA [0, 2, 3] rfl rfl rfl (fun H locs hP hD hS => ?_)
      have hP : va_P G.1 vwCl [(t, .inr (8, [.ref row, .ref kpt, .int images, .ref errs, .ref bitsOf, .ref sizeOf, .ref cels, .ref broken, .ref isFit, .ref breaks, .int mfit, .int known, .ref act, .ref wth, .ref facts, .ref pile, .int u1.1, .int v4_2, .int opnd, .int (1 : Int32), .int usg, .ref trc, .int trcd, .int isP])), (row, .inl (xI G, 400, .inl row_f)), (act, .inl (xI G, 60, .inl u1.2.1)), (wth, .inl (xI G, 60, .inl u1.2.2))] H := hP
      have hD : va_D A [(t, .inr (8, [.ref row, .ref kpt, .int images, .ref errs, .ref bitsOf, .ref sizeOf, .ref cels, .ref broken, .ref isFit, .ref breaks, .int mfit, .int known, .ref act, .ref wth, .ref facts, .ref pile, .int u1.1, .int v4_2, .int opnd, .int (1 : Int32), .int usg, .ref trc, .int trcd, .int isP])), (row, .inl (xI G, 400, .inl row_f)), (act, .inl (xI G, 60, .inl u1.2.1)), (wth, .inl (xI G, 60, .inl u1.2.2))] := hD
      obtain rfl := Option.some.inj hF
      rw [← hQ]
      exact W.vret hx hb hr (fun t ht hW => ⟨⟨(), rfl, trivial, xLf hP ht⟩, hS.F ht⟩) hS.2.2 dX8_number_71
  · have hF := itN c6 hF
    refine lv_aload_n hx hb dX8_number_9 rfl (lv_at hl 0 rfl) ?_
    obtain ⟨u1, e1, hF⟩ := bdS hF
    refine xEndI (xRunV (As := []) (rest := []) hZ (c_X8_look G t row kpt errs bitsOf sizeOf cels broken isFit breaks act wth facts pile trc images mfit known laid v4_2 opnd bad usg trcd isP row_f u1 e1 l H.size) m688 m689 m690 m5 m691 0 ⟨rfl, hdX8_look⟩ ⟨Nat.le_of_ble_eq_true rfl, Nat.le_of_ble_eq_true rfl⟩ ⟨rfl, rfl⟩ hP hD hS 0 8 rfl rfl rfl [0, 1] rfl rfl rfl hl.1 rfl (Nat.le_of_ble_eq_true rfl) dX8_number_10 ⟨Nat.zero_le _, Nat.zero_le _⟩) hP hD hS hA [0, 1] rfl rfl rfl (fun H locs n1 hP hD hS => ?_)
    have hP : va_P G.1 vwCl [(t, .inr (8, [.ref row, .ref kpt, .int images, .ref errs, .ref bitsOf, .ref sizeOf, .ref cels, .ref broken, .ref isFit, .ref breaks, .int mfit, .int known, .ref act, .ref wth, .ref facts, .ref pile, .int laid, .int v4_2, .int opnd, .int bad, .int usg, .ref trc, .int trcd, .int isP])), (row, .inl (xI G, 400, .inl row_f)), (act, .inl (xI G, 60, .inl act_f)), (wth, .inl (xI G, 60, .inl wth_f))] H := hP
    have hD : va_D A [(t, .inr (8, [.ref row, .ref kpt, .int images, .ref errs, .ref bitsOf, .ref sizeOf, .ref cels, .ref broken, .ref isFit, .ref breaks, .int mfit, .int known, .ref act, .ref wth, .ref facts, .ref pile, .int laid, .int v4_2, .int opnd, .int bad, .int usg, .ref trc, .int trcd, .int isP])), (row, .inl (xI G, 400, .inl row_f)), (act, .inl (xI G, 60, .inl act_f)), (wth, .inl (xI G, 60, .inl wth_f))] := hD
    refine lv_bipush (v := 48) hx hb dX8_number_13 (by decide) ?_
    refine lv_bipush (v := 57) hx hb dX8_number_15 (by decide) ?_
    obtain ⟨u2, e2, hF⟩ := bdS hF
    refine xEndI (xRunS (As := [.int u1, .int (48 : Int32), .int (57 : Int32)]) (rest := []) hZ (c_X8_in G u1 (48 : Int32) (57 : Int32) u2 e2 l H.size) m190 m191 m5 m192 3 hdX8_in ⟨Nat.le_of_ble_eq_true rfl, Nat.le_of_ble_eq_true rfl⟩ ⟨rfl, rfl⟩ hP hD hS [] rfl rfl rfl hl.1 rfl (Nat.le_of_ble_eq_true rfl) dX8_number_17 ⟨Nat.zero_le _, Nat.zero_le _⟩) hP hD hS hA [] rfl rfl rfl (fun H locs n2 hP hD hS => ?_)
    have hP : va_P G.1 vwCl [(t, .inr (8, [.ref row, .ref kpt, .int images, .ref errs, .ref bitsOf, .ref sizeOf, .ref cels, .ref broken, .ref isFit, .ref breaks, .int mfit, .int known, .ref act, .ref wth, .ref facts, .ref pile, .int laid, .int v4_2, .int opnd, .int bad, .int usg, .ref trc, .int trcd, .int isP])), (row, .inl (xI G, 400, .inl row_f)), (act, .inl (xI G, 60, .inl act_f)), (wth, .inl (xI G, 60, .inl wth_f))] H := hP
    have hD : va_D A [(t, .inr (8, [.ref row, .ref kpt, .int images, .ref errs, .ref bitsOf, .ref sizeOf, .ref cels, .ref broken, .ref isFit, .ref breaks, .int mfit, .int known, .ref act, .ref wth, .ref facts, .ref pile, .int laid, .int v4_2, .int opnd, .int bad, .int usg, .ref trc, .int trcd, .int isP])), (row, .inl (xI G, 400, .inl row_f)), (act, .inl (xI G, 60, .inl act_f)), (wth, .inl (xI G, 60, .inl wth_f))] := hD
    refine lv_if_eq (tgt := 52) hx hb dX8_number_20 (by decide) (fun c20 => ?_) (fun c20 => ?_)
    · have hF := itP c20 hF
      refine lv_aload_n hx hb dX8_number_52 rfl (lv_at hl 0 rfl) ?_
      refine lv_iload_n hx hb dX8_number_53 rfl (lv_at hl 2 rfl) ?_
      refine lv_if_ne (tgt := 61) hx hb dX8_number_54 (by decide) (fun c54 => ?_) (fun c54 => ?_)
      · have hF := itN c54 hF
        refine lv_iconst (v := 0) hx hb dX8_number_61 (by decide) ?_
        refine va_put (ci := 8) (v := .int (0 : Int32)) (ty := .boolean) (C := RX8) (T := TX8) (N := 24) hx hb hts (fun w h => tcons w (xin8 w h)) tyX8 tyX8_ok nmX8 hown hK hP hD hS 0 rfl rfl 19 (by decide) (hts _ (tcons _ m680)) (fun _ h9 => h9) rfl (by decide +kernel) (by decide) (by decide) (Nat.le_of_ble_eq_true rfl) dX8_number_62 (fun H locs hP hD hS => ?_)
        have hP : va_P G.1 vwCl [(t, .inr (8, [.ref row, .ref kpt, .int images, .ref errs, .ref bitsOf, .ref sizeOf, .ref cels, .ref broken, .ref isFit, .ref breaks, .int mfit, .int known, .ref act, .ref wth, .ref facts, .ref pile, .int laid, .int v4_2, .int opnd, .int (0 : Int32), .int usg, .ref trc, .int trcd, .int isP])), (row, .inl (xI G, 400, .inl row_f)), (act, .inl (xI G, 60, .inl act_f)), (wth, .inl (xI G, 60, .inl wth_f))] H := hP
        have hD : va_D A [(t, .inr (8, [.ref row, .ref kpt, .int images, .ref errs, .ref bitsOf, .ref sizeOf, .ref cels, .ref broken, .ref isFit, .ref breaks, .int mfit, .int known, .ref act, .ref wth, .ref facts, .ref pile, .int laid, .int v4_2, .int opnd, .int (0 : Int32), .int usg, .ref trc, .int trcd, .int isP])), (row, .inl (xI G, 400, .inl row_f)), (act, .inl (xI G, 60, .inl act_f)), (wth, .inl (xI G, 60, .inl wth_f))] := hD
        refine lv_aload_n hx hb dX8_number_65 rfl (lv_at hl 0 rfl) ?_
        refine lv_iconst (v := 1) hx hb dX8_number_66 (by decide) ?_
        refine lv_iload_n hx hb dX8_number_67 rfl (lv_at hl 1 rfl) ?_
        obtain ⟨u3, e3, hF⟩ := bdS hF
        refine xEndV (xRunV (As := [.int (1 : Int32), .int v4_0]) (rest := []) hZ (c_X8_lays G t row kpt errs bitsOf sizeOf cels broken isFit breaks act wth facts pile trc images mfit known laid v4_2 opnd (0 : Int32) usg trcd isP act_f wth_f (1 : Int32) v4_0 u3 e3 l H.size) m692 m693 m694 m5 m695 2 ⟨rfl, hdX8_lays⟩ ⟨Nat.le_of_ble_eq_true rfl, Nat.le_of_ble_eq_true rfl⟩ ⟨rfl, rfl⟩ hP hD hS 0 8 rfl rfl rfl [0, 2, 3] rfl rfl rfl hl.1 rfl (Nat.le_of_ble_eq_true rfl) dX8_number_68 ⟨Nat.zero_le _, Nat.zero_le _⟩) hP hD hS hA [0, 2, 3] rfl rfl rfl (fun H locs hP hD hS => ?_)
        have hP : va_P G.1 vwCl [(t, .inr (8, [.ref row, .ref kpt, .int images, .ref errs, .ref bitsOf, .ref sizeOf, .ref cels, .ref broken, .ref isFit, .ref breaks, .int mfit, .int known, .ref act, .ref wth, .ref facts, .ref pile, .int u3.1, .int v4_2, .int opnd, .int (0 : Int32), .int usg, .ref trc, .int trcd, .int isP])), (row, .inl (xI G, 400, .inl row_f)), (act, .inl (xI G, 60, .inl u3.2.1)), (wth, .inl (xI G, 60, .inl u3.2.2))] H := hP
        have hD : va_D A [(t, .inr (8, [.ref row, .ref kpt, .int images, .ref errs, .ref bitsOf, .ref sizeOf, .ref cels, .ref broken, .ref isFit, .ref breaks, .int mfit, .int known, .ref act, .ref wth, .ref facts, .ref pile, .int u3.1, .int v4_2, .int opnd, .int (0 : Int32), .int usg, .ref trc, .int trcd, .int isP])), (row, .inl (xI G, 400, .inl row_f)), (act, .inl (xI G, 60, .inl u3.2.1)), (wth, .inl (xI G, 60, .inl u3.2.2))] := hD
        obtain rfl := Option.some.inj hF
        rw [← hQ]
        exact W.vret hx hb hr (fun t ht hW => ⟨⟨(), rfl, trivial, xLf hP ht⟩, hS.F ht⟩) hS.2.2 dX8_number_71
      · have hF := itP c54 hF
        refine lv_iconst (v := 1) hx hb dX8_number_57 (by decide) ?_
        refine lv_goto (tgt := 62) hx hb dX8_number_58 (by decide) ?_
        refine va_put (ci := 8) (v := .int (1 : Int32)) (ty := .boolean) (C := RX8) (T := TX8) (N := 24) hx hb hts (fun w h => tcons w (xin8 w h)) tyX8 tyX8_ok nmX8 hown hK hP hD hS 0 rfl rfl 19 (by decide) (hts _ (tcons _ m680)) (fun _ h9 => h9) rfl (by decide +kernel) (by decide) (by decide) (Nat.le_of_ble_eq_true rfl) dX8_number_62 (fun H locs hP hD hS => ?_)
        have hP : va_P G.1 vwCl [(t, .inr (8, [.ref row, .ref kpt, .int images, .ref errs, .ref bitsOf, .ref sizeOf, .ref cels, .ref broken, .ref isFit, .ref breaks, .int mfit, .int known, .ref act, .ref wth, .ref facts, .ref pile, .int laid, .int v4_2, .int opnd, .int (1 : Int32), .int usg, .ref trc, .int trcd, .int isP])), (row, .inl (xI G, 400, .inl row_f)), (act, .inl (xI G, 60, .inl act_f)), (wth, .inl (xI G, 60, .inl wth_f))] H := hP
        have hD : va_D A [(t, .inr (8, [.ref row, .ref kpt, .int images, .ref errs, .ref bitsOf, .ref sizeOf, .ref cels, .ref broken, .ref isFit, .ref breaks, .int mfit, .int known, .ref act, .ref wth, .ref facts, .ref pile, .int laid, .int v4_2, .int opnd, .int (1 : Int32), .int usg, .ref trc, .int trcd, .int isP])), (row, .inl (xI G, 400, .inl row_f)), (act, .inl (xI G, 60, .inl act_f)), (wth, .inl (xI G, 60, .inl wth_f))] := hD
        refine lv_aload_n hx hb dX8_number_65 rfl (lv_at hl 0 rfl) ?_
        refine lv_iconst (v := 1) hx hb dX8_number_66 (by decide) ?_
        refine lv_iload_n hx hb dX8_number_67 rfl (lv_at hl 1 rfl) ?_
        obtain ⟨u3, e3, hF⟩ := bdS hF
        refine xEndV (xRunV (As := [.int (1 : Int32), .int v4_0]) (rest := []) hZ (c_X8_lays G t row kpt errs bitsOf sizeOf cels broken isFit breaks act wth facts pile trc images mfit known laid v4_2 opnd (1 : Int32) usg trcd isP act_f wth_f (1 : Int32) v4_0 u3 e3 l H.size) m692 m693 m694 m5 m695 2 ⟨rfl, hdX8_lays⟩ ⟨Nat.le_of_ble_eq_true rfl, Nat.le_of_ble_eq_true rfl⟩ ⟨rfl, rfl⟩ hP hD hS 0 8 rfl rfl rfl [0, 2, 3] rfl rfl rfl hl.1 rfl (Nat.le_of_ble_eq_true rfl) dX8_number_68 ⟨Nat.zero_le _, Nat.zero_le _⟩) hP hD hS hA [0, 2, 3] rfl rfl rfl (fun H locs hP hD hS => ?_)
        have hP : va_P G.1 vwCl [(t, .inr (8, [.ref row, .ref kpt, .int images, .ref errs, .ref bitsOf, .ref sizeOf, .ref cels, .ref broken, .ref isFit, .ref breaks, .int mfit, .int known, .ref act, .ref wth, .ref facts, .ref pile, .int u3.1, .int v4_2, .int opnd, .int (1 : Int32), .int usg, .ref trc, .int trcd, .int isP])), (row, .inl (xI G, 400, .inl row_f)), (act, .inl (xI G, 60, .inl u3.2.1)), (wth, .inl (xI G, 60, .inl u3.2.2))] H := hP
        have hD : va_D A [(t, .inr (8, [.ref row, .ref kpt, .int images, .ref errs, .ref bitsOf, .ref sizeOf, .ref cels, .ref broken, .ref isFit, .ref breaks, .int mfit, .int known, .ref act, .ref wth, .ref facts, .ref pile, .int u3.1, .int v4_2, .int opnd, .int (1 : Int32), .int usg, .ref trc, .int trcd, .int isP])), (row, .inl (xI G, 400, .inl row_f)), (act, .inl (xI G, 60, .inl u3.2.1)), (wth, .inl (xI G, 60, .inl u3.2.2))] := hD
        obtain rfl := Option.some.inj hF
        rw [← hQ]
        exact W.vret hx hb hr (fun t ht hW => ⟨⟨(), rfl, trivial, xLf hP ht⟩, hS.F ht⟩) hS.2.2 dX8_number_71
    · have hF := itN c20 hF
      refine lv_bipush (v := 10) hx hb dX8_number_23 (by decide) ?_
      refine lv_iload_n hx hb dX8_number_25 rfl (lv_at hl 1 rfl) ?_
      refine lv_imul hx hb dX8_number_26 ?_
      refine lv_aload_n hx hb dX8_number_27 rfl (lv_at hl 0 rfl) ?_
      obtain ⟨u3, e3, hF⟩ := bdS hF
      refine xEndI (xRunV (As := []) (rest := [.int ((10 : Int32) * v4_0)]) hZ (c_X8_look G t row kpt errs bitsOf sizeOf cels broken isFit breaks act wth facts pile trc images mfit known laid v4_2 opnd bad usg trcd isP row_f u3 e3 l H.size) m688 m689 m690 m5 m691 0 ⟨rfl, hdX8_look⟩ ⟨Nat.le_of_ble_eq_true rfl, Nat.le_of_ble_eq_true rfl⟩ ⟨rfl, rfl⟩ hP hD hS 0 8 rfl rfl rfl [0, 1] rfl rfl rfl hl.1 rfl (Nat.le_of_ble_eq_true rfl) dX8_number_28 ⟨Nat.zero_le _, Nat.zero_le _⟩) hP hD hS hA [0, 1] rfl rfl rfl (fun H locs n3 hP hD hS => ?_)
      have hP : va_P G.1 vwCl [(t, .inr (8, [.ref row, .ref kpt, .int images, .ref errs, .ref bitsOf, .ref sizeOf, .ref cels, .ref broken, .ref isFit, .ref breaks, .int mfit, .int known, .ref act, .ref wth, .ref facts, .ref pile, .int laid, .int v4_2, .int opnd, .int bad, .int usg, .ref trc, .int trcd, .int isP])), (row, .inl (xI G, 400, .inl row_f)), (act, .inl (xI G, 60, .inl act_f)), (wth, .inl (xI G, 60, .inl wth_f))] H := hP
      have hD : va_D A [(t, .inr (8, [.ref row, .ref kpt, .int images, .ref errs, .ref bitsOf, .ref sizeOf, .ref cels, .ref broken, .ref isFit, .ref breaks, .int mfit, .int known, .ref act, .ref wth, .ref facts, .ref pile, .int laid, .int v4_2, .int opnd, .int bad, .int usg, .ref trc, .int trcd, .int isP])), (row, .inl (xI G, 400, .inl row_f)), (act, .inl (xI G, 60, .inl act_f)), (wth, .inl (xI G, 60, .inl wth_f))] := hD
      refine lv_iadd hx hb dX8_number_31 ?_
      refine lv_bipush (v := 48) hx hb dX8_number_32 (by decide) ?_
      refine lv_isub hx hb dX8_number_34 ?_
      refine lv_istore_n (lv' := [(1, .int ((((10 : Int32) * v4_0) + u3) - (48 : Int32))), (0, .ref t), (2, .int v4_1)]) hx hb dX8_number_35 rfl hl (by decide) rfl (fun ls hl => ?_)
      refine lv_aload_n hx hb dX8_number_36 rfl (lv_at hl 1 rfl) ?_
      refine lv_dup hx hb dX8_number_37 rfl ?_
      refine va_get (ci := 8) (v := .int v4_2) (C := RX8) (T := TX8) (N := 24) hx hb hts (fun w h => tcons w (xin8 w h)) hown hK hP 0 rfl rfl 17 (by decide) (hts _ (tcons _ m678)) (fun _ h9 => h9) rfl dX8_number_38 ?_
      refine lv_iconst (v := 1) hx hb dX8_number_41 (by decide) ?_
      refine lv_iadd hx hb dX8_number_42 ?_
      refine va_put (ci := 8) (v := .int (v4_2 + (1 : Int32))) (ty := .int) (C := RX8) (T := TX8) (N := 24) hx hb hts (fun w h => tcons w (xin8 w h)) tyX8 tyX8_ok nmX8 hown hK hP hD hS 0 rfl rfl 17 (by decide) (hts _ (tcons _ m678)) (fun _ h9 => h9) rfl (by decide +kernel) rfl rfl (Nat.le_of_ble_eq_true rfl) dX8_number_43 (fun H locs hP hD hS => ?_)
      have hP : va_P G.1 vwCl [(t, .inr (8, [.ref row, .ref kpt, .int images, .ref errs, .ref bitsOf, .ref sizeOf, .ref cels, .ref broken, .ref isFit, .ref breaks, .int mfit, .int known, .ref act, .ref wth, .ref facts, .ref pile, .int laid, .int (v4_2 + (1 : Int32)), .int opnd, .int bad, .int usg, .ref trc, .int trcd, .int isP])), (row, .inl (xI G, 400, .inl row_f)), (act, .inl (xI G, 60, .inl act_f)), (wth, .inl (xI G, 60, .inl wth_f))] H := hP
      have hD : va_D A [(t, .inr (8, [.ref row, .ref kpt, .int images, .ref errs, .ref bitsOf, .ref sizeOf, .ref cels, .ref broken, .ref isFit, .ref breaks, .int mfit, .int known, .ref act, .ref wth, .ref facts, .ref pile, .int laid, .int (v4_2 + (1 : Int32)), .int opnd, .int bad, .int usg, .ref trc, .int trcd, .int isP])), (row, .inl (xI G, 400, .inl row_f)), (act, .inl (xI G, 60, .inl act_f)), (wth, .inl (xI G, 60, .inl wth_f))] := hD
      refine lv_iinc (v := (v4_1 + (1 : Int32))) (lv' := [(2, .int (v4_1 + (1 : Int32))), (1, .int ((((10 : Int32) * v4_0) + u3) - (48 : Int32))), (0, .ref t)]) hx hb dX8_number_46 hl (k := 2) rfl (xInc_1 _) (by decide) rfl (fun ls hl => ?_)
      refine lv_goto (tgt := 4) hx hb dX8_number_49 (by decide) ?_
      exact ih4 ((((10 : Int32) * v4_0) + u3) - (48 : Int32)) (v4_1 + (1 : Int32)) (v4_2 + (1 : Int32)) H locs ls ⟨hP, hD, hS, lv_sub hl [2, 1, 0] rfl⟩ hF
