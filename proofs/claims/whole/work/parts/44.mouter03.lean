def F_X8_day (row_f : Nat → Int32) (errs_f : Nat → Int32) (vo : Int32) : Option (Int32 × (Nat → Int32) × (Nat → Int32)) := bd (F_X8_in vo (0 : Int32) (9999 : Int32)) (fun (u1 : Int32) => if u1 = 0 then (bd (F_X8_error errs_f (-1000000001 : Int32)) (fun (u2 : (Int32 × (Nat → Int32))) => some (u2.1, row_f, u2.2))) else (bd (F_X8_becomes row_f (0 : Int32) vo) (fun (u2 : (Int32 × (Nat → Int32))) => some (u2.1, u2.2, errs_f))))
theorem hdX8_day : yX8_day.cls ≠ "java/lang/invoke/MethodHandle" ∧ yX8_day.cls ≠ "java/lang/invoke/VarHandle" ∧ (parseMethodDescriptor yX8_day.desc).map (fun d => d.parameters.length) = some 1 := by decide +kernel
set_option maxHeartbeats 4000000 in
set_option maxRecDepth 100000 in
theorem c_X8_day (G : xG) (t : Nat) (row : Nat) (kpt : Nat) (errs : Nat) (bitsOf : Nat) (sizeOf : Nat) (cels : Nat) (broken : Nat) (isFit : Nat) (breaks : Nat) (act : Nat) (wth : Nat) (facts : Nat) (pile : Nat) (trc : Nat) (images : Int32) (mfit : Int32) (known : Int32) (laid : Int32) (hre : Int32) (opnd : Int32) (bad : Int32) (usg : Int32) (trcd : Int32) (isP : Int32) (row_f : Nat → Int32) (errs_f : Nat → Int32) (vo : Int32)  (u : (Int32 × (Nat → Int32) × (Nat → Int32))) (hF : F_X8_day row_f errs_f vo = some u) : Ki G .int yX8_day (Cond.code yX8_day cX8_day 2 (some .int) :: TBL) { frames := 1, cells := 0, slots := 0, locals := 23 } [.ref t, .int vo] [(t, .inr (8, [.ref row, .ref kpt, .int images, .ref errs, .ref bitsOf, .ref sizeOf, .ref cels, .ref broken, .ref isFit, .ref breaks, .int mfit, .int known, .ref act, .ref wth, .ref facts, .ref pile, .int laid, .int hre, .int opnd, .int bad, .int usg, .ref trc, .int trcd, .int isP])), (row, .inl (xI G, 400, .inl row_f)), (errs, .inl (xI G, 7, .inl errs_f))] [(t, .inr (8, [.ref row, .ref kpt, .int images, .ref errs, .ref bitsOf, .ref sizeOf, .ref cels, .ref broken, .ref isFit, .ref breaks, .int mfit, .int known, .ref act, .ref wth, .ref facts, .ref pile, .int laid, .int hre, .int opnd, .int bad, .int usg, .ref trc, .int trcd, .int isP])), (row, .inl (xI G, 400, .inl u.2.1)), (errs, .inl (xI G, 7, .inl u.2.2))] u.1 := by
  intro l sz
  refine Met.ofW (cc := cX8_day) (maxL := 2) (ret := (some .int)) (by decide) rfl ?_
  intro p e s m args below meth c s₁ B hml hv
  obtain ⟨rfl, hsz, hP, hD0, hm⟩ := hv
  have hx := B.exec
  have hb := B.bytes
  have hr := B.returns
  have hts := atoms_spec (ws := Cond.code yX8_day cX8_day 2 (some .int) :: TBL) B.pre
  have hown : s.vm.findClass RX8 = some m.cls := findClass_of_methodNamed B.named
  have hlocks := B.notSynchronized
  subst hsz
  have hD := hD0.self (sz := s.heap.size)
  generalize hAe : va_A [(t, .inr (8, [.ref row, .ref kpt, .int images, .ref errs, .ref bitsOf, .ref sizeOf, .ref cels, .ref broken, .ref isFit, .ref breaks, .int mfit, .int known, .ref act, .ref wth, .ref facts, .ref pile, .int laid, .int hre, .int opnd, .int bad, .int usg, .ref trc, .int trcd, .int isP])), (row, .inl (xI G, 400, .inl row_f)), (errs, .inl (xI G, 7, .inl errs_f))] s.heap.size = A at hD hm ⊢
  have hA : ∀ q : Nat, s.heap.size ≤ q → A q := fun q h => by rw [← hAe]; exact Or.inr h
  have hK := hm.1
  have hZ : xAnd p m c cX8_day 2 s _ (Cond.code yX8_day cX8_day 2 (some .int) :: TBL) RX8 G A := ⟨⟨hx, hb, hml, hown, hts⟩, tcons, hA, hm⟩
  have hP : va_P G.1 vwCl [(t, .inr (8, [.ref row, .ref kpt, .int images, .ref errs, .ref bitsOf, .ref sizeOf, .ref cels, .ref broken, .ref isFit, .ref breaks, .int mfit, .int known, .ref act, .ref wth, .ref facts, .ref pile, .int laid, .int hre, .int opnd, .int bad, .int usg, .ref trc, .int trcd, .int isP])), (row, .inl (xI G, 400, .inl row_f)), (errs, .inl (xI G, 7, .inl errs_f))] s.heap := hP
  have hl := lv_entry ([.ref t, .int vo]) (n := 2) (Nat.le_of_ble_eq_true rfl)
  rw [lg_entry_eq]
  generalize (lg_sl ([.ref t, .int vo]) ++ List.replicate (2 - (lg_sl ([.ref t, .int vo])).length) Slot.unset).toArray = ls at hl ⊢
  have hl : lv_has ls 2 [(0, .ref t), (1, .int vo)] := hl
  generalize hQ : MQ below _ _ s _ _ _ = Q
  refine xGo (A := A) hP (fun H locs hP hS => ?_)
  unfold F_X8_day at hF
  refine lv_iload_n hx hb dX8_day_0 rfl (lv_at hl 1 rfl) ?_
  refine lv_iconst (v := 0) hx hb dX8_day_1 (by decide) ?_
  refine lv_sipush (v := 9999) hx hb dX8_day_2 (by decide) ?_
  obtain ⟨u1, e1, hF⟩ := bdS hF
  refine xEndI (xRunS (As := [.int vo, .int (0 : Int32), .int (9999 : Int32)]) (rest := []) hZ (c_X8_in G vo (0 : Int32) (9999 : Int32) u1 e1 l H.size) m190 m191 m5 m192 3 hdX8_in ⟨Nat.le_of_ble_eq_true rfl, Nat.le_of_ble_eq_true rfl⟩ ⟨rfl, rfl⟩ hP hD hS [] rfl rfl rfl hl.1 rfl (Nat.le_of_ble_eq_true rfl) dX8_day_5 ⟨Nat.zero_le _, Nat.zero_le _⟩) hP hD hS hA [] rfl rfl rfl (fun H locs n1 hP hD hS => ?_)
  have hP : va_P G.1 vwCl [(t, .inr (8, [.ref row, .ref kpt, .int images, .ref errs, .ref bitsOf, .ref sizeOf, .ref cels, .ref broken, .ref isFit, .ref breaks, .int mfit, .int known, .ref act, .ref wth, .ref facts, .ref pile, .int laid, .int hre, .int opnd, .int bad, .int usg, .ref trc, .int trcd, .int isP])), (row, .inl (xI G, 400, .inl row_f)), (errs, .inl (xI G, 7, .inl errs_f))] H := hP
  have hD : va_D A [(t, .inr (8, [.ref row, .ref kpt, .int images, .ref errs, .ref bitsOf, .ref sizeOf, .ref cels, .ref broken, .ref isFit, .ref breaks, .int mfit, .int known, .ref act, .ref wth, .ref facts, .ref pile, .int laid, .int hre, .int opnd, .int bad, .int usg, .ref trc, .int trcd, .int isP])), (row, .inl (xI G, 400, .inl row_f)), (errs, .inl (xI G, 7, .inl errs_f))] := hD
  refine lv_if_eq (tgt := 20) hx hb dX8_day_8 (by decide) (fun c8 => ?_) (fun c8 => ?_)
  · have hF := itP c8 hF
    refine lv_aload_n hx hb dX8_day_20 rfl (lv_at hl 0 rfl) ?_
    refine lv_ldc (v := -1000000001) hx hb hown (hts _ (tcons _ m185)) dX8_day_21 ?_
    obtain ⟨u2, e2, hF⟩ := bdS hF
    refine xEndI (xRunV (As := [.int (-1000000001 : Int32)]) (rest := []) hZ (c_X8_error G t row kpt errs bitsOf sizeOf cels broken isFit breaks act wth facts pile trc images mfit known laid hre opnd bad usg trcd isP errs_f (-1000000001 : Int32) u2 e2 l H.size) m193 m194 m195 m5 m196 1 ⟨rfl, hdX8_error⟩ ⟨Nat.le_of_ble_eq_true rfl, Nat.le_of_ble_eq_true rfl⟩ ⟨rfl, rfl⟩ hP hD hS 0 8 rfl rfl rfl [0, 2] rfl rfl rfl hl.1 rfl (Nat.le_of_ble_eq_true rfl) dX8_day_23 ⟨Nat.zero_le _, Nat.zero_le _⟩) hP hD hS hA [0, 2] rfl rfl rfl (fun H locs n2 hP hD hS => ?_)
    have hP : va_P G.1 vwCl [(t, .inr (8, [.ref row, .ref kpt, .int images, .ref errs, .ref bitsOf, .ref sizeOf, .ref cels, .ref broken, .ref isFit, .ref breaks, .int mfit, .int known, .ref act, .ref wth, .ref facts, .ref pile, .int laid, .int hre, .int opnd, .int bad, .int usg, .ref trc, .int trcd, .int isP])), (row, .inl (xI G, 400, .inl row_f)), (errs, .inl (xI G, 7, .inl u2.2))] H := hP
    have hD : va_D A [(t, .inr (8, [.ref row, .ref kpt, .int images, .ref errs, .ref bitsOf, .ref sizeOf, .ref cels, .ref broken, .ref isFit, .ref breaks, .int mfit, .int known, .ref act, .ref wth, .ref facts, .ref pile, .int laid, .int hre, .int opnd, .int bad, .int usg, .ref trc, .int trcd, .int isP])), (row, .inl (xI G, 400, .inl row_f)), (errs, .inl (xI G, 7, .inl u2.2))] := hD
    obtain rfl := Option.some.inj hF
    rw [← hQ]
    exact W.iret (v := u2.1) hx hb hr (fun t ht hW => ⟨⟨_, (), rfl, ⟨rfl, rfl⟩, xLf hP ht⟩, hS.F ht⟩) hS.2.2 dX8_day_26
  · have hF := itN c8 hF
    refine lv_aload_n hx hb dX8_day_11 rfl (lv_at hl 0 rfl) ?_
    refine lv_iconst (v := 0) hx hb dX8_day_12 (by decide) ?_
    refine lv_iload_n hx hb dX8_day_13 rfl (lv_at hl 1 rfl) ?_
    obtain ⟨u2, e2, hF⟩ := bdS hF
    refine xEndI (xRunV (As := [.int (0 : Int32), .int vo]) (rest := []) hZ (c_X8_becomes G t row kpt errs bitsOf sizeOf cels broken isFit breaks act wth facts pile trc images mfit known laid hre opnd bad usg trcd isP row_f (0 : Int32) vo u2 e2 l H.size) m351 m352 m353 m5 m354 2 ⟨rfl, hdX8_becomes⟩ ⟨Nat.le_of_ble_eq_true rfl, Nat.le_of_ble_eq_true rfl⟩ ⟨rfl, rfl⟩ hP hD hS 0 8 rfl rfl rfl [0, 1] rfl rfl rfl hl.1 rfl (Nat.le_of_ble_eq_true rfl) dX8_day_14 ⟨Nat.zero_le _, Nat.zero_le _⟩) hP hD hS hA [0, 1] rfl rfl rfl (fun H locs n2 hP hD hS => ?_)
    have hP : va_P G.1 vwCl [(t, .inr (8, [.ref row, .ref kpt, .int images, .ref errs, .ref bitsOf, .ref sizeOf, .ref cels, .ref broken, .ref isFit, .ref breaks, .int mfit, .int known, .ref act, .ref wth, .ref facts, .ref pile, .int laid, .int hre, .int opnd, .int bad, .int usg, .ref trc, .int trcd, .int isP])), (row, .inl (xI G, 400, .inl u2.2)), (errs, .inl (xI G, 7, .inl errs_f))] H := hP
    have hD : va_D A [(t, .inr (8, [.ref row, .ref kpt, .int images, .ref errs, .ref bitsOf, .ref sizeOf, .ref cels, .ref broken, .ref isFit, .ref breaks, .int mfit, .int known, .ref act, .ref wth, .ref facts, .ref pile, .int laid, .int hre, .int opnd, .int bad, .int usg, .ref trc, .int trcd, .int isP])), (row, .inl (xI G, 400, .inl u2.2)), (errs, .inl (xI G, 7, .inl errs_f))] := hD
    refine lv_goto (tgt := 26) hx hb dX8_day_17 (by decide) ?_
    obtain rfl := Option.some.inj hF
    rw [← hQ]
    exact W.iret (v := u2.1) hx hb hr (fun t ht hW => ⟨⟨_, (), rfl, ⟨rfl, rfl⟩, xLf hP ht⟩, hS.F ht⟩) hS.2.2 dX8_day_26
def F_X8_seed (row_f : Nat → Int32) (vo : Int32) : Option (Int32 × (Nat → Int32)) := bd (F_X8_becomes row_f (1 : Int32) vo) (fun (u1 : (Int32 × (Nat → Int32))) => some (u1.1, u1.2))
theorem hdX8_seed : yX8_seed.cls ≠ "java/lang/invoke/MethodHandle" ∧ yX8_seed.cls ≠ "java/lang/invoke/VarHandle" ∧ (parseMethodDescriptor yX8_seed.desc).map (fun d => d.parameters.length) = some 1 := by decide +kernel
set_option maxHeartbeats 4000000 in
set_option maxRecDepth 100000 in
theorem c_X8_seed (G : xG) (t : Nat) (row : Nat) (kpt : Nat) (errs : Nat) (bitsOf : Nat) (sizeOf : Nat) (cels : Nat) (broken : Nat) (isFit : Nat) (breaks : Nat) (act : Nat) (wth : Nat) (facts : Nat) (pile : Nat) (trc : Nat) (images : Int32) (mfit : Int32) (known : Int32) (laid : Int32) (hre : Int32) (opnd : Int32) (bad : Int32) (usg : Int32) (trcd : Int32) (isP : Int32) (row_f : Nat → Int32) (vo : Int32)  (u : (Int32 × (Nat → Int32))) (hF : F_X8_seed row_f vo = some u) : Ki G .int yX8_seed (Cond.code yX8_seed cX8_seed 2 (some .int) :: TBL) { frames := 1, cells := 0, slots := 0, locals := 23 } [.ref t, .int vo] [(t, .inr (8, [.ref row, .ref kpt, .int images, .ref errs, .ref bitsOf, .ref sizeOf, .ref cels, .ref broken, .ref isFit, .ref breaks, .int mfit, .int known, .ref act, .ref wth, .ref facts, .ref pile, .int laid, .int hre, .int opnd, .int bad, .int usg, .ref trc, .int trcd, .int isP])), (row, .inl (xI G, 400, .inl row_f))] [(t, .inr (8, [.ref row, .ref kpt, .int images, .ref errs, .ref bitsOf, .ref sizeOf, .ref cels, .ref broken, .ref isFit, .ref breaks, .int mfit, .int known, .ref act, .ref wth, .ref facts, .ref pile, .int laid, .int hre, .int opnd, .int bad, .int usg, .ref trc, .int trcd, .int isP])), (row, .inl (xI G, 400, .inl u.2))] u.1 := by
  intro l sz
  refine Met.ofW (cc := cX8_seed) (maxL := 2) (ret := (some .int)) (by decide) rfl ?_
  intro p e s m args below meth c s₁ B hml hv
  obtain ⟨rfl, hsz, hP, hD0, hm⟩ := hv
  have hx := B.exec
  have hb := B.bytes
  have hr := B.returns
  have hts := atoms_spec (ws := Cond.code yX8_seed cX8_seed 2 (some .int) :: TBL) B.pre
  have hown : s.vm.findClass RX8 = some m.cls := findClass_of_methodNamed B.named
  have hlocks := B.notSynchronized
  subst hsz
  have hD := hD0.self (sz := s.heap.size)
  generalize hAe : va_A [(t, .inr (8, [.ref row, .ref kpt, .int images, .ref errs, .ref bitsOf, .ref sizeOf, .ref cels, .ref broken, .ref isFit, .ref breaks, .int mfit, .int known, .ref act, .ref wth, .ref facts, .ref pile, .int laid, .int hre, .int opnd, .int bad, .int usg, .ref trc, .int trcd, .int isP])), (row, .inl (xI G, 400, .inl row_f))] s.heap.size = A at hD hm ⊢
  have hA : ∀ q : Nat, s.heap.size ≤ q → A q := fun q h => by rw [← hAe]; exact Or.inr h
  have hK := hm.1
  have hZ : xAnd p m c cX8_seed 2 s _ (Cond.code yX8_seed cX8_seed 2 (some .int) :: TBL) RX8 G A := ⟨⟨hx, hb, hml, hown, hts⟩, tcons, hA, hm⟩
  have hP : va_P G.1 vwCl [(t, .inr (8, [.ref row, .ref kpt, .int images, .ref errs, .ref bitsOf, .ref sizeOf, .ref cels, .ref broken, .ref isFit, .ref breaks, .int mfit, .int known, .ref act, .ref wth, .ref facts, .ref pile, .int laid, .int hre, .int opnd, .int bad, .int usg, .ref trc, .int trcd, .int isP])), (row, .inl (xI G, 400, .inl row_f))] s.heap := hP
  have hl := lv_entry ([.ref t, .int vo]) (n := 2) (Nat.le_of_ble_eq_true rfl)
  rw [lg_entry_eq]
  generalize (lg_sl ([.ref t, .int vo]) ++ List.replicate (2 - (lg_sl ([.ref t, .int vo])).length) Slot.unset).toArray = ls at hl ⊢
  have hl : lv_has ls 2 [(0, .ref t), (1, .int vo)] := hl
  generalize hQ : MQ below _ _ s _ _ _ = Q
  refine xGo (A := A) hP (fun H locs hP hS => ?_)
  unfold F_X8_seed at hF
  refine lv_aload_n hx hb dX8_seed_0 rfl (lv_at hl 0 rfl) ?_
  refine lv_iconst (v := 1) hx hb dX8_seed_1 (by decide) ?_
  refine lv_iload_n hx hb dX8_seed_2 rfl (lv_at hl 1 rfl) ?_
  obtain ⟨u1, e1, hF⟩ := bdS hF
  refine xEndI (xRunV (As := [.int (1 : Int32), .int vo]) (rest := []) hZ (c_X8_becomes G t row kpt errs bitsOf sizeOf cels broken isFit breaks act wth facts pile trc images mfit known laid hre opnd bad usg trcd isP row_f (1 : Int32) vo u1 e1 l H.size) m351 m352 m353 m5 m354 2 ⟨rfl, hdX8_becomes⟩ ⟨Nat.le_of_ble_eq_true rfl, Nat.le_of_ble_eq_true rfl⟩ ⟨rfl, rfl⟩ hP hD hS 0 8 rfl rfl rfl [0, 1] rfl rfl rfl hl.1 rfl (Nat.le_of_ble_eq_true rfl) dX8_seed_3 ⟨Nat.zero_le _, Nat.zero_le _⟩) hP hD hS hA [0, 1] rfl rfl rfl (fun H locs n1 hP hD hS => ?_)
  have hP : va_P G.1 vwCl [(t, .inr (8, [.ref row, .ref kpt, .int images, .ref errs, .ref bitsOf, .ref sizeOf, .ref cels, .ref broken, .ref isFit, .ref breaks, .int mfit, .int known, .ref act, .ref wth, .ref facts, .ref pile, .int laid, .int hre, .int opnd, .int bad, .int usg, .ref trc, .int trcd, .int isP])), (row, .inl (xI G, 400, .inl u1.2))] H := hP
  have hD : va_D A [(t, .inr (8, [.ref row, .ref kpt, .int images, .ref errs, .ref bitsOf, .ref sizeOf, .ref cels, .ref broken, .ref isFit, .ref breaks, .int mfit, .int known, .ref act, .ref wth, .ref facts, .ref pile, .int laid, .int hre, .int opnd, .int bad, .int usg, .ref trc, .int trcd, .int isP])), (row, .inl (xI G, 400, .inl u1.2))] := hD
  obtain rfl := Option.some.inj hF
  rw [← hQ]
  exact W.iret (v := u1.1) hx hb hr (fun t ht hW => ⟨⟨_, (), rfl, ⟨rfl, rfl⟩, xLf hP ht⟩, hS.F ht⟩) hS.2.2 dX8_seed_6
def B_X8_vows_29 (errs_f : Nat → Int32) (wh : Int32) (u2 : (Int32 × Int32 × (Nat → Int32) × (Nat → Int32))) (k29 : (Int32 × Int32 × Int32) → Option (Int32 × Int32 × Int32 × (Nat → Int32) × (Nat → Int32) × (Nat → Int32))) (v29 : (Int32 × Int32 × Int32)) : Option (Int32 × Int32 × Int32 × (Nat → Int32) × (Nat → Int32) × (Nat → Int32)) := if v29.2.2 < 0 then (if wh = 0 then (some (u2.1, u2.1, u2.2.1, errs_f, u2.2.2.1, u2.2.2.2)) else (if 0 ≤ v29.1 then (if wh = (1 : Int32) then (some (v29.1, u2.1, u2.2.1, errs_f, u2.2.2.1, u2.2.2.2)) else (if wh = (2 : Int32) then (some (v29.2.1, u2.1, u2.2.1, errs_f, u2.2.2.1, u2.2.2.2)) else (bd (F_X8_figuresOf v29.2.1) (fun (u3 : Int32) => some (u3, u2.1, u2.2.1, errs_f, u2.2.2.1, u2.2.2.2))))) else (bd (F_X8_error errs_f (-1000000002 : Int32)) (fun (u3 : (Int32 × (Nat → Int32))) => some (u3.1, u2.1, u2.2.1, u3.2, u2.2.2.1, u2.2.2.2))))) else (if (v29.2.2 < 0 ∨ 729 ≤ v29.2.2.toNatClampNeg) then none else (if (u2.2.2.1 v29.2.2.toNatClampNeg) = 0 then (if (v29.2.2 < 0 ∨ 729 ≤ v29.2.2.toNatClampNeg) then none else (if (u2.2.2.1 v29.2.2.toNatClampNeg) = 0 then (k29 (v29.1, v29.2.1, (v29.2.2 + (-1 : Int32)))) else (if v29.2.1 < 0 then (k29 (v29.1, v29.2.2, (v29.2.2 + (-1 : Int32)))) else (bd (F_X8_figuresOf v29.2.2) (fun (u3 : Int32) => bd (F_X8_figuresOf v29.2.1) (fun (u4 : Int32) => if u4 < u3 then (k29 (v29.1, v29.2.1, (v29.2.2 + (-1 : Int32)))) else (k29 (v29.1, v29.2.2, (v29.2.2 + (-1 : Int32)))))))))) else (if (v29.2.2 < 0 ∨ 729 ≤ v29.2.2.toNatClampNeg) then none else (if (u2.2.2.1 v29.2.2.toNatClampNeg) = 0 then (k29 (v29.2.2, v29.2.1, (v29.2.2 + (-1 : Int32)))) else (if v29.2.1 < 0 then (k29 (v29.2.2, v29.2.2, (v29.2.2 + (-1 : Int32)))) else (bd (F_X8_figuresOf v29.2.2) (fun (u3 : Int32) => bd (F_X8_figuresOf v29.2.1) (fun (u4 : Int32) => if u4 < u3 then (k29 (v29.2.2, v29.2.1, (v29.2.2 + (-1 : Int32)))) else (k29 (v29.2.2, v29.2.2, (v29.2.2 + (-1 : Int32))))))))))))
def F_X8_vows (mfit : Int32) (known : Int32) (row_f : Nat → Int32) (errs_f : Nat → Int32) (broken_f : Nat → Int64) (isFit_f : Nat → Int32) (breaks_f : Nat → Int32) (wh : Int32) : Option (Int32 × Int32 × Int32 × (Nat → Int32) × (Nat → Int32) × (Nat → Int32)) := bd (F_X8_in wh (0 : Int32) (3 : Int32)) (fun (u1 : Int32) => if u1 = 0 then (bd (F_X8_error errs_f (-1000000001 : Int32)) (fun (u2 : (Int32 × (Nat → Int32))) => some (u2.1, mfit, known, u2.2, isFit_f, breaks_f))) else (bd (F_X8_findVows mfit known row_f broken_f isFit_f breaks_f) (fun (u2 : (Int32 × Int32 × (Nat → Int32) × (Nat → Int32))) => lp (B_X8_vows_29 errs_f wh u2) fuelC ((-1 : Int32), (-1 : Int32), (728 : Int32)))))
theorem hdX8_vows : yX8_vows.cls ≠ "java/lang/invoke/MethodHandle" ∧ yX8_vows.cls ≠ "java/lang/invoke/VarHandle" ∧ (parseMethodDescriptor yX8_vows.desc).map (fun d => d.parameters.length) = some 1 := by decide +kernel
set_option maxHeartbeats 4000000 in
set_option maxRecDepth 100000 in
theorem c_X8_vows (G : xG) (t : Nat) (row : Nat) (kpt : Nat) (errs : Nat) (bitsOf : Nat) (sizeOf : Nat) (cels : Nat) (broken : Nat) (isFit : Nat) (breaks : Nat) (act : Nat) (wth : Nat) (facts : Nat) (pile : Nat) (trc : Nat) (images : Int32) (mfit : Int32) (known : Int32) (laid : Int32) (hre : Int32) (opnd : Int32) (bad : Int32) (usg : Int32) (trcd : Int32) (isP : Int32) (row_f : Nat → Int32) (errs_f : Nat → Int32) (broken_f : Nat → Int64) (isFit_f : Nat → Int32) (breaks_f : Nat → Int32) (wh : Int32)  (u : (Int32 × Int32 × Int32 × (Nat → Int32) × (Nat → Int32) × (Nat → Int32))) (hF : F_X8_vows mfit known row_f errs_f broken_f isFit_f breaks_f wh = some u) : Ki G .int yX8_vows (Cond.code yX8_vows cX8_vows 6 (some .int) :: TBL) { frames := 3, cells := 0, slots := 0, locals := 67 } [.ref t, .int wh] [(t, .inr (8, [.ref row, .ref kpt, .int images, .ref errs, .ref bitsOf, .ref sizeOf, .ref cels, .ref broken, .ref isFit, .ref breaks, .int mfit, .int known, .ref act, .ref wth, .ref facts, .ref pile, .int laid, .int hre, .int opnd, .int bad, .int usg, .ref trc, .int trcd, .int isP])), (row, .inl (xI G, 400, .inl row_f)), (errs, .inl (xI G, 7, .inl errs_f)), (broken, .inl (xJ G, 729, .inr (.inl broken_f))), (isFit, .inl (xZ G, 729, .inl isFit_f)), (breaks, .inl (xI G, 64, .inl breaks_f))] [(t, .inr (8, [.ref row, .ref kpt, .int images, .ref errs, .ref bitsOf, .ref sizeOf, .ref cels, .ref broken, .ref isFit, .ref breaks, .int u.2.1, .int u.2.2.1, .ref act, .ref wth, .ref facts, .ref pile, .int laid, .int hre, .int opnd, .int bad, .int usg, .ref trc, .int trcd, .int isP])), (row, .inl (xI G, 400, .inl row_f)), (errs, .inl (xI G, 7, .inl u.2.2.2.1)), (broken, .inl (xJ G, 729, .inr (.inl broken_f))), (isFit, .inl (xZ G, 729, .inl u.2.2.2.2.1)), (breaks, .inl (xI G, 64, .inl u.2.2.2.2.2))] u.1 := by
  intro l sz
  refine Met.ofW (cc := cX8_vows) (maxL := 6) (ret := (some .int)) (by decide) rfl ?_
  intro p e s m args below meth c s₁ B hml hv
  obtain ⟨rfl, hsz, hP, hD0, hm⟩ := hv
  have hx := B.exec
  have hb := B.bytes
  have hr := B.returns
  have hts := atoms_spec (ws := Cond.code yX8_vows cX8_vows 6 (some .int) :: TBL) B.pre
  have hown : s.vm.findClass RX8 = some m.cls := findClass_of_methodNamed B.named
  have hlocks := B.notSynchronized
  subst hsz
  have hD := hD0.self (sz := s.heap.size)
  generalize hAe : va_A [(t, .inr (8, [.ref row, .ref kpt, .int images, .ref errs, .ref bitsOf, .ref sizeOf, .ref cels, .ref broken, .ref isFit, .ref breaks, .int mfit, .int known, .ref act, .ref wth, .ref facts, .ref pile, .int laid, .int hre, .int opnd, .int bad, .int usg, .ref trc, .int trcd, .int isP])), (row, .inl (xI G, 400, .inl row_f)), (errs, .inl (xI G, 7, .inl errs_f)), (broken, .inl (xJ G, 729, .inr (.inl broken_f))), (isFit, .inl (xZ G, 729, .inl isFit_f)), (breaks, .inl (xI G, 64, .inl breaks_f))] s.heap.size = A at hD hm ⊢
  have hA : ∀ q : Nat, s.heap.size ≤ q → A q := fun q h => by rw [← hAe]; exact Or.inr h
  have hK := hm.1
  have hZ : xAnd p m c cX8_vows 6 s _ (Cond.code yX8_vows cX8_vows 6 (some .int) :: TBL) RX8 G A := ⟨⟨hx, hb, hml, hown, hts⟩, tcons, hA, hm⟩
  have hP : va_P G.1 vwCl [(t, .inr (8, [.ref row, .ref kpt, .int images, .ref errs, .ref bitsOf, .ref sizeOf, .ref cels, .ref broken, .ref isFit, .ref breaks, .int mfit, .int known, .ref act, .ref wth, .ref facts, .ref pile, .int laid, .int hre, .int opnd, .int bad, .int usg, .ref trc, .int trcd, .int isP])), (row, .inl (xI G, 400, .inl row_f)), (errs, .inl (xI G, 7, .inl errs_f)), (broken, .inl (xJ G, 729, .inr (.inl broken_f))), (isFit, .inl (xZ G, 729, .inl isFit_f)), (breaks, .inl (xI G, 64, .inl breaks_f))] s.heap := hP
  have hl := lv_entry ([.ref t, .int wh]) (n := 6) (Nat.le_of_ble_eq_true rfl)
  rw [lg_entry_eq]
  generalize (lg_sl ([.ref t, .int wh]) ++ List.replicate (6 - (lg_sl ([.ref t, .int wh])).length) Slot.unset).toArray = ls at hl ⊢
  have hl : lv_has ls 6 [(0, .ref t), (1, .int wh)] := hl
  generalize hQ : MQ below _ _ s _ _ _ = Q
  refine xGo (A := A) hP (fun H locs hP hS => ?_)
  unfold F_X8_vows at hF
  refine lv_iload_n hx hb dX8_vows_0 rfl (lv_at hl 1 rfl) ?_
  refine lv_iconst (v := 0) hx hb dX8_vows_1 (by decide) ?_
  refine lv_iconst (v := 3) hx hb dX8_vows_2 (by decide) ?_
  obtain ⟨u1, e1, hF⟩ := bdS hF
  refine xEndI (xRunS (As := [.int wh, .int (0 : Int32), .int (3 : Int32)]) (rest := []) hZ (c_X8_in G wh (0 : Int32) (3 : Int32) u1 e1 l H.size) m190 m191 m5 m192 3 hdX8_in ⟨Nat.le_of_ble_eq_true rfl, Nat.le_of_ble_eq_true rfl⟩ ⟨rfl, rfl⟩ hP hD hS [] rfl rfl rfl hl.1 rfl (Nat.le_of_ble_eq_true rfl) dX8_vows_3 ⟨Nat.zero_le _, Nat.zero_le _⟩) hP hD hS hA [] rfl rfl rfl (fun H locs n1 hP hD hS => ?_)
  have hP : va_P G.1 vwCl [(t, .inr (8, [.ref row, .ref kpt, .int images, .ref errs, .ref bitsOf, .ref sizeOf, .ref cels, .ref broken, .ref isFit, .ref breaks, .int mfit, .int known, .ref act, .ref wth, .ref facts, .ref pile, .int laid, .int hre, .int opnd, .int bad, .int usg, .ref trc, .int trcd, .int isP])), (row, .inl (xI G, 400, .inl row_f)), (errs, .inl (xI G, 7, .inl errs_f)), (broken, .inl (xJ G, 729, .inr (.inl broken_f))), (isFit, .inl (xZ G, 729, .inl isFit_f)), (breaks, .inl (xI G, 64, .inl breaks_f))] H := hP
  have hD : va_D A [(t, .inr (8, [.ref row, .ref kpt, .int images, .ref errs, .ref bitsOf, .ref sizeOf, .ref cels, .ref broken, .ref isFit, .ref breaks, .int mfit, .int known, .ref act, .ref wth, .ref facts, .ref pile, .int laid, .int hre, .int opnd, .int bad, .int usg, .ref trc, .int trcd, .int isP])), (row, .inl (xI G, 400, .inl row_f)), (errs, .inl (xI G, 7, .inl errs_f)), (broken, .inl (xJ G, 729, .inr (.inl broken_f))), (isFit, .inl (xZ G, 729, .inl isFit_f)), (breaks, .inl (xI G, 64, .inl breaks_f))] := hD
  refine lv_if_ne (tgt := 16) hx hb dX8_vows_6 (by decide) (fun c6 => ?_) (fun c6 => ?_)
  · have hF := itN c6 hF
    refine lv_aload_n hx hb dX8_vows_16 rfl (lv_at hl 0 rfl) ?_
    obtain ⟨u2, e2, hF⟩ := bdS hF
    refine xEndV (xRunV (As := []) (rest := []) hZ (c_X8_findVows G t row kpt errs bitsOf sizeOf cels broken isFit breaks act wth facts pile trc images mfit known laid hre opnd bad usg trcd isP row_f broken_f isFit_f breaks_f u2 e2 l H.size) m312 m313 m314 m5 m315 0 ⟨rfl, hdX8_findVows⟩ ⟨Nat.le_of_ble_eq_true rfl, Nat.le_of_ble_eq_true rfl⟩ ⟨rfl, rfl⟩ hP hD hS 0 8 rfl rfl rfl [0, 1, 3, 4, 5] rfl rfl rfl hl.1 rfl (Nat.le_of_ble_eq_true rfl) dX8_vows_17 ⟨Nat.zero_le _, Nat.zero_le _⟩) hP hD hS hA [0, 1, 3, 4, 5] rfl rfl rfl (fun H locs hP hD hS => ?_)
    have hP : va_P G.1 vwCl [(t, .inr (8, [.ref row, .ref kpt, .int images, .ref errs, .ref bitsOf, .ref sizeOf, .ref cels, .ref broken, .ref isFit, .ref breaks, .int u2.1, .int u2.2.1, .ref act, .ref wth, .ref facts, .ref pile, .int laid, .int hre, .int opnd, .int bad, .int usg, .ref trc, .int trcd, .int isP])), (row, .inl (xI G, 400, .inl row_f)), (errs, .inl (xI G, 7, .inl errs_f)), (broken, .inl (xJ G, 729, .inr (.inl broken_f))), (isFit, .inl (xZ G, 729, .inl u2.2.2.1)), (breaks, .inl (xI G, 64, .inl u2.2.2.2))] H := hP
    have hD : va_D A [(t, .inr (8, [.ref row, .ref kpt, .int images, .ref errs, .ref bitsOf, .ref sizeOf, .ref cels, .ref broken, .ref isFit, .ref breaks, .int u2.1, .int u2.2.1, .ref act, .ref wth, .ref facts, .ref pile, .int laid, .int hre, .int opnd, .int bad, .int usg, .ref trc, .int trcd, .int isP])), (row, .inl (xI G, 400, .inl row_f)), (errs, .inl (xI G, 7, .inl errs_f)), (broken, .inl (xJ G, 729, .inr (.inl broken_f))), (isFit, .inl (xZ G, 729, .inl u2.2.2.1)), (breaks, .inl (xI G, 64, .inl u2.2.2.2))] := hD
    refine lv_iconst (v := -1) hx hb dX8_vows_20 (by decide) ?_
    refine lv_istore_n (lv' := [(2, .int (-1 : Int32)), (0, .ref t), (1, .int wh)]) hx hb dX8_vows_21 rfl hl (by decide) rfl (fun ls hl => ?_)
    refine lv_iconst (v := -1) hx hb dX8_vows_22 (by decide) ?_
    refine lv_istore_n (lv' := [(3, .int (-1 : Int32)), (2, .int (-1 : Int32)), (0, .ref t), (1, .int wh)]) hx hb dX8_vows_23 rfl hl (by decide) rfl (fun ls hl => ?_)
    refine lv_sipush (v := 728) hx hb dX8_vows_24 (by decide) ?_
    refine lv_istore (lv' := [(4, .int (728 : Int32)), (3, .int (-1 : Int32)), (2, .int (-1 : Int32)), (0, .ref t), (1, .int wh)]) hx hb dX8_vows_27 hl (by decide) rfl (fun ls hl => ?_)
    refine xLoop3 (body := (B_X8_vows_29 errs_f wh u2)) (fun (v29_0 : Int32) (v29_1 : Int32) (v29_2 : Int32) H locs ls => va_P G.1 vwCl [(t, .inr (8, [.ref row, .ref kpt, .int images, .ref errs, .ref bitsOf, .ref sizeOf, .ref cels, .ref broken, .ref isFit, .ref breaks, .int u2.1, .int u2.2.1, .ref act, .ref wth, .ref facts, .ref pile, .int laid, .int hre, .int opnd, .int bad, .int usg, .ref trc, .int trcd, .int isP])), (row, .inl (xI G, 400, .inl row_f)), (errs, .inl (xI G, 7, .inl errs_f)), (broken, .inl (xJ G, 729, .inr (.inl broken_f))), (isFit, .inl (xZ G, 729, .inl u2.2.2.1)), (breaks, .inl (xI G, 64, .inl u2.2.2.2))] H ∧ va_D A [(t, .inr (8, [.ref row, .ref kpt, .int images, .ref errs, .ref bitsOf, .ref sizeOf, .ref cels, .ref broken, .ref isFit, .ref breaks, .int u2.1, .int u2.2.1, .ref act, .ref wth, .ref facts, .ref pile, .int laid, .int hre, .int opnd, .int bad, .int usg, .ref trc, .int trcd, .int isP])), (row, .inl (xI G, 400, .inl row_f)), (errs, .inl (xI G, 7, .inl errs_f)), (broken, .inl (xJ G, 729, .inr (.inl broken_f))), (isFit, .inl (xZ G, 729, .inl u2.2.2.1)), (breaks, .inl (xI G, 64, .inl u2.2.2.2))] ∧ va_S A s.heap H locs ∧ lv_has ls 6 [(0, .ref t), (1, .int wh), (2, .int v29_0), (3, .int v29_1), (4, .int v29_2)]) (fun N29 v29_0 v29_1 v29_2 ih29 H locs ls hI hF => ?_) fuelC (-1 : Int32) (-1 : Int32) (728 : Int32) H locs ls ⟨hP, hD, hS, lv_sub hl [3, 4, 2, 1, 0] rfl⟩ hF
    obtain ⟨hP, hD, hS, hl⟩ := hI
    unfold B_X8_vows_29 at hF
    refine lv_iload hx hb dX8_vows_29 (lv_at hl 4 rfl) ?_
    refine lv_if_lt (tgt := 102) hx hb dX8_vows_31 (by decide) (fun c31 => ?_) (fun c31 => ?_)
    · have hF := itP c31 hF
      refine lv_iload_n hx hb dX8_vows_102 rfl (lv_at hl 1 rfl) ?_
      refine lv_if_ne (tgt := 111) hx hb dX8_vows_103 (by decide) (fun c103 => ?_) (fun c103 => ?_)
      · have hF := itN c103 hF
        refine lv_iload_n hx hb dX8_vows_111 rfl (lv_at hl 2 rfl) ?_
        refine lv_if_ge (tgt := 124) hx hb dX8_vows_112 (by decide) (fun c112 => ?_) (fun c112 => ?_)
        · have hF := itP c112 hF
          refine lv_iload_n hx hb dX8_vows_124 rfl (lv_at hl 1 rfl) ?_
          refine lv_iconst (v := 1) hx hb dX8_vows_125 (by decide) ?_
          refine lv_icmp_ne (tgt := 133) hx hb dX8_vows_126 (by decide) (fun c126 => ?_) (fun c126 => ?_)
          · have hF := itN c126 hF
            refine lv_iload_n hx hb dX8_vows_133 rfl (lv_at hl 1 rfl) ?_
            refine lv_iconst (v := 2) hx hb dX8_vows_134 (by decide) ?_
            refine lv_icmp_ne (tgt := 142) hx hb dX8_vows_135 (by decide) (fun c135 => ?_) (fun c135 => ?_)
            · have hF := itN c135 hF
              refine lv_iload_n hx hb dX8_vows_142 rfl (lv_at hl 3 rfl) ?_
              obtain ⟨u3, e3, hF⟩ := bdS hF
              refine xEndI (xRunS (As := [.int v29_1]) (rest := []) hZ (c_X8_figuresOf G v29_1 u3 e3 l H.size) m806 m807 m5 m808 1 hdX8_figuresOf ⟨Nat.le_of_ble_eq_true rfl, Nat.le_of_ble_eq_true rfl⟩ ⟨rfl, rfl⟩ hP hD hS [] rfl rfl rfl hl.1 rfl (Nat.le_of_ble_eq_true rfl) dX8_vows_143 ⟨Nat.zero_le _, Nat.zero_le _⟩) hP hD hS hA [] rfl rfl rfl (fun H locs n3 hP hD hS => ?_)
              have hP : va_P G.1 vwCl [(t, .inr (8, [.ref row, .ref kpt, .int images, .ref errs, .ref bitsOf, .ref sizeOf, .ref cels, .ref broken, .ref isFit, .ref breaks, .int u2.1, .int u2.2.1, .ref act, .ref wth, .ref facts, .ref pile, .int laid, .int hre, .int opnd, .int bad, .int usg, .ref trc, .int trcd, .int isP])), (row, .inl (xI G, 400, .inl row_f)), (errs, .inl (xI G, 7, .inl errs_f)), (broken, .inl (xJ G, 729, .inr (.inl broken_f))), (isFit, .inl (xZ G, 729, .inl u2.2.2.1)), (breaks, .inl (xI G, 64, .inl u2.2.2.2))] H := hP
              have hD : va_D A [(t, .inr (8, [.ref row, .ref kpt, .int images, .ref errs, .ref bitsOf, .ref sizeOf, .ref cels, .ref broken, .ref isFit, .ref breaks, .int u2.1, .int u2.2.1, .ref act, .ref wth, .ref facts, .ref pile, .int laid, .int hre, .int opnd, .int bad, .int usg, .ref trc, .int trcd, .int isP])), (row, .inl (xI G, 400, .inl row_f)), (errs, .inl (xI G, 7, .inl errs_f)), (broken, .inl (xJ G, 729, .inr (.inl broken_f))), (isFit, .inl (xZ G, 729, .inl u2.2.2.1)), (breaks, .inl (xI G, 64, .inl u2.2.2.2))] := hD
              obtain rfl := Option.some.inj hF
              rw [← hQ]
              exact W.iret (v := u3) hx hb hr (fun t ht hW => ⟨⟨_, (), rfl, ⟨rfl, rfl⟩, xLf hP ht⟩, hS.F ht⟩) hS.2.2 dX8_vows_146
            · have hF := itP c135 hF
              refine lv_iload_n hx hb dX8_vows_138 rfl (lv_at hl 3 rfl) ?_
              refine lv_goto (tgt := 146) hx hb dX8_vows_139 (by decide) ?_
              obtain rfl := Option.some.inj hF
              rw [← hQ]
              exact W.iret (v := v29_1) hx hb hr (fun t ht hW => ⟨⟨_, (), rfl, ⟨rfl, rfl⟩, xLf hP ht⟩, hS.F ht⟩) hS.2.2 dX8_vows_146
          · have hF := itP c126 hF
            refine lv_iload_n hx hb dX8_vows_129 rfl (lv_at hl 2 rfl) ?_
            refine lv_goto (tgt := 146) hx hb dX8_vows_130 (by decide) ?_
            obtain rfl := Option.some.inj hF
            rw [← hQ]
            exact W.iret (v := v29_0) hx hb hr (fun t ht hW => ⟨⟨_, (), rfl, ⟨rfl, rfl⟩, xLf hP ht⟩, hS.F ht⟩) hS.2.2 dX8_vows_146
        · have hF := itN c112 hF
          refine lv_aload_n hx hb dX8_vows_115 rfl (lv_at hl 0 rfl) ?_
          refine lv_ldc (v := -1000000002) hx hb hown (hts _ (tcons _ m805)) dX8_vows_116 ?_
          obtain ⟨u3, e3, hF⟩ := bdS hF
          refine xEndI (xRunV (As := [.int (-1000000002 : Int32)]) (rest := []) hZ (c_X8_error G t row kpt errs bitsOf sizeOf cels broken isFit breaks act wth facts pile trc images u2.1 u2.2.1 laid hre opnd bad usg trcd isP errs_f (-1000000002 : Int32) u3 e3 l H.size) m193 m194 m195 m5 m196 1 ⟨rfl, hdX8_error⟩ ⟨Nat.le_of_ble_eq_true rfl, Nat.le_of_ble_eq_true rfl⟩ ⟨rfl, rfl⟩ hP hD hS 0 8 rfl rfl rfl [0, 2] rfl rfl rfl hl.1 rfl (Nat.le_of_ble_eq_true rfl) dX8_vows_118 ⟨Nat.zero_le _, Nat.zero_le _⟩) hP hD hS hA [0, 2] rfl rfl rfl (fun H locs n3 hP hD hS => ?_)
          have hP : va_P G.1 vwCl [(t, .inr (8, [.ref row, .ref kpt, .int images, .ref errs, .ref bitsOf, .ref sizeOf, .ref cels, .ref broken, .ref isFit, .ref breaks, .int u2.1, .int u2.2.1, .ref act, .ref wth, .ref facts, .ref pile, .int laid, .int hre, .int opnd, .int bad, .int usg, .ref trc, .int trcd, .int isP])), (row, .inl (xI G, 400, .inl row_f)), (errs, .inl (xI G, 7, .inl u3.2)), (broken, .inl (xJ G, 729, .inr (.inl broken_f))), (isFit, .inl (xZ G, 729, .inl u2.2.2.1)), (breaks, .inl (xI G, 64, .inl u2.2.2.2))] H := hP
          have hD : va_D A [(t, .inr (8, [.ref row, .ref kpt, .int images, .ref errs, .ref bitsOf, .ref sizeOf, .ref cels, .ref broken, .ref isFit, .ref breaks, .int u2.1, .int u2.2.1, .ref act, .ref wth, .ref facts, .ref pile, .int laid, .int hre, .int opnd, .int bad, .int usg, .ref trc, .int trcd, .int isP])), (row, .inl (xI G, 400, .inl row_f)), (errs, .inl (xI G, 7, .inl u3.2)), (broken, .inl (xJ G, 729, .inr (.inl broken_f))), (isFit, .inl (xZ G, 729, .inl u2.2.2.1)), (breaks, .inl (xI G, 64, .inl u2.2.2.2))] := hD
          refine lv_goto (tgt := 146) hx hb dX8_vows_121 (by decide) ?_
          obtain rfl := Option.some.inj hF
          rw [← hQ]
          exact W.iret (v := u3.1) hx hb hr (fun t ht hW => ⟨⟨_, (), rfl, ⟨rfl, rfl⟩, xLf hP ht⟩, hS.F ht⟩) hS.2.2 dX8_vows_146
      · have hF := itP c103 hF
        refine lv_aload_n hx hb dX8_vows_106 rfl (lv_at hl 0 rfl) ?_
        refine va_get (ci := 8) (v := .int u2.1) (C := RX8) (T := TX8) (N := 24) hx hb hts (fun w h => tcons w (xin8 w h)) hown hK hP 0 rfl rfl 10 (by decide) (hts _ (tcons _ m303)) (fun _ h9 => h9) rfl dX8_vows_107 ?_
        obtain rfl := Option.some.inj hF
        rw [← hQ]
        exact W.iret (v := u2.1) hx hb hr (fun t ht hW => ⟨⟨_, (), rfl, ⟨rfl, rfl⟩, xLf hP ht⟩, hS.F ht⟩) hS.2.2 dX8_vows_110
    · have hF := itN c31 hF
      refine lv_aload_n hx hb dX8_vows_34 rfl (lv_at hl 0 rfl) ?_
      refine va_get (ci := 8) (v := .ref isFit) (C := RX8) (T := TX8) (N := 24) hx hb hts (fun w h => tcons w (xin8 w h)) hown hK hP 0 rfl rfl 8 (by decide) (hts _ (tcons _ m144)) (fun _ h9 => h9) rfl dX8_vows_35 ?_
      refine lv_iload hx hb dX8_vows_38 (lv_at hl 4 rfl) ?_
      obtain ⟨g40, hF⟩ := gdS hF
      refine va_zald hx hb hK hP 4 2 rfl rfl g40 dX8_vows_40 ?_
      refine lv_if_eq (tgt := 49) hx hb dX8_vows_41 (by decide) (fun c41 => ?_) (fun c41 => ?_)
      · have hF := itP c41 hF
        refine lv_iload_n hx hb dX8_vows_49 rfl (lv_at hl 2 rfl) ?_
        refine lv_istore_n (lv' := [(2, .int v29_0), (0, .ref t), (1, .int wh), (3, .int v29_1), (4, .int v29_2)]) hx hb dX8_vows_50 rfl hl (by decide) rfl (fun ls hl => ?_)
        refine lv_aload_n hx hb dX8_vows_51 rfl (lv_at hl 1 rfl) ?_
        refine va_get (ci := 8) (v := .ref isFit) (C := RX8) (T := TX8) (N := 24) hx hb hts (fun w h => tcons w (xin8 w h)) hown hK hP 0 rfl rfl 8 (by decide) (hts _ (tcons _ m144)) (fun _ h9 => h9) rfl dX8_vows_52 ?_
        refine lv_iload hx hb dX8_vows_55 (lv_at hl 4 rfl) ?_
        obtain ⟨g57, hF⟩ := gdS hF
        refine va_zald hx hb hK hP 4 2 rfl rfl g57 dX8_vows_57 ?_
        refine lv_if_eq (tgt := 81) hx hb dX8_vows_58 (by decide) (fun c58 => ?_) (fun c58 => ?_)
        · have hF := itP c58 hF
          refine lv_iconst (v := 0) hx hb dX8_vows_81 (by decide) ?_
          refine lv_istore (lv' := [(5, .int (0 : Int32)), (2, .int v29_0), (0, .ref t), (1, .int wh), (3, .int v29_1), (4, .int v29_2)]) hx hb dX8_vows_82 hl (by decide) rfl (fun ls hl => ?_)
          refine lv_iload hx hb dX8_vows_84 (lv_at hl 0 rfl) ?_
          refine lv_if_eq (tgt := 94) hx hb dX8_vows_86 (by decide) (fun c86 => ?_) (fun c86 => absurd (by decide) c86)
          refine lv_iload_n hx hb dX8_vows_94 rfl (lv_at hl 4 rfl) ?_
          refine lv_istore_n (lv' := [(3, .int v29_1), (5, .int (0 : Int32)), (2, .int v29_0), (0, .ref t), (1, .int wh), (4, .int v29_2)]) hx hb dX8_vows_95 rfl hl (by decide) rfl (fun ls hl => ?_)
          refine lv_iinc (v := (v29_2 + (-1 : Int32))) (lv' := [(4, .int (v29_2 + (-1 : Int32))), (3, .int v29_1), (5, .int (0 : Int32)), (2, .int v29_0), (0, .ref t), (1, .int wh)]) hx hb dX8_vows_96 hl (k := 5) rfl (xInc_m1 _) (by decide) rfl (fun ls hl => ?_)
          refine lv_goto (tgt := 29) hx hb dX8_vows_99 (by decide) ?_
          exact ih29 v29_0 v29_1 (v29_2 + (-1 : Int32)) H locs ls ⟨hP, hD, hS, lv_sub hl [4, 5, 3, 1, 0] rfl⟩ hF
        · have hF := itN c58 hF
          refine lv_iload_n hx hb dX8_vows_61 rfl (lv_at hl 3 rfl) ?_
          refine lv_if_lt (tgt := 77) hx hb dX8_vows_62 (by decide) (fun c62 => ?_) (fun c62 => ?_)
          · have hF := itP c62 hF
            refine lv_iconst (v := 1) hx hb dX8_vows_77 (by decide) ?_
            refine lv_goto (tgt := 82) hx hb dX8_vows_78 (by decide) ?_
            refine lv_istore (lv' := [(5, .int (1 : Int32)), (2, .int v29_0), (0, .ref t), (1, .int wh), (3, .int v29_1), (4, .int v29_2)]) hx hb dX8_vows_82 hl (by decide) rfl (fun ls hl => ?_)
            refine lv_iload hx hb dX8_vows_84 (lv_at hl 0 rfl) ?_
            refine lv_if_eq (tgt := 94) hx hb dX8_vows_86 (by decide) (fun c86 => absurd c86 (by decide)) (fun c86 => ?_)
            refine lv_iload hx hb dX8_vows_89 (lv_at hl 5 rfl) ?_
            refine lv_goto (tgt := 95) hx hb dX8_vows_91 (by decide) ?_
            refine lv_istore_n (lv' := [(3, .int v29_2), (5, .int (1 : Int32)), (2, .int v29_0), (0, .ref t), (1, .int wh), (4, .int v29_2)]) hx hb dX8_vows_95 rfl hl (by decide) rfl (fun ls hl => ?_)
            refine lv_iinc (v := (v29_2 + (-1 : Int32))) (lv' := [(4, .int (v29_2 + (-1 : Int32))), (3, .int v29_2), (5, .int (1 : Int32)), (2, .int v29_0), (0, .ref t), (1, .int wh)]) hx hb dX8_vows_96 hl (k := 5) rfl (xInc_m1 _) (by decide) rfl (fun ls hl => ?_)
            refine lv_goto (tgt := 29) hx hb dX8_vows_99 (by decide) ?_
            exact ih29 v29_0 v29_2 (v29_2 + (-1 : Int32)) H locs ls ⟨hP, hD, hS, lv_sub hl [4, 5, 3, 1, 0] rfl⟩ hF
          · have hF := itN c62 hF
            refine lv_iload hx hb dX8_vows_65 (lv_at hl 4 rfl) ?_
            obtain ⟨u3, e3, hF⟩ := bdS hF
            refine xEndI (xRunS (As := [.int v29_2]) (rest := []) hZ (c_X8_figuresOf G v29_2 u3 e3 l H.size) m806 m807 m5 m808 1 hdX8_figuresOf ⟨Nat.le_of_ble_eq_true rfl, Nat.le_of_ble_eq_true rfl⟩ ⟨rfl, rfl⟩ hP hD hS [] rfl rfl rfl hl.1 rfl (Nat.le_of_ble_eq_true rfl) dX8_vows_67 ⟨Nat.zero_le _, Nat.zero_le _⟩) hP hD hS hA [] rfl rfl rfl (fun H locs n3 hP hD hS => ?_)
            have hP : va_P G.1 vwCl [(t, .inr (8, [.ref row, .ref kpt, .int images, .ref errs, .ref bitsOf, .ref sizeOf, .ref cels, .ref broken, .ref isFit, .ref breaks, .int u2.1, .int u2.2.1, .ref act, .ref wth, .ref facts, .ref pile, .int laid, .int hre, .int opnd, .int bad, .int usg, .ref trc, .int trcd, .int isP])), (row, .inl (xI G, 400, .inl row_f)), (errs, .inl (xI G, 7, .inl errs_f)), (broken, .inl (xJ G, 729, .inr (.inl broken_f))), (isFit, .inl (xZ G, 729, .inl u2.2.2.1)), (breaks, .inl (xI G, 64, .inl u2.2.2.2))] H := hP
            have hD : va_D A [(t, .inr (8, [.ref row, .ref kpt, .int images, .ref errs, .ref bitsOf, .ref sizeOf, .ref cels, .ref broken, .ref isFit, .ref breaks, .int u2.1, .int u2.2.1, .ref act, .ref wth, .ref facts, .ref pile, .int laid, .int hre, .int opnd, .int bad, .int usg, .ref trc, .int trcd, .int isP])), (row, .inl (xI G, 400, .inl row_f)), (errs, .inl (xI G, 7, .inl errs_f)), (broken, .inl (xJ G, 729, .inr (.inl broken_f))), (isFit, .inl (xZ G, 729, .inl u2.2.2.1)), (breaks, .inl (xI G, 64, .inl u2.2.2.2))] := hD
            refine lv_iload_n hx hb dX8_vows_70 rfl (lv_at hl 3 rfl) ?_
            obtain ⟨u4, e4, hF⟩ := bdS hF
            refine xEndI (xRunS (As := [.int v29_1]) (rest := [.int u3]) hZ (c_X8_figuresOf G v29_1 u4 e4 l H.size) m806 m807 m5 m808 1 hdX8_figuresOf ⟨Nat.le_of_ble_eq_true rfl, Nat.le_of_ble_eq_true rfl⟩ ⟨rfl, rfl⟩ hP hD hS [] rfl rfl rfl hl.1 rfl (Nat.le_of_ble_eq_true rfl) dX8_vows_71 ⟨Nat.zero_le _, Nat.zero_le _⟩) hP hD hS hA [] rfl rfl rfl (fun H locs n4 hP hD hS => ?_)
            have hP : va_P G.1 vwCl [(t, .inr (8, [.ref row, .ref kpt, .int images, .ref errs, .ref bitsOf, .ref sizeOf, .ref cels, .ref broken, .ref isFit, .ref breaks, .int u2.1, .int u2.2.1, .ref act, .ref wth, .ref facts, .ref pile, .int laid, .int hre, .int opnd, .int bad, .int usg, .ref trc, .int trcd, .int isP])), (row, .inl (xI G, 400, .inl row_f)), (errs, .inl (xI G, 7, .inl errs_f)), (broken, .inl (xJ G, 729, .inr (.inl broken_f))), (isFit, .inl (xZ G, 729, .inl u2.2.2.1)), (breaks, .inl (xI G, 64, .inl u2.2.2.2))] H := hP
            have hD : va_D A [(t, .inr (8, [.ref row, .ref kpt, .int images, .ref errs, .ref bitsOf, .ref sizeOf, .ref cels, .ref broken, .ref isFit, .ref breaks, .int u2.1, .int u2.2.1, .ref act, .ref wth, .ref facts, .ref pile, .int laid, .int hre, .int opnd, .int bad, .int usg, .ref trc, .int trcd, .int isP])), (row, .inl (xI G, 400, .inl row_f)), (errs, .inl (xI G, 7, .inl errs_f)), (broken, .inl (xJ G, 729, .inr (.inl broken_f))), (isFit, .inl (xZ G, 729, .inl u2.2.2.1)), (breaks, .inl (xI G, 64, .inl u2.2.2.2))] := hD
            refine lv_icmp_gt (tgt := 81) hx hb dX8_vows_74 (by decide) (fun c74 => ?_) (fun c74 => ?_)
            · have hF := itP c74 hF
              refine lv_iconst (v := 0) hx hb dX8_vows_81 (by decide) ?_
              refine lv_istore (lv' := [(5, .int (0 : Int32)), (2, .int v29_0), (0, .ref t), (1, .int wh), (3, .int v29_1), (4, .int v29_2)]) hx hb dX8_vows_82 hl (by decide) rfl (fun ls hl => ?_)
              refine lv_iload hx hb dX8_vows_84 (lv_at hl 0 rfl) ?_
              refine lv_if_eq (tgt := 94) hx hb dX8_vows_86 (by decide) (fun c86 => ?_) (fun c86 => absurd (by decide) c86)
              refine lv_iload_n hx hb dX8_vows_94 rfl (lv_at hl 4 rfl) ?_
              refine lv_istore_n (lv' := [(3, .int v29_1), (5, .int (0 : Int32)), (2, .int v29_0), (0, .ref t), (1, .int wh), (4, .int v29_2)]) hx hb dX8_vows_95 rfl hl (by decide) rfl (fun ls hl => ?_)
              refine lv_iinc (v := (v29_2 + (-1 : Int32))) (lv' := [(4, .int (v29_2 + (-1 : Int32))), (3, .int v29_1), (5, .int (0 : Int32)), (2, .int v29_0), (0, .ref t), (1, .int wh)]) hx hb dX8_vows_96 hl (k := 5) rfl (xInc_m1 _) (by decide) rfl (fun ls hl => ?_)
              refine lv_goto (tgt := 29) hx hb dX8_vows_99 (by decide) ?_
              exact ih29 v29_0 v29_1 (v29_2 + (-1 : Int32)) H locs ls ⟨hP, hD, hS, lv_sub hl [4, 5, 3, 1, 0] rfl⟩ hF
            · have hF := itN c74 hF
              refine lv_iconst (v := 1) hx hb dX8_vows_77 (by decide) ?_
              refine lv_goto (tgt := 82) hx hb dX8_vows_78 (by decide) ?_
              refine lv_istore (lv' := [(5, .int (1 : Int32)), (2, .int v29_0), (0, .ref t), (1, .int wh), (3, .int v29_1), (4, .int v29_2)]) hx hb dX8_vows_82 hl (by decide) rfl (fun ls hl => ?_)
              refine lv_iload hx hb dX8_vows_84 (lv_at hl 0 rfl) ?_
              refine lv_if_eq (tgt := 94) hx hb dX8_vows_86 (by decide) (fun c86 => absurd c86 (by decide)) (fun c86 => ?_)
              refine lv_iload hx hb dX8_vows_89 (lv_at hl 5 rfl) ?_
              refine lv_goto (tgt := 95) hx hb dX8_vows_91 (by decide) ?_
              refine lv_istore_n (lv' := [(3, .int v29_2), (5, .int (1 : Int32)), (2, .int v29_0), (0, .ref t), (1, .int wh), (4, .int v29_2)]) hx hb dX8_vows_95 rfl hl (by decide) rfl (fun ls hl => ?_)
              refine lv_iinc (v := (v29_2 + (-1 : Int32))) (lv' := [(4, .int (v29_2 + (-1 : Int32))), (3, .int v29_2), (5, .int (1 : Int32)), (2, .int v29_0), (0, .ref t), (1, .int wh)]) hx hb dX8_vows_96 hl (k := 5) rfl (xInc_m1 _) (by decide) rfl (fun ls hl => ?_)
              refine lv_goto (tgt := 29) hx hb dX8_vows_99 (by decide) ?_
              exact ih29 v29_0 v29_2 (v29_2 + (-1 : Int32)) H locs ls ⟨hP, hD, hS, lv_sub hl [4, 5, 3, 1, 0] rfl⟩ hF
      · have hF := itN c41 hF
        refine lv_iload hx hb dX8_vows_44 (lv_at hl 4 rfl) ?_
        refine lv_goto (tgt := 50) hx hb dX8_vows_46 (by decide) ?_
        refine lv_istore_n (lv' := [(2, .int v29_2), (0, .ref t), (1, .int wh), (3, .int v29_1), (4, .int v29_2)]) hx hb dX8_vows_50 rfl hl (by decide) rfl (fun ls hl => ?_)
        refine lv_aload_n hx hb dX8_vows_51 rfl (lv_at hl 1 rfl) ?_
        refine va_get (ci := 8) (v := .ref isFit) (C := RX8) (T := TX8) (N := 24) hx hb hts (fun w h => tcons w (xin8 w h)) hown hK hP 0 rfl rfl 8 (by decide) (hts _ (tcons _ m144)) (fun _ h9 => h9) rfl dX8_vows_52 ?_
        refine lv_iload hx hb dX8_vows_55 (lv_at hl 4 rfl) ?_
        obtain ⟨g57, hF⟩ := gdS hF
        refine va_zald hx hb hK hP 4 2 rfl rfl g57 dX8_vows_57 ?_
        refine lv_if_eq (tgt := 81) hx hb dX8_vows_58 (by decide) (fun c58 => ?_) (fun c58 => ?_)
        · have hF := itP c58 hF
          refine lv_iconst (v := 0) hx hb dX8_vows_81 (by decide) ?_
          refine lv_istore (lv' := [(5, .int (0 : Int32)), (2, .int v29_2), (0, .ref t), (1, .int wh), (3, .int v29_1), (4, .int v29_2)]) hx hb dX8_vows_82 hl (by decide) rfl (fun ls hl => ?_)
          refine lv_iload hx hb dX8_vows_84 (lv_at hl 0 rfl) ?_
          refine lv_if_eq (tgt := 94) hx hb dX8_vows_86 (by decide) (fun c86 => ?_) (fun c86 => absurd (by decide) c86)
          refine lv_iload_n hx hb dX8_vows_94 rfl (lv_at hl 4 rfl) ?_
          refine lv_istore_n (lv' := [(3, .int v29_1), (5, .int (0 : Int32)), (2, .int v29_2), (0, .ref t), (1, .int wh), (4, .int v29_2)]) hx hb dX8_vows_95 rfl hl (by decide) rfl (fun ls hl => ?_)
          refine lv_iinc (v := (v29_2 + (-1 : Int32))) (lv' := [(4, .int (v29_2 + (-1 : Int32))), (3, .int v29_1), (5, .int (0 : Int32)), (2, .int v29_2), (0, .ref t), (1, .int wh)]) hx hb dX8_vows_96 hl (k := 5) rfl (xInc_m1 _) (by decide) rfl (fun ls hl => ?_)
          refine lv_goto (tgt := 29) hx hb dX8_vows_99 (by decide) ?_
          exact ih29 v29_2 v29_1 (v29_2 + (-1 : Int32)) H locs ls ⟨hP, hD, hS, lv_sub hl [4, 5, 3, 1, 0] rfl⟩ hF
        · have hF := itN c58 hF
          refine lv_iload_n hx hb dX8_vows_61 rfl (lv_at hl 3 rfl) ?_
          refine lv_if_lt (tgt := 77) hx hb dX8_vows_62 (by decide) (fun c62 => ?_) (fun c62 => ?_)
          · have hF := itP c62 hF
            refine lv_iconst (v := 1) hx hb dX8_vows_77 (by decide) ?_
            refine lv_goto (tgt := 82) hx hb dX8_vows_78 (by decide) ?_
            refine lv_istore (lv' := [(5, .int (1 : Int32)), (2, .int v29_2), (0, .ref t), (1, .int wh), (3, .int v29_1), (4, .int v29_2)]) hx hb dX8_vows_82 hl (by decide) rfl (fun ls hl => ?_)
            refine lv_iload hx hb dX8_vows_84 (lv_at hl 0 rfl) ?_
            refine lv_if_eq (tgt := 94) hx hb dX8_vows_86 (by decide) (fun c86 => absurd c86 (by decide)) (fun c86 => ?_)
            refine lv_iload hx hb dX8_vows_89 (lv_at hl 5 rfl) ?_
            refine lv_goto (tgt := 95) hx hb dX8_vows_91 (by decide) ?_
            refine lv_istore_n (lv' := [(3, .int v29_2), (5, .int (1 : Int32)), (2, .int v29_2), (0, .ref t), (1, .int wh), (4, .int v29_2)]) hx hb dX8_vows_95 rfl hl (by decide) rfl (fun ls hl => ?_)
            refine lv_iinc (v := (v29_2 + (-1 : Int32))) (lv' := [(4, .int (v29_2 + (-1 : Int32))), (3, .int v29_2), (5, .int (1 : Int32)), (2, .int v29_2), (0, .ref t), (1, .int wh)]) hx hb dX8_vows_96 hl (k := 5) rfl (xInc_m1 _) (by decide) rfl (fun ls hl => ?_)
            refine lv_goto (tgt := 29) hx hb dX8_vows_99 (by decide) ?_
            exact ih29 v29_2 v29_2 (v29_2 + (-1 : Int32)) H locs ls ⟨hP, hD, hS, lv_sub hl [4, 5, 3, 1, 0] rfl⟩ hF
          · have hF := itN c62 hF
            refine lv_iload hx hb dX8_vows_65 (lv_at hl 4 rfl) ?_
            obtain ⟨u3, e3, hF⟩ := bdS hF
            refine xEndI (xRunS (As := [.int v29_2]) (rest := []) hZ (c_X8_figuresOf G v29_2 u3 e3 l H.size) m806 m807 m5 m808 1 hdX8_figuresOf ⟨Nat.le_of_ble_eq_true rfl, Nat.le_of_ble_eq_true rfl⟩ ⟨rfl, rfl⟩ hP hD hS [] rfl rfl rfl hl.1 rfl (Nat.le_of_ble_eq_true rfl) dX8_vows_67 ⟨Nat.zero_le _, Nat.zero_le _⟩) hP hD hS hA [] rfl rfl rfl (fun H locs n3 hP hD hS => ?_)
            have hP : va_P G.1 vwCl [(t, .inr (8, [.ref row, .ref kpt, .int images, .ref errs, .ref bitsOf, .ref sizeOf, .ref cels, .ref broken, .ref isFit, .ref breaks, .int u2.1, .int u2.2.1, .ref act, .ref wth, .ref facts, .ref pile, .int laid, .int hre, .int opnd, .int bad, .int usg, .ref trc, .int trcd, .int isP])), (row, .inl (xI G, 400, .inl row_f)), (errs, .inl (xI G, 7, .inl errs_f)), (broken, .inl (xJ G, 729, .inr (.inl broken_f))), (isFit, .inl (xZ G, 729, .inl u2.2.2.1)), (breaks, .inl (xI G, 64, .inl u2.2.2.2))] H := hP
            have hD : va_D A [(t, .inr (8, [.ref row, .ref kpt, .int images, .ref errs, .ref bitsOf, .ref sizeOf, .ref cels, .ref broken, .ref isFit, .ref breaks, .int u2.1, .int u2.2.1, .ref act, .ref wth, .ref facts, .ref pile, .int laid, .int hre, .int opnd, .int bad, .int usg, .ref trc, .int trcd, .int isP])), (row, .inl (xI G, 400, .inl row_f)), (errs, .inl (xI G, 7, .inl errs_f)), (broken, .inl (xJ G, 729, .inr (.inl broken_f))), (isFit, .inl (xZ G, 729, .inl u2.2.2.1)), (breaks, .inl (xI G, 64, .inl u2.2.2.2))] := hD
            refine lv_iload_n hx hb dX8_vows_70 rfl (lv_at hl 3 rfl) ?_
            obtain ⟨u4, e4, hF⟩ := bdS hF
            refine xEndI (xRunS (As := [.int v29_1]) (rest := [.int u3]) hZ (c_X8_figuresOf G v29_1 u4 e4 l H.size) m806 m807 m5 m808 1 hdX8_figuresOf ⟨Nat.le_of_ble_eq_true rfl, Nat.le_of_ble_eq_true rfl⟩ ⟨rfl, rfl⟩ hP hD hS [] rfl rfl rfl hl.1 rfl (Nat.le_of_ble_eq_true rfl) dX8_vows_71 ⟨Nat.zero_le _, Nat.zero_le _⟩) hP hD hS hA [] rfl rfl rfl (fun H locs n4 hP hD hS => ?_)
            have hP : va_P G.1 vwCl [(t, .inr (8, [.ref row, .ref kpt, .int images, .ref errs, .ref bitsOf, .ref sizeOf, .ref cels, .ref broken, .ref isFit, .ref breaks, .int u2.1, .int u2.2.1, .ref act, .ref wth, .ref facts, .ref pile, .int laid, .int hre, .int opnd, .int bad, .int usg, .ref trc, .int trcd, .int isP])), (row, .inl (xI G, 400, .inl row_f)), (errs, .inl (xI G, 7, .inl errs_f)), (broken, .inl (xJ G, 729, .inr (.inl broken_f))), (isFit, .inl (xZ G, 729, .inl u2.2.2.1)), (breaks, .inl (xI G, 64, .inl u2.2.2.2))] H := hP
            have hD : va_D A [(t, .inr (8, [.ref row, .ref kpt, .int images, .ref errs, .ref bitsOf, .ref sizeOf, .ref cels, .ref broken, .ref isFit, .ref breaks, .int u2.1, .int u2.2.1, .ref act, .ref wth, .ref facts, .ref pile, .int laid, .int hre, .int opnd, .int bad, .int usg, .ref trc, .int trcd, .int isP])), (row, .inl (xI G, 400, .inl row_f)), (errs, .inl (xI G, 7, .inl errs_f)), (broken, .inl (xJ G, 729, .inr (.inl broken_f))), (isFit, .inl (xZ G, 729, .inl u2.2.2.1)), (breaks, .inl (xI G, 64, .inl u2.2.2.2))] := hD
            refine lv_icmp_gt (tgt := 81) hx hb dX8_vows_74 (by decide) (fun c74 => ?_) (fun c74 => ?_)
            · have hF := itP c74 hF
              refine lv_iconst (v := 0) hx hb dX8_vows_81 (by decide) ?_
              refine lv_istore (lv' := [(5, .int (0 : Int32)), (2, .int v29_2), (0, .ref t), (1, .int wh), (3, .int v29_1), (4, .int v29_2)]) hx hb dX8_vows_82 hl (by decide) rfl (fun ls hl => ?_)
              refine lv_iload hx hb dX8_vows_84 (lv_at hl 0 rfl) ?_
              refine lv_if_eq (tgt := 94) hx hb dX8_vows_86 (by decide) (fun c86 => ?_) (fun c86 => absurd (by decide) c86)
              refine lv_iload_n hx hb dX8_vows_94 rfl (lv_at hl 4 rfl) ?_
              refine lv_istore_n (lv' := [(3, .int v29_1), (5, .int (0 : Int32)), (2, .int v29_2), (0, .ref t), (1, .int wh), (4, .int v29_2)]) hx hb dX8_vows_95 rfl hl (by decide) rfl (fun ls hl => ?_)
              refine lv_iinc (v := (v29_2 + (-1 : Int32))) (lv' := [(4, .int (v29_2 + (-1 : Int32))), (3, .int v29_1), (5, .int (0 : Int32)), (2, .int v29_2), (0, .ref t), (1, .int wh)]) hx hb dX8_vows_96 hl (k := 5) rfl (xInc_m1 _) (by decide) rfl (fun ls hl => ?_)
              refine lv_goto (tgt := 29) hx hb dX8_vows_99 (by decide) ?_
              exact ih29 v29_2 v29_1 (v29_2 + (-1 : Int32)) H locs ls ⟨hP, hD, hS, lv_sub hl [4, 5, 3, 1, 0] rfl⟩ hF
            · have hF := itN c74 hF
              refine lv_iconst (v := 1) hx hb dX8_vows_77 (by decide) ?_
              refine lv_goto (tgt := 82) hx hb dX8_vows_78 (by decide) ?_
              refine lv_istore (lv' := [(5, .int (1 : Int32)), (2, .int v29_2), (0, .ref t), (1, .int wh), (3, .int v29_1), (4, .int v29_2)]) hx hb dX8_vows_82 hl (by decide) rfl (fun ls hl => ?_)
              refine lv_iload hx hb dX8_vows_84 (lv_at hl 0 rfl) ?_
              refine lv_if_eq (tgt := 94) hx hb dX8_vows_86 (by decide) (fun c86 => absurd c86 (by decide)) (fun c86 => ?_)
              refine lv_iload hx hb dX8_vows_89 (lv_at hl 5 rfl) ?_
              refine lv_goto (tgt := 95) hx hb dX8_vows_91 (by decide) ?_
              refine lv_istore_n (lv' := [(3, .int v29_2), (5, .int (1 : Int32)), (2, .int v29_2), (0, .ref t), (1, .int wh), (4, .int v29_2)]) hx hb dX8_vows_95 rfl hl (by decide) rfl (fun ls hl => ?_)
              refine lv_iinc (v := (v29_2 + (-1 : Int32))) (lv' := [(4, .int (v29_2 + (-1 : Int32))), (3, .int v29_2), (5, .int (1 : Int32)), (2, .int v29_2), (0, .ref t), (1, .int wh)]) hx hb dX8_vows_96 hl (k := 5) rfl (xInc_m1 _) (by decide) rfl (fun ls hl => ?_)
              refine lv_goto (tgt := 29) hx hb dX8_vows_99 (by decide) ?_
              exact ih29 v29_2 v29_2 (v29_2 + (-1 : Int32)) H locs ls ⟨hP, hD, hS, lv_sub hl [4, 5, 3, 1, 0] rfl⟩ hF
  · have hF := itP c6 hF
    refine lv_aload_n hx hb dX8_vows_9 rfl (lv_at hl 0 rfl) ?_
    refine lv_ldc (v := -1000000001) hx hb hown (hts _ (tcons _ m185)) dX8_vows_10 ?_
    obtain ⟨u2, e2, hF⟩ := bdS hF
    refine xEndI (xRunV (As := [.int (-1000000001 : Int32)]) (rest := []) hZ (c_X8_error G t row kpt errs bitsOf sizeOf cels broken isFit breaks act wth facts pile trc images mfit known laid hre opnd bad usg trcd isP errs_f (-1000000001 : Int32) u2 e2 l H.size) m193 m194 m195 m5 m196 1 ⟨rfl, hdX8_error⟩ ⟨Nat.le_of_ble_eq_true rfl, Nat.le_of_ble_eq_true rfl⟩ ⟨rfl, rfl⟩ hP hD hS 0 8 rfl rfl rfl [0, 2] rfl rfl rfl hl.1 rfl (Nat.le_of_ble_eq_true rfl) dX8_vows_12 ⟨Nat.zero_le _, Nat.zero_le _⟩) hP hD hS hA [0, 2] rfl rfl rfl (fun H locs n2 hP hD hS => ?_)
    have hP : va_P G.1 vwCl [(t, .inr (8, [.ref row, .ref kpt, .int images, .ref errs, .ref bitsOf, .ref sizeOf, .ref cels, .ref broken, .ref isFit, .ref breaks, .int mfit, .int known, .ref act, .ref wth, .ref facts, .ref pile, .int laid, .int hre, .int opnd, .int bad, .int usg, .ref trc, .int trcd, .int isP])), (row, .inl (xI G, 400, .inl row_f)), (errs, .inl (xI G, 7, .inl u2.2)), (broken, .inl (xJ G, 729, .inr (.inl broken_f))), (isFit, .inl (xZ G, 729, .inl isFit_f)), (breaks, .inl (xI G, 64, .inl breaks_f))] H := hP
    have hD : va_D A [(t, .inr (8, [.ref row, .ref kpt, .int images, .ref errs, .ref bitsOf, .ref sizeOf, .ref cels, .ref broken, .ref isFit, .ref breaks, .int mfit, .int known, .ref act, .ref wth, .ref facts, .ref pile, .int laid, .int hre, .int opnd, .int bad, .int usg, .ref trc, .int trcd, .int isP])), (row, .inl (xI G, 400, .inl row_f)), (errs, .inl (xI G, 7, .inl u2.2)), (broken, .inl (xJ G, 729, .inr (.inl broken_f))), (isFit, .inl (xZ G, 729, .inl isFit_f)), (breaks, .inl (xI G, 64, .inl breaks_f))] := hD
    obtain rfl := Option.some.inj hF
    rw [← hQ]
    exact W.iret (v := u2.1) hx hb hr (fun t ht hW => ⟨⟨_, (), rfl, ⟨rfl, rfl⟩, xLf hP ht⟩, hS.F ht⟩) hS.2.2 dX8_vows_15
def B_X8_parts_24 (errs_f : Nat → Int32) (wh : Int32) (u2 : (Int32 × Int32 × (Nat → Int32) × (Nat → Int32))) (k24 : (Int32 × Int32) → Option (Int32 × Int32 × Int32 × (Nat → Int32) × (Nat → Int32) × (Nat → Int32))) (v24 : (Int32 × Int32)) : Option (Int32 × Int32 × Int32 × (Nat → Int32) × (Nat → Int32) × (Nat → Int32)) := if (64 : Int32) ≤ v24.2 then (if wh = 0 then (some (v24.1, u2.1, u2.2.1, errs_f, u2.2.2.1, u2.2.2.2)) else (bd (F_X8_lesserOf u2.1 u2.2.2.2 v24.1) (fun (u3 : Int32) => some (u3, u2.1, u2.2.1, errs_f, u2.2.2.1, u2.2.2.2)))) else (bd (F_X8_lesserOf u2.1 u2.2.2.2 v24.2) (fun (u3 : Int32) => bd (F_X8_lesserOf u2.1 u2.2.2.2 v24.1) (fun (u4 : Int32) => if u3 ≤ u4 then (k24 (v24.1, (v24.2 + (1 : Int32)))) else (k24 (v24.2, (v24.2 + (1 : Int32)))))))
def F_X8_parts (mfit : Int32) (known : Int32) (row_f : Nat → Int32) (errs_f : Nat → Int32) (broken_f : Nat → Int64) (isFit_f : Nat → Int32) (breaks_f : Nat → Int32) (wh : Int32) : Option (Int32 × Int32 × Int32 × (Nat → Int32) × (Nat → Int32) × (Nat → Int32)) := bd (F_X8_in wh (0 : Int32) (1 : Int32)) (fun (u1 : Int32) => if u1 = 0 then (bd (F_X8_error errs_f (-1000000001 : Int32)) (fun (u2 : (Int32 × (Nat → Int32))) => some (u2.1, mfit, known, u2.2, isFit_f, breaks_f))) else (bd (F_X8_findVows mfit known row_f broken_f isFit_f breaks_f) (fun (u2 : (Int32 × Int32 × (Nat → Int32) × (Nat → Int32))) => lp (B_X8_parts_24 errs_f wh u2) fuelC ((0 : Int32), (1 : Int32)))))
theorem hdX8_parts : yX8_parts.cls ≠ "java/lang/invoke/MethodHandle" ∧ yX8_parts.cls ≠ "java/lang/invoke/VarHandle" ∧ (parseMethodDescriptor yX8_parts.desc).map (fun d => d.parameters.length) = some 1 := by decide +kernel
set_option maxHeartbeats 4000000 in
set_option maxRecDepth 100000 in
theorem c_X8_parts (G : xG) (t : Nat) (row : Nat) (kpt : Nat) (errs : Nat) (bitsOf : Nat) (sizeOf : Nat) (cels : Nat) (broken : Nat) (isFit : Nat) (breaks : Nat) (act : Nat) (wth : Nat) (facts : Nat) (pile : Nat) (trc : Nat) (images : Int32) (mfit : Int32) (known : Int32) (laid : Int32) (hre : Int32) (opnd : Int32) (bad : Int32) (usg : Int32) (trcd : Int32) (isP : Int32) (row_f : Nat → Int32) (errs_f : Nat → Int32) (broken_f : Nat → Int64) (isFit_f : Nat → Int32) (breaks_f : Nat → Int32) (wh : Int32)  (u : (Int32 × Int32 × Int32 × (Nat → Int32) × (Nat → Int32) × (Nat → Int32))) (hF : F_X8_parts mfit known row_f errs_f broken_f isFit_f breaks_f wh = some u) : Ki G .int yX8_parts (Cond.code yX8_parts cX8_parts 4 (some .int) :: TBL) { frames := 3, cells := 0, slots := 0, locals := 67 } [.ref t, .int wh] [(t, .inr (8, [.ref row, .ref kpt, .int images, .ref errs, .ref bitsOf, .ref sizeOf, .ref cels, .ref broken, .ref isFit, .ref breaks, .int mfit, .int known, .ref act, .ref wth, .ref facts, .ref pile, .int laid, .int hre, .int opnd, .int bad, .int usg, .ref trc, .int trcd, .int isP])), (row, .inl (xI G, 400, .inl row_f)), (errs, .inl (xI G, 7, .inl errs_f)), (broken, .inl (xJ G, 729, .inr (.inl broken_f))), (isFit, .inl (xZ G, 729, .inl isFit_f)), (breaks, .inl (xI G, 64, .inl breaks_f))] [(t, .inr (8, [.ref row, .ref kpt, .int images, .ref errs, .ref bitsOf, .ref sizeOf, .ref cels, .ref broken, .ref isFit, .ref breaks, .int u.2.1, .int u.2.2.1, .ref act, .ref wth, .ref facts, .ref pile, .int laid, .int hre, .int opnd, .int bad, .int usg, .ref trc, .int trcd, .int isP])), (row, .inl (xI G, 400, .inl row_f)), (errs, .inl (xI G, 7, .inl u.2.2.2.1)), (broken, .inl (xJ G, 729, .inr (.inl broken_f))), (isFit, .inl (xZ G, 729, .inl u.2.2.2.2.1)), (breaks, .inl (xI G, 64, .inl u.2.2.2.2.2))] u.1 := by
  intro l sz
  refine Met.ofW (cc := cX8_parts) (maxL := 4) (ret := (some .int)) (by decide) rfl ?_
  intro p e s m args below meth c s₁ B hml hv
  obtain ⟨rfl, hsz, hP, hD0, hm⟩ := hv
  have hx := B.exec
  have hb := B.bytes
  have hr := B.returns
  have hts := atoms_spec (ws := Cond.code yX8_parts cX8_parts 4 (some .int) :: TBL) B.pre
  have hown : s.vm.findClass RX8 = some m.cls := findClass_of_methodNamed B.named
  have hlocks := B.notSynchronized
  subst hsz
  have hD := hD0.self (sz := s.heap.size)
  generalize hAe : va_A [(t, .inr (8, [.ref row, .ref kpt, .int images, .ref errs, .ref bitsOf, .ref sizeOf, .ref cels, .ref broken, .ref isFit, .ref breaks, .int mfit, .int known, .ref act, .ref wth, .ref facts, .ref pile, .int laid, .int hre, .int opnd, .int bad, .int usg, .ref trc, .int trcd, .int isP])), (row, .inl (xI G, 400, .inl row_f)), (errs, .inl (xI G, 7, .inl errs_f)), (broken, .inl (xJ G, 729, .inr (.inl broken_f))), (isFit, .inl (xZ G, 729, .inl isFit_f)), (breaks, .inl (xI G, 64, .inl breaks_f))] s.heap.size = A at hD hm ⊢
  have hA : ∀ q : Nat, s.heap.size ≤ q → A q := fun q h => by rw [← hAe]; exact Or.inr h
  have hK := hm.1
  have hZ : xAnd p m c cX8_parts 4 s _ (Cond.code yX8_parts cX8_parts 4 (some .int) :: TBL) RX8 G A := ⟨⟨hx, hb, hml, hown, hts⟩, tcons, hA, hm⟩
  have hP : va_P G.1 vwCl [(t, .inr (8, [.ref row, .ref kpt, .int images, .ref errs, .ref bitsOf, .ref sizeOf, .ref cels, .ref broken, .ref isFit, .ref breaks, .int mfit, .int known, .ref act, .ref wth, .ref facts, .ref pile, .int laid, .int hre, .int opnd, .int bad, .int usg, .ref trc, .int trcd, .int isP])), (row, .inl (xI G, 400, .inl row_f)), (errs, .inl (xI G, 7, .inl errs_f)), (broken, .inl (xJ G, 729, .inr (.inl broken_f))), (isFit, .inl (xZ G, 729, .inl isFit_f)), (breaks, .inl (xI G, 64, .inl breaks_f))] s.heap := hP
  have hl := lv_entry ([.ref t, .int wh]) (n := 4) (Nat.le_of_ble_eq_true rfl)
  rw [lg_entry_eq]
  generalize (lg_sl ([.ref t, .int wh]) ++ List.replicate (4 - (lg_sl ([.ref t, .int wh])).length) Slot.unset).toArray = ls at hl ⊢
  have hl : lv_has ls 4 [(0, .ref t), (1, .int wh)] := hl
  generalize hQ : MQ below _ _ s _ _ _ = Q
  refine xGo (A := A) hP (fun H locs hP hS => ?_)
  unfold F_X8_parts at hF
  refine lv_iload_n hx hb dX8_parts_0 rfl (lv_at hl 1 rfl) ?_
  refine lv_iconst (v := 0) hx hb dX8_parts_1 (by decide) ?_
  refine lv_iconst (v := 1) hx hb dX8_parts_2 (by decide) ?_
  obtain ⟨u1, e1, hF⟩ := bdS hF
  refine xEndI (xRunS (As := [.int wh, .int (0 : Int32), .int (1 : Int32)]) (rest := []) hZ (c_X8_in G wh (0 : Int32) (1 : Int32) u1 e1 l H.size) m190 m191 m5 m192 3 hdX8_in ⟨Nat.le_of_ble_eq_true rfl, Nat.le_of_ble_eq_true rfl⟩ ⟨rfl, rfl⟩ hP hD hS [] rfl rfl rfl hl.1 rfl (Nat.le_of_ble_eq_true rfl) dX8_parts_3 ⟨Nat.zero_le _, Nat.zero_le _⟩) hP hD hS hA [] rfl rfl rfl (fun H locs n1 hP hD hS => ?_)
  have hP : va_P G.1 vwCl [(t, .inr (8, [.ref row, .ref kpt, .int images, .ref errs, .ref bitsOf, .ref sizeOf, .ref cels, .ref broken, .ref isFit, .ref breaks, .int mfit, .int known, .ref act, .ref wth, .ref facts, .ref pile, .int laid, .int hre, .int opnd, .int bad, .int usg, .ref trc, .int trcd, .int isP])), (row, .inl (xI G, 400, .inl row_f)), (errs, .inl (xI G, 7, .inl errs_f)), (broken, .inl (xJ G, 729, .inr (.inl broken_f))), (isFit, .inl (xZ G, 729, .inl isFit_f)), (breaks, .inl (xI G, 64, .inl breaks_f))] H := hP
  have hD : va_D A [(t, .inr (8, [.ref row, .ref kpt, .int images, .ref errs, .ref bitsOf, .ref sizeOf, .ref cels, .ref broken, .ref isFit, .ref breaks, .int mfit, .int known, .ref act, .ref wth, .ref facts, .ref pile, .int laid, .int hre, .int opnd, .int bad, .int usg, .ref trc, .int trcd, .int isP])), (row, .inl (xI G, 400, .inl row_f)), (errs, .inl (xI G, 7, .inl errs_f)), (broken, .inl (xJ G, 729, .inr (.inl broken_f))), (isFit, .inl (xZ G, 729, .inl isFit_f)), (breaks, .inl (xI G, 64, .inl breaks_f))] := hD
  refine lv_if_ne (tgt := 16) hx hb dX8_parts_6 (by decide) (fun c6 => ?_) (fun c6 => ?_)
  · have hF := itN c6 hF
    refine lv_aload_n hx hb dX8_parts_16 rfl (lv_at hl 0 rfl) ?_
    obtain ⟨u2, e2, hF⟩ := bdS hF
    refine xEndV (xRunV (As := []) (rest := []) hZ (c_X8_findVows G t row kpt errs bitsOf sizeOf cels broken isFit breaks act wth facts pile trc images mfit known laid hre opnd bad usg trcd isP row_f broken_f isFit_f breaks_f u2 e2 l H.size) m312 m313 m314 m5 m315 0 ⟨rfl, hdX8_findVows⟩ ⟨Nat.le_of_ble_eq_true rfl, Nat.le_of_ble_eq_true rfl⟩ ⟨rfl, rfl⟩ hP hD hS 0 8 rfl rfl rfl [0, 1, 3, 4, 5] rfl rfl rfl hl.1 rfl (Nat.le_of_ble_eq_true rfl) dX8_parts_17 ⟨Nat.zero_le _, Nat.zero_le _⟩) hP hD hS hA [0, 1, 3, 4, 5] rfl rfl rfl (fun H locs hP hD hS => ?_)
    have hP : va_P G.1 vwCl [(t, .inr (8, [.ref row, .ref kpt, .int images, .ref errs, .ref bitsOf, .ref sizeOf, .ref cels, .ref broken, .ref isFit, .ref breaks, .int u2.1, .int u2.2.1, .ref act, .ref wth, .ref facts, .ref pile, .int laid, .int hre, .int opnd, .int bad, .int usg, .ref trc, .int trcd, .int isP])), (row, .inl (xI G, 400, .inl row_f)), (errs, .inl (xI G, 7, .inl errs_f)), (broken, .inl (xJ G, 729, .inr (.inl broken_f))), (isFit, .inl (xZ G, 729, .inl u2.2.2.1)), (breaks, .inl (xI G, 64, .inl u2.2.2.2))] H := hP
    have hD : va_D A [(t, .inr (8, [.ref row, .ref kpt, .int images, .ref errs, .ref bitsOf, .ref sizeOf, .ref cels, .ref broken, .ref isFit, .ref breaks, .int u2.1, .int u2.2.1, .ref act, .ref wth, .ref facts, .ref pile, .int laid, .int hre, .int opnd, .int bad, .int usg, .ref trc, .int trcd, .int isP])), (row, .inl (xI G, 400, .inl row_f)), (errs, .inl (xI G, 7, .inl errs_f)), (broken, .inl (xJ G, 729, .inr (.inl broken_f))), (isFit, .inl (xZ G, 729, .inl u2.2.2.1)), (breaks, .inl (xI G, 64, .inl u2.2.2.2))] := hD
    refine lv_iconst (v := 0) hx hb dX8_parts_20 (by decide) ?_
    refine lv_istore_n (lv' := [(2, .int (0 : Int32)), (0, .ref t), (1, .int wh)]) hx hb dX8_parts_21 rfl hl (by decide) rfl (fun ls hl => ?_)
    refine lv_iconst (v := 1) hx hb dX8_parts_22 (by decide) ?_
    refine lv_istore_n (lv' := [(3, .int (1 : Int32)), (2, .int (0 : Int32)), (0, .ref t), (1, .int wh)]) hx hb dX8_parts_23 rfl hl (by decide) rfl (fun ls hl => ?_)
    refine xLoop2 (body := (B_X8_parts_24 errs_f wh u2)) (fun (v24_0 : Int32) (v24_1 : Int32) H locs ls => va_P G.1 vwCl [(t, .inr (8, [.ref row, .ref kpt, .int images, .ref errs, .ref bitsOf, .ref sizeOf, .ref cels, .ref broken, .ref isFit, .ref breaks, .int u2.1, .int u2.2.1, .ref act, .ref wth, .ref facts, .ref pile, .int laid, .int hre, .int opnd, .int bad, .int usg, .ref trc, .int trcd, .int isP])), (row, .inl (xI G, 400, .inl row_f)), (errs, .inl (xI G, 7, .inl errs_f)), (broken, .inl (xJ G, 729, .inr (.inl broken_f))), (isFit, .inl (xZ G, 729, .inl u2.2.2.1)), (breaks, .inl (xI G, 64, .inl u2.2.2.2))] H ∧ va_D A [(t, .inr (8, [.ref row, .ref kpt, .int images, .ref errs, .ref bitsOf, .ref sizeOf, .ref cels, .ref broken, .ref isFit, .ref breaks, .int u2.1, .int u2.2.1, .ref act, .ref wth, .ref facts, .ref pile, .int laid, .int hre, .int opnd, .int bad, .int usg, .ref trc, .int trcd, .int isP])), (row, .inl (xI G, 400, .inl row_f)), (errs, .inl (xI G, 7, .inl errs_f)), (broken, .inl (xJ G, 729, .inr (.inl broken_f))), (isFit, .inl (xZ G, 729, .inl u2.2.2.1)), (breaks, .inl (xI G, 64, .inl u2.2.2.2))] ∧ va_S A s.heap H locs ∧ lv_has ls 4 [(0, .ref t), (1, .int wh), (2, .int v24_0), (3, .int v24_1)]) (fun N24 v24_0 v24_1 ih24 H locs ls hI hF => ?_) fuelC (0 : Int32) (1 : Int32) H locs ls ⟨hP, hD, hS, lv_sub hl [2, 3, 1, 0] rfl⟩ hF
    obtain ⟨hP, hD, hS, hl⟩ := hI
    unfold B_X8_parts_24 at hF
    refine lv_iload_n hx hb dX8_parts_24 rfl (lv_at hl 3 rfl) ?_
    refine lv_bipush (v := 64) hx hb dX8_parts_25 (by decide) ?_
    refine lv_icmp_ge (tgt := 55) hx hb dX8_parts_27 (by decide) (fun c27 => ?_) (fun c27 => ?_)
    · have hF := itP c27 hF
      refine lv_iload_n hx hb dX8_parts_55 rfl (lv_at hl 1 rfl) ?_
      refine lv_if_ne (tgt := 63) hx hb dX8_parts_56 (by decide) (fun c56 => ?_) (fun c56 => ?_)
      · have hF := itN c56 hF
        refine lv_aload_n hx hb dX8_parts_63 rfl (lv_at hl 0 rfl) ?_
        refine lv_iload_n hx hb dX8_parts_64 rfl (lv_at hl 2 rfl) ?_
        obtain ⟨u3, e3, hF⟩ := bdS hF
        refine xEndI (xRunV (As := [.int v24_0]) (rest := []) hZ (c_X8_lesserOf G t row kpt errs bitsOf sizeOf cels broken isFit breaks act wth facts pile trc images u2.1 u2.2.1 laid hre opnd bad usg trcd isP u2.2.2.2 v24_0 u3 e3 l H.size) m821 m822 m823 m5 m824 1 ⟨rfl, hdX8_lesserOf⟩ ⟨Nat.le_of_ble_eq_true rfl, Nat.le_of_ble_eq_true rfl⟩ ⟨rfl, rfl⟩ hP hD hS 0 8 rfl rfl rfl [0, 5] rfl rfl rfl hl.1 rfl (Nat.le_of_ble_eq_true rfl) dX8_parts_65 ⟨Nat.zero_le _, Nat.zero_le _⟩) hP hD hS hA [0, 5] rfl rfl rfl (fun H locs n3 hP hD hS => ?_)
        have hP : va_P G.1 vwCl [(t, .inr (8, [.ref row, .ref kpt, .int images, .ref errs, .ref bitsOf, .ref sizeOf, .ref cels, .ref broken, .ref isFit, .ref breaks, .int u2.1, .int u2.2.1, .ref act, .ref wth, .ref facts, .ref pile, .int laid, .int hre, .int opnd, .int bad, .int usg, .ref trc, .int trcd, .int isP])), (row, .inl (xI G, 400, .inl row_f)), (errs, .inl (xI G, 7, .inl errs_f)), (broken, .inl (xJ G, 729, .inr (.inl broken_f))), (isFit, .inl (xZ G, 729, .inl u2.2.2.1)), (breaks, .inl (xI G, 64, .inl u2.2.2.2))] H := hP
        have hD : va_D A [(t, .inr (8, [.ref row, .ref kpt, .int images, .ref errs, .ref bitsOf, .ref sizeOf, .ref cels, .ref broken, .ref isFit, .ref breaks, .int u2.1, .int u2.2.1, .ref act, .ref wth, .ref facts, .ref pile, .int laid, .int hre, .int opnd, .int bad, .int usg, .ref trc, .int trcd, .int isP])), (row, .inl (xI G, 400, .inl row_f)), (errs, .inl (xI G, 7, .inl errs_f)), (broken, .inl (xJ G, 729, .inr (.inl broken_f))), (isFit, .inl (xZ G, 729, .inl u2.2.2.1)), (breaks, .inl (xI G, 64, .inl u2.2.2.2))] := hD
        obtain rfl := Option.some.inj hF
        rw [← hQ]
        exact W.iret (v := u3) hx hb hr (fun t ht hW => ⟨⟨_, (), rfl, ⟨rfl, rfl⟩, xLf hP ht⟩, hS.F ht⟩) hS.2.2 dX8_parts_68
      · have hF := itP c56 hF
        refine lv_iload_n hx hb dX8_parts_59 rfl (lv_at hl 2 rfl) ?_
        refine lv_goto (tgt := 68) hx hb dX8_parts_60 (by decide) ?_
        obtain rfl := Option.some.inj hF
        rw [← hQ]
        exact W.iret (v := v24_0) hx hb hr (fun t ht hW => ⟨⟨_, (), rfl, ⟨rfl, rfl⟩, xLf hP ht⟩, hS.F ht⟩) hS.2.2 dX8_parts_68
    · have hF := itN c27 hF
      refine lv_aload_n hx hb dX8_parts_30 rfl (lv_at hl 0 rfl) ?_
      refine lv_iload_n hx hb dX8_parts_31 rfl (lv_at hl 3 rfl) ?_
      obtain ⟨u3, e3, hF⟩ := bdS hF
      refine xEndI (xRunV (As := [.int v24_1]) (rest := []) hZ (c_X8_lesserOf G t row kpt errs bitsOf sizeOf cels broken isFit breaks act wth facts pile trc images u2.1 u2.2.1 laid hre opnd bad usg trcd isP u2.2.2.2 v24_1 u3 e3 l H.size) m821 m822 m823 m5 m824 1 ⟨rfl, hdX8_lesserOf⟩ ⟨Nat.le_of_ble_eq_true rfl, Nat.le_of_ble_eq_true rfl⟩ ⟨rfl, rfl⟩ hP hD hS 0 8 rfl rfl rfl [0, 5] rfl rfl rfl hl.1 rfl (Nat.le_of_ble_eq_true rfl) dX8_parts_32 ⟨Nat.zero_le _, Nat.zero_le _⟩) hP hD hS hA [0, 5] rfl rfl rfl (fun H locs n3 hP hD hS => ?_)
      have hP : va_P G.1 vwCl [(t, .inr (8, [.ref row, .ref kpt, .int images, .ref errs, .ref bitsOf, .ref sizeOf, .ref cels, .ref broken, .ref isFit, .ref breaks, .int u2.1, .int u2.2.1, .ref act, .ref wth, .ref facts, .ref pile, .int laid, .int hre, .int opnd, .int bad, .int usg, .ref trc, .int trcd, .int isP])), (row, .inl (xI G, 400, .inl row_f)), (errs, .inl (xI G, 7, .inl errs_f)), (broken, .inl (xJ G, 729, .inr (.inl broken_f))), (isFit, .inl (xZ G, 729, .inl u2.2.2.1)), (breaks, .inl (xI G, 64, .inl u2.2.2.2))] H := hP
      have hD : va_D A [(t, .inr (8, [.ref row, .ref kpt, .int images, .ref errs, .ref bitsOf, .ref sizeOf, .ref cels, .ref broken, .ref isFit, .ref breaks, .int u2.1, .int u2.2.1, .ref act, .ref wth, .ref facts, .ref pile, .int laid, .int hre, .int opnd, .int bad, .int usg, .ref trc, .int trcd, .int isP])), (row, .inl (xI G, 400, .inl row_f)), (errs, .inl (xI G, 7, .inl errs_f)), (broken, .inl (xJ G, 729, .inr (.inl broken_f))), (isFit, .inl (xZ G, 729, .inl u2.2.2.1)), (breaks, .inl (xI G, 64, .inl u2.2.2.2))] := hD
      refine lv_aload_n hx hb dX8_parts_35 rfl (lv_at hl 0 rfl) ?_
      refine lv_iload_n hx hb dX8_parts_36 rfl (lv_at hl 2 rfl) ?_
      obtain ⟨u4, e4, hF⟩ := bdS hF
      refine xEndI (xRunV (As := [.int v24_0]) (rest := [.int u3]) hZ (c_X8_lesserOf G t row kpt errs bitsOf sizeOf cels broken isFit breaks act wth facts pile trc images u2.1 u2.2.1 laid hre opnd bad usg trcd isP u2.2.2.2 v24_0 u4 e4 l H.size) m821 m822 m823 m5 m824 1 ⟨rfl, hdX8_lesserOf⟩ ⟨Nat.le_of_ble_eq_true rfl, Nat.le_of_ble_eq_true rfl⟩ ⟨rfl, rfl⟩ hP hD hS 0 8 rfl rfl rfl [0, 5] rfl rfl rfl hl.1 rfl (Nat.le_of_ble_eq_true rfl) dX8_parts_37 ⟨Nat.zero_le _, Nat.zero_le _⟩) hP hD hS hA [0, 5] rfl rfl rfl (fun H locs n4 hP hD hS => ?_)
      have hP : va_P G.1 vwCl [(t, .inr (8, [.ref row, .ref kpt, .int images, .ref errs, .ref bitsOf, .ref sizeOf, .ref cels, .ref broken, .ref isFit, .ref breaks, .int u2.1, .int u2.2.1, .ref act, .ref wth, .ref facts, .ref pile, .int laid, .int hre, .int opnd, .int bad, .int usg, .ref trc, .int trcd, .int isP])), (row, .inl (xI G, 400, .inl row_f)), (errs, .inl (xI G, 7, .inl errs_f)), (broken, .inl (xJ G, 729, .inr (.inl broken_f))), (isFit, .inl (xZ G, 729, .inl u2.2.2.1)), (breaks, .inl (xI G, 64, .inl u2.2.2.2))] H := hP
      have hD : va_D A [(t, .inr (8, [.ref row, .ref kpt, .int images, .ref errs, .ref bitsOf, .ref sizeOf, .ref cels, .ref broken, .ref isFit, .ref breaks, .int u2.1, .int u2.2.1, .ref act, .ref wth, .ref facts, .ref pile, .int laid, .int hre, .int opnd, .int bad, .int usg, .ref trc, .int trcd, .int isP])), (row, .inl (xI G, 400, .inl row_f)), (errs, .inl (xI G, 7, .inl errs_f)), (broken, .inl (xJ G, 729, .inr (.inl broken_f))), (isFit, .inl (xZ G, 729, .inl u2.2.2.1)), (breaks, .inl (xI G, 64, .inl u2.2.2.2))] := hD
      refine lv_icmp_le (tgt := 47) hx hb dX8_parts_40 (by decide) (fun c40 => ?_) (fun c40 => ?_)
      · have hF := itP c40 hF
        refine lv_iload_n hx hb dX8_parts_47 rfl (lv_at hl 2 rfl) ?_
        refine lv_istore_n (lv' := [(2, .int v24_0), (0, .ref t), (1, .int wh), (3, .int v24_1)]) hx hb dX8_parts_48 rfl hl (by decide) rfl (fun ls hl => ?_)
        refine lv_iinc (v := (v24_1 + (1 : Int32))) (lv' := [(3, .int (v24_1 + (1 : Int32))), (2, .int v24_0), (0, .ref t), (1, .int wh)]) hx hb dX8_parts_49 hl (k := 3) rfl (xInc_1 _) (by decide) rfl (fun ls hl => ?_)
        refine lv_goto (tgt := 24) hx hb dX8_parts_52 (by decide) ?_
        exact ih24 v24_0 (v24_1 + (1 : Int32)) H locs ls ⟨hP, hD, hS, lv_sub hl [2, 3, 1, 0] rfl⟩ hF
      · have hF := itN c40 hF
        refine lv_iload_n hx hb dX8_parts_43 rfl (lv_at hl 3 rfl) ?_
        refine lv_goto (tgt := 48) hx hb dX8_parts_44 (by decide) ?_
        refine lv_istore_n (lv' := [(2, .int v24_1), (0, .ref t), (1, .int wh), (3, .int v24_1)]) hx hb dX8_parts_48 rfl hl (by decide) rfl (fun ls hl => ?_)
        refine lv_iinc (v := (v24_1 + (1 : Int32))) (lv' := [(3, .int (v24_1 + (1 : Int32))), (2, .int v24_1), (0, .ref t), (1, .int wh)]) hx hb dX8_parts_49 hl (k := 3) rfl (xInc_1 _) (by decide) rfl (fun ls hl => ?_)
        refine lv_goto (tgt := 24) hx hb dX8_parts_52 (by decide) ?_
        exact ih24 v24_1 (v24_1 + (1 : Int32)) H locs ls ⟨hP, hD, hS, lv_sub hl [2, 3, 1, 0] rfl⟩ hF
  · have hF := itP c6 hF
    refine lv_aload_n hx hb dX8_parts_9 rfl (lv_at hl 0 rfl) ?_
    refine lv_ldc (v := -1000000001) hx hb hown (hts _ (tcons _ m185)) dX8_parts_10 ?_
    obtain ⟨u2, e2, hF⟩ := bdS hF
    refine xEndI (xRunV (As := [.int (-1000000001 : Int32)]) (rest := []) hZ (c_X8_error G t row kpt errs bitsOf sizeOf cels broken isFit breaks act wth facts pile trc images mfit known laid hre opnd bad usg trcd isP errs_f (-1000000001 : Int32) u2 e2 l H.size) m193 m194 m195 m5 m196 1 ⟨rfl, hdX8_error⟩ ⟨Nat.le_of_ble_eq_true rfl, Nat.le_of_ble_eq_true rfl⟩ ⟨rfl, rfl⟩ hP hD hS 0 8 rfl rfl rfl [0, 2] rfl rfl rfl hl.1 rfl (Nat.le_of_ble_eq_true rfl) dX8_parts_12 ⟨Nat.zero_le _, Nat.zero_le _⟩) hP hD hS hA [0, 2] rfl rfl rfl (fun H locs n2 hP hD hS => ?_)
    have hP : va_P G.1 vwCl [(t, .inr (8, [.ref row, .ref kpt, .int images, .ref errs, .ref bitsOf, .ref sizeOf, .ref cels, .ref broken, .ref isFit, .ref breaks, .int mfit, .int known, .ref act, .ref wth, .ref facts, .ref pile, .int laid, .int hre, .int opnd, .int bad, .int usg, .ref trc, .int trcd, .int isP])), (row, .inl (xI G, 400, .inl row_f)), (errs, .inl (xI G, 7, .inl u2.2)), (broken, .inl (xJ G, 729, .inr (.inl broken_f))), (isFit, .inl (xZ G, 729, .inl isFit_f)), (breaks, .inl (xI G, 64, .inl breaks_f))] H := hP
    have hD : va_D A [(t, .inr (8, [.ref row, .ref kpt, .int images, .ref errs, .ref bitsOf, .ref sizeOf, .ref cels, .ref broken, .ref isFit, .ref breaks, .int mfit, .int known, .ref act, .ref wth, .ref facts, .ref pile, .int laid, .int hre, .int opnd, .int bad, .int usg, .ref trc, .int trcd, .int isP])), (row, .inl (xI G, 400, .inl row_f)), (errs, .inl (xI G, 7, .inl u2.2)), (broken, .inl (xJ G, 729, .inr (.inl broken_f))), (isFit, .inl (xZ G, 729, .inl isFit_f)), (breaks, .inl (xI G, 64, .inl breaks_f))] := hD
    obtain rfl := Option.some.inj hF
    rw [← hQ]
    exact W.iret (v := u2.1) hx hb hr (fun t ht hW => ⟨⟨_, (), rfl, ⟨rfl, rfl⟩, xLf hP ht⟩, hS.F ht⟩) hS.2.2 dX8_parts_15
def B_X8_sure_20 (errs_f : Nat → Int32) (bi : Int32) (u2 : (Int32 × Int32 × (Nat → Int32) × (Nat → Int32))) (k20 : (Int32) → Option (Int32 × Int32 × Int32 × (Nat → Int32) × (Nat → Int32) × (Nat → Int32))) (v20 : (Int32)) : Option (Int32 × Int32 × Int32 × (Nat → Int32) × (Nat → Int32) × (Nat → Int32)) := if (64 : Int32) ≤ v20 then (bd (F_X8_error errs_f (-1000000002 : Int32)) (fun (u3 : (Int32 × (Nat → Int32))) => some (u3.1, u2.1, u2.2.1, u3.2, u2.2.2.1, u2.2.2.2))) else (if (v20 &&& bi) = bi then (if (v20 < 0 ∨ 64 ≤ v20.toNatClampNeg) then none else (if (u2.2.2.2 v20.toNatClampNeg) = 0 then (some (v20, u2.1, u2.2.1, errs_f, u2.2.2.1, u2.2.2.2)) else (k20 (v20 + (1 : Int32))))) else (k20 (v20 + (1 : Int32))))
def F_X8_sure (mfit : Int32) (known : Int32) (row_f : Nat → Int32) (errs_f : Nat → Int32) (broken_f : Nat → Int64) (isFit_f : Nat → Int32) (breaks_f : Nat → Int32) (bi : Int32) : Option (Int32 × Int32 × Int32 × (Nat → Int32) × (Nat → Int32) × (Nat → Int32)) := bd (F_X8_isSaying bi) (fun (u1 : Int32) => if u1 = 0 then (bd (F_X8_error errs_f (-1000000001 : Int32)) (fun (u2 : (Int32 × (Nat → Int32))) => some (u2.1, mfit, known, u2.2, isFit_f, breaks_f))) else (bd (F_X8_findVows mfit known row_f broken_f isFit_f breaks_f) (fun (u2 : (Int32 × Int32 × (Nat → Int32) × (Nat → Int32))) => lp (B_X8_sure_20 errs_f bi u2) fuelC bi)))
theorem hdX8_sure : yX8_sure.cls ≠ "java/lang/invoke/MethodHandle" ∧ yX8_sure.cls ≠ "java/lang/invoke/VarHandle" ∧ (parseMethodDescriptor yX8_sure.desc).map (fun d => d.parameters.length) = some 1 := by decide +kernel
set_option maxHeartbeats 4000000 in
set_option maxRecDepth 100000 in
theorem c_X8_sure (G : xG) (t : Nat) (row : Nat) (kpt : Nat) (errs : Nat) (bitsOf : Nat) (sizeOf : Nat) (cels : Nat) (broken : Nat) (isFit : Nat) (breaks : Nat) (act : Nat) (wth : Nat) (facts : Nat) (pile : Nat) (trc : Nat) (images : Int32) (mfit : Int32) (known : Int32) (laid : Int32) (hre : Int32) (opnd : Int32) (bad : Int32) (usg : Int32) (trcd : Int32) (isP : Int32) (row_f : Nat → Int32) (errs_f : Nat → Int32) (broken_f : Nat → Int64) (isFit_f : Nat → Int32) (breaks_f : Nat → Int32) (bi : Int32)  (u : (Int32 × Int32 × Int32 × (Nat → Int32) × (Nat → Int32) × (Nat → Int32))) (hF : F_X8_sure mfit known row_f errs_f broken_f isFit_f breaks_f bi = some u) : Ki G .int yX8_sure (Cond.code yX8_sure cX8_sure 3 (some .int) :: TBL) { frames := 3, cells := 0, slots := 0, locals := 67 } [.ref t, .int bi] [(t, .inr (8, [.ref row, .ref kpt, .int images, .ref errs, .ref bitsOf, .ref sizeOf, .ref cels, .ref broken, .ref isFit, .ref breaks, .int mfit, .int known, .ref act, .ref wth, .ref facts, .ref pile, .int laid, .int hre, .int opnd, .int bad, .int usg, .ref trc, .int trcd, .int isP])), (row, .inl (xI G, 400, .inl row_f)), (errs, .inl (xI G, 7, .inl errs_f)), (broken, .inl (xJ G, 729, .inr (.inl broken_f))), (isFit, .inl (xZ G, 729, .inl isFit_f)), (breaks, .inl (xI G, 64, .inl breaks_f))] [(t, .inr (8, [.ref row, .ref kpt, .int images, .ref errs, .ref bitsOf, .ref sizeOf, .ref cels, .ref broken, .ref isFit, .ref breaks, .int u.2.1, .int u.2.2.1, .ref act, .ref wth, .ref facts, .ref pile, .int laid, .int hre, .int opnd, .int bad, .int usg, .ref trc, .int trcd, .int isP])), (row, .inl (xI G, 400, .inl row_f)), (errs, .inl (xI G, 7, .inl u.2.2.2.1)), (broken, .inl (xJ G, 729, .inr (.inl broken_f))), (isFit, .inl (xZ G, 729, .inl u.2.2.2.2.1)), (breaks, .inl (xI G, 64, .inl u.2.2.2.2.2))] u.1 := by
  intro l sz
  refine Met.ofW (cc := cX8_sure) (maxL := 3) (ret := (some .int)) (by decide) rfl ?_
  intro p e s m args below meth c s₁ B hml hv
  obtain ⟨rfl, hsz, hP, hD0, hm⟩ := hv
  have hx := B.exec
  have hb := B.bytes
  have hr := B.returns
  have hts := atoms_spec (ws := Cond.code yX8_sure cX8_sure 3 (some .int) :: TBL) B.pre
  have hown : s.vm.findClass RX8 = some m.cls := findClass_of_methodNamed B.named
  have hlocks := B.notSynchronized
  subst hsz
  have hD := hD0.self (sz := s.heap.size)
  generalize hAe : va_A [(t, .inr (8, [.ref row, .ref kpt, .int images, .ref errs, .ref bitsOf, .ref sizeOf, .ref cels, .ref broken, .ref isFit, .ref breaks, .int mfit, .int known, .ref act, .ref wth, .ref facts, .ref pile, .int laid, .int hre, .int opnd, .int bad, .int usg, .ref trc, .int trcd, .int isP])), (row, .inl (xI G, 400, .inl row_f)), (errs, .inl (xI G, 7, .inl errs_f)), (broken, .inl (xJ G, 729, .inr (.inl broken_f))), (isFit, .inl (xZ G, 729, .inl isFit_f)), (breaks, .inl (xI G, 64, .inl breaks_f))] s.heap.size = A at hD hm ⊢
  have hA : ∀ q : Nat, s.heap.size ≤ q → A q := fun q h => by rw [← hAe]; exact Or.inr h
  have hK := hm.1
  have hZ : xAnd p m c cX8_sure 3 s _ (Cond.code yX8_sure cX8_sure 3 (some .int) :: TBL) RX8 G A := ⟨⟨hx, hb, hml, hown, hts⟩, tcons, hA, hm⟩
  have hP : va_P G.1 vwCl [(t, .inr (8, [.ref row, .ref kpt, .int images, .ref errs, .ref bitsOf, .ref sizeOf, .ref cels, .ref broken, .ref isFit, .ref breaks, .int mfit, .int known, .ref act, .ref wth, .ref facts, .ref pile, .int laid, .int hre, .int opnd, .int bad, .int usg, .ref trc, .int trcd, .int isP])), (row, .inl (xI G, 400, .inl row_f)), (errs, .inl (xI G, 7, .inl errs_f)), (broken, .inl (xJ G, 729, .inr (.inl broken_f))), (isFit, .inl (xZ G, 729, .inl isFit_f)), (breaks, .inl (xI G, 64, .inl breaks_f))] s.heap := hP
  have hl := lv_entry ([.ref t, .int bi]) (n := 3) (Nat.le_of_ble_eq_true rfl)
  rw [lg_entry_eq]
  generalize (lg_sl ([.ref t, .int bi]) ++ List.replicate (3 - (lg_sl ([.ref t, .int bi])).length) Slot.unset).toArray = ls at hl ⊢
  have hl : lv_has ls 3 [(0, .ref t), (1, .int bi)] := hl
  generalize hQ : MQ below _ _ s _ _ _ = Q
  refine xGo (A := A) hP (fun H locs hP hS => ?_)
  unfold F_X8_sure at hF
  refine lv_iload_n hx hb dX8_sure_0 rfl (lv_at hl 1 rfl) ?_
  obtain ⟨u1, e1, hF⟩ := bdS hF
  refine xEndI (xRunS (As := [.int bi]) (rest := []) hZ (c_X8_isSaying G bi u1 e1 l H.size) m380 m381 m5 m382 1 hdX8_isSaying ⟨Nat.le_of_ble_eq_true rfl, Nat.le_of_ble_eq_true rfl⟩ ⟨rfl, rfl⟩ hP hD hS [] rfl rfl rfl hl.1 rfl (Nat.le_of_ble_eq_true rfl) dX8_sure_1 ⟨Nat.zero_le _, Nat.zero_le _⟩) hP hD hS hA [] rfl rfl rfl (fun H locs n1 hP hD hS => ?_)
  have hP : va_P G.1 vwCl [(t, .inr (8, [.ref row, .ref kpt, .int images, .ref errs, .ref bitsOf, .ref sizeOf, .ref cels, .ref broken, .ref isFit, .ref breaks, .int mfit, .int known, .ref act, .ref wth, .ref facts, .ref pile, .int laid, .int hre, .int opnd, .int bad, .int usg, .ref trc, .int trcd, .int isP])), (row, .inl (xI G, 400, .inl row_f)), (errs, .inl (xI G, 7, .inl errs_f)), (broken, .inl (xJ G, 729, .inr (.inl broken_f))), (isFit, .inl (xZ G, 729, .inl isFit_f)), (breaks, .inl (xI G, 64, .inl breaks_f))] H := hP
  have hD : va_D A [(t, .inr (8, [.ref row, .ref kpt, .int images, .ref errs, .ref bitsOf, .ref sizeOf, .ref cels, .ref broken, .ref isFit, .ref breaks, .int mfit, .int known, .ref act, .ref wth, .ref facts, .ref pile, .int laid, .int hre, .int opnd, .int bad, .int usg, .ref trc, .int trcd, .int isP])), (row, .inl (xI G, 400, .inl row_f)), (errs, .inl (xI G, 7, .inl errs_f)), (broken, .inl (xJ G, 729, .inr (.inl broken_f))), (isFit, .inl (xZ G, 729, .inl isFit_f)), (breaks, .inl (xI G, 64, .inl breaks_f))] := hD
  refine lv_if_ne (tgt := 14) hx hb dX8_sure_4 (by decide) (fun c4 => ?_) (fun c4 => ?_)
  · have hF := itN c4 hF
    refine lv_aload_n hx hb dX8_sure_14 rfl (lv_at hl 0 rfl) ?_
    obtain ⟨u2, e2, hF⟩ := bdS hF
    refine xEndV (xRunV (As := []) (rest := []) hZ (c_X8_findVows G t row kpt errs bitsOf sizeOf cels broken isFit breaks act wth facts pile trc images mfit known laid hre opnd bad usg trcd isP row_f broken_f isFit_f breaks_f u2 e2 l H.size) m312 m313 m314 m5 m315 0 ⟨rfl, hdX8_findVows⟩ ⟨Nat.le_of_ble_eq_true rfl, Nat.le_of_ble_eq_true rfl⟩ ⟨rfl, rfl⟩ hP hD hS 0 8 rfl rfl rfl [0, 1, 3, 4, 5] rfl rfl rfl hl.1 rfl (Nat.le_of_ble_eq_true rfl) dX8_sure_15 ⟨Nat.zero_le _, Nat.zero_le _⟩) hP hD hS hA [0, 1, 3, 4, 5] rfl rfl rfl (fun H locs hP hD hS => ?_)
    have hP : va_P G.1 vwCl [(t, .inr (8, [.ref row, .ref kpt, .int images, .ref errs, .ref bitsOf, .ref sizeOf, .ref cels, .ref broken, .ref isFit, .ref breaks, .int u2.1, .int u2.2.1, .ref act, .ref wth, .ref facts, .ref pile, .int laid, .int hre, .int opnd, .int bad, .int usg, .ref trc, .int trcd, .int isP])), (row, .inl (xI G, 400, .inl row_f)), (errs, .inl (xI G, 7, .inl errs_f)), (broken, .inl (xJ G, 729, .inr (.inl broken_f))), (isFit, .inl (xZ G, 729, .inl u2.2.2.1)), (breaks, .inl (xI G, 64, .inl u2.2.2.2))] H := hP
    have hD : va_D A [(t, .inr (8, [.ref row, .ref kpt, .int images, .ref errs, .ref bitsOf, .ref sizeOf, .ref cels, .ref broken, .ref isFit, .ref breaks, .int u2.1, .int u2.2.1, .ref act, .ref wth, .ref facts, .ref pile, .int laid, .int hre, .int opnd, .int bad, .int usg, .ref trc, .int trcd, .int isP])), (row, .inl (xI G, 400, .inl row_f)), (errs, .inl (xI G, 7, .inl errs_f)), (broken, .inl (xJ G, 729, .inr (.inl broken_f))), (isFit, .inl (xZ G, 729, .inl u2.2.2.1)), (breaks, .inl (xI G, 64, .inl u2.2.2.2))] := hD
    refine lv_iload_n hx hb dX8_sure_18 rfl (lv_at hl 1 rfl) ?_
    refine lv_istore_n (lv' := [(2, .int bi), (0, .ref t), (1, .int bi)]) hx hb dX8_sure_19 rfl hl (by decide) rfl (fun ls hl => ?_)
    refine xLoop1 (body := (B_X8_sure_20 errs_f bi u2)) (fun (v20_0 : Int32) H locs ls => va_P G.1 vwCl [(t, .inr (8, [.ref row, .ref kpt, .int images, .ref errs, .ref bitsOf, .ref sizeOf, .ref cels, .ref broken, .ref isFit, .ref breaks, .int u2.1, .int u2.2.1, .ref act, .ref wth, .ref facts, .ref pile, .int laid, .int hre, .int opnd, .int bad, .int usg, .ref trc, .int trcd, .int isP])), (row, .inl (xI G, 400, .inl row_f)), (errs, .inl (xI G, 7, .inl errs_f)), (broken, .inl (xJ G, 729, .inr (.inl broken_f))), (isFit, .inl (xZ G, 729, .inl u2.2.2.1)), (breaks, .inl (xI G, 64, .inl u2.2.2.2))] H ∧ va_D A [(t, .inr (8, [.ref row, .ref kpt, .int images, .ref errs, .ref bitsOf, .ref sizeOf, .ref cels, .ref broken, .ref isFit, .ref breaks, .int u2.1, .int u2.2.1, .ref act, .ref wth, .ref facts, .ref pile, .int laid, .int hre, .int opnd, .int bad, .int usg, .ref trc, .int trcd, .int isP])), (row, .inl (xI G, 400, .inl row_f)), (errs, .inl (xI G, 7, .inl errs_f)), (broken, .inl (xJ G, 729, .inr (.inl broken_f))), (isFit, .inl (xZ G, 729, .inl u2.2.2.1)), (breaks, .inl (xI G, 64, .inl u2.2.2.2))] ∧ va_S A s.heap H locs ∧ lv_has ls 3 [(0, .ref t), (1, .int bi), (2, .int v20_0)]) (fun N20 v20_0 ih20 H locs ls hI hF => ?_) fuelC bi H locs ls ⟨hP, hD, hS, lv_sub hl [1, 2, 0] rfl⟩ hF
    obtain ⟨hP, hD, hS, hl⟩ := hI
    unfold B_X8_sure_20 at hF
    refine lv_iload_n hx hb dX8_sure_20 rfl (lv_at hl 2 rfl) ?_
    refine lv_bipush (v := 64) hx hb dX8_sure_21 (by decide) ?_
    refine lv_icmp_ge (tgt := 50) hx hb dX8_sure_23 (by decide) (fun c23 => ?_) (fun c23 => ?_)
    · have hF := itP c23 hF
      refine lv_aload_n hx hb dX8_sure_50 rfl (lv_at hl 0 rfl) ?_
      refine lv_ldc (v := -1000000002) hx hb hown (hts _ (tcons _ m805)) dX8_sure_51 ?_
      obtain ⟨u3, e3, hF⟩ := bdS hF
      refine xEndI (xRunV (As := [.int (-1000000002 : Int32)]) (rest := []) hZ (c_X8_error G t row kpt errs bitsOf sizeOf cels broken isFit breaks act wth facts pile trc images u2.1 u2.2.1 laid hre opnd bad usg trcd isP errs_f (-1000000002 : Int32) u3 e3 l H.size) m193 m194 m195 m5 m196 1 ⟨rfl, hdX8_error⟩ ⟨Nat.le_of_ble_eq_true rfl, Nat.le_of_ble_eq_true rfl⟩ ⟨rfl, rfl⟩ hP hD hS 0 8 rfl rfl rfl [0, 2] rfl rfl rfl hl.1 rfl (Nat.le_of_ble_eq_true rfl) dX8_sure_53 ⟨Nat.zero_le _, Nat.zero_le _⟩) hP hD hS hA [0, 2] rfl rfl rfl (fun H locs n3 hP hD hS => ?_)
      have hP : va_P G.1 vwCl [(t, .inr (8, [.ref row, .ref kpt, .int images, .ref errs, .ref bitsOf, .ref sizeOf, .ref cels, .ref broken, .ref isFit, .ref breaks, .int u2.1, .int u2.2.1, .ref act, .ref wth, .ref facts, .ref pile, .int laid, .int hre, .int opnd, .int bad, .int usg, .ref trc, .int trcd, .int isP])), (row, .inl (xI G, 400, .inl row_f)), (errs, .inl (xI G, 7, .inl u3.2)), (broken, .inl (xJ G, 729, .inr (.inl broken_f))), (isFit, .inl (xZ G, 729, .inl u2.2.2.1)), (breaks, .inl (xI G, 64, .inl u2.2.2.2))] H := hP
      have hD : va_D A [(t, .inr (8, [.ref row, .ref kpt, .int images, .ref errs, .ref bitsOf, .ref sizeOf, .ref cels, .ref broken, .ref isFit, .ref breaks, .int u2.1, .int u2.2.1, .ref act, .ref wth, .ref facts, .ref pile, .int laid, .int hre, .int opnd, .int bad, .int usg, .ref trc, .int trcd, .int isP])), (row, .inl (xI G, 400, .inl row_f)), (errs, .inl (xI G, 7, .inl u3.2)), (broken, .inl (xJ G, 729, .inr (.inl broken_f))), (isFit, .inl (xZ G, 729, .inl u2.2.2.1)), (breaks, .inl (xI G, 64, .inl u2.2.2.2))] := hD
      obtain rfl := Option.some.inj hF
      rw [← hQ]
      exact W.iret (v := u3.1) hx hb hr (fun t ht hW => ⟨⟨_, (), rfl, ⟨rfl, rfl⟩, xLf hP ht⟩, hS.F ht⟩) hS.2.2 dX8_sure_56
    · have hF := itN c23 hF
      refine lv_iload_n hx hb dX8_sure_26 rfl (lv_at hl 2 rfl) ?_
      refine lv_iload_n hx hb dX8_sure_27 rfl (lv_at hl 1 rfl) ?_
      refine lv_iand hx hb dX8_sure_28 ?_
      refine lv_iload_n hx hb dX8_sure_29 rfl (lv_at hl 1 rfl) ?_
      refine lv_icmp_ne (tgt := 44) hx hb dX8_sure_30 (by decide) (fun c30 => ?_) (fun c30 => ?_)
      · have hF := itN c30 hF
        refine lv_iinc (v := (v20_0 + (1 : Int32))) (lv' := [(2, .int (v20_0 + (1 : Int32))), (0, .ref t), (1, .int bi)]) hx hb dX8_sure_44 hl (k := 2) rfl (xInc_1 _) (by decide) rfl (fun ls hl => ?_)
        refine lv_goto (tgt := 20) hx hb dX8_sure_47 (by decide) ?_
        exact ih20 (v20_0 + (1 : Int32)) H locs ls ⟨hP, hD, hS, lv_sub hl [1, 2, 0] rfl⟩ hF
      · have hF := itP c30 hF
        refine lv_aload_n hx hb dX8_sure_33 rfl (lv_at hl 0 rfl) ?_
        refine va_get (ci := 8) (v := .ref breaks) (C := RX8) (T := TX8) (N := 24) hx hb hts (fun w h => tcons w (xin8 w h)) hown hK hP 0 rfl rfl 9 (by decide) (hts _ (tcons _ m145)) (fun _ h9 => h9) rfl dX8_sure_34 ?_
        refine lv_iload_n hx hb dX8_sure_37 rfl (lv_at hl 2 rfl) ?_
        obtain ⟨g38, hF⟩ := gdS hF
        refine va_iald hx hb hK hP 5 0 rfl rfl g38 dX8_sure_38 ?_
        refine lv_if_ne (tgt := 44) hx hb dX8_sure_39 (by decide) (fun c39 => ?_) (fun c39 => ?_)
        · have hF := itN c39 hF
          refine lv_iinc (v := (v20_0 + (1 : Int32))) (lv' := [(2, .int (v20_0 + (1 : Int32))), (0, .ref t), (1, .int bi)]) hx hb dX8_sure_44 hl (k := 2) rfl (xInc_1 _) (by decide) rfl (fun ls hl => ?_)
          refine lv_goto (tgt := 20) hx hb dX8_sure_47 (by decide) ?_
          exact ih20 (v20_0 + (1 : Int32)) H locs ls ⟨hP, hD, hS, lv_sub hl [1, 2, 0] rfl⟩ hF
        · have hF := itP c39 hF
          refine lv_iload_n hx hb dX8_sure_42 rfl (lv_at hl 2 rfl) ?_
          obtain rfl := Option.some.inj hF
          rw [← hQ]
          exact W.iret (v := v20_0) hx hb hr (fun t ht hW => ⟨⟨_, (), rfl, ⟨rfl, rfl⟩, xLf hP ht⟩, hS.F ht⟩) hS.2.2 dX8_sure_43
  · have hF := itP c4 hF
    refine lv_aload_n hx hb dX8_sure_7 rfl (lv_at hl 0 rfl) ?_
    refine lv_ldc (v := -1000000001) hx hb hown (hts _ (tcons _ m185)) dX8_sure_8 ?_
    obtain ⟨u2, e2, hF⟩ := bdS hF
    refine xEndI (xRunV (As := [.int (-1000000001 : Int32)]) (rest := []) hZ (c_X8_error G t row kpt errs bitsOf sizeOf cels broken isFit breaks act wth facts pile trc images mfit known laid hre opnd bad usg trcd isP errs_f (-1000000001 : Int32) u2 e2 l H.size) m193 m194 m195 m5 m196 1 ⟨rfl, hdX8_error⟩ ⟨Nat.le_of_ble_eq_true rfl, Nat.le_of_ble_eq_true rfl⟩ ⟨rfl, rfl⟩ hP hD hS 0 8 rfl rfl rfl [0, 2] rfl rfl rfl hl.1 rfl (Nat.le_of_ble_eq_true rfl) dX8_sure_10 ⟨Nat.zero_le _, Nat.zero_le _⟩) hP hD hS hA [0, 2] rfl rfl rfl (fun H locs n2 hP hD hS => ?_)
    have hP : va_P G.1 vwCl [(t, .inr (8, [.ref row, .ref kpt, .int images, .ref errs, .ref bitsOf, .ref sizeOf, .ref cels, .ref broken, .ref isFit, .ref breaks, .int mfit, .int known, .ref act, .ref wth, .ref facts, .ref pile, .int laid, .int hre, .int opnd, .int bad, .int usg, .ref trc, .int trcd, .int isP])), (row, .inl (xI G, 400, .inl row_f)), (errs, .inl (xI G, 7, .inl u2.2)), (broken, .inl (xJ G, 729, .inr (.inl broken_f))), (isFit, .inl (xZ G, 729, .inl isFit_f)), (breaks, .inl (xI G, 64, .inl breaks_f))] H := hP
    have hD : va_D A [(t, .inr (8, [.ref row, .ref kpt, .int images, .ref errs, .ref bitsOf, .ref sizeOf, .ref cels, .ref broken, .ref isFit, .ref breaks, .int mfit, .int known, .ref act, .ref wth, .ref facts, .ref pile, .int laid, .int hre, .int opnd, .int bad, .int usg, .ref trc, .int trcd, .int isP])), (row, .inl (xI G, 400, .inl row_f)), (errs, .inl (xI G, 7, .inl u2.2)), (broken, .inl (xJ G, 729, .inr (.inl broken_f))), (isFit, .inl (xZ G, 729, .inl isFit_f)), (breaks, .inl (xI G, 64, .inl breaks_f))] := hD
    obtain rfl := Option.some.inj hF
    rw [← hQ]
    exact W.iret (v := u2.1) hx hb hr (fun t ht hW => ⟨⟨_, (), rfl, ⟨rfl, rfl⟩, xLf hP ht⟩, hS.F ht⟩) hS.2.2 dX8_sure_13
