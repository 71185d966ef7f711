def B_X8_isBroken_7 (sa : Int32) (k7 : (Int32 × Int32 × Int32) → Option Int32) (v7 : (Int32 × Int32 × Int32)) : Option Int32 := if (6 : Int32) ≤ v7.2.2 then (if v7.2.1 &&& 1 = v7.2.1 then (some v7.2.1) else none) else (if v7.2.1 = 0 then (k7 ((v7.1 / (3 : Int32)), (0 : Int32), (v7.2.2 + (1 : Int32)))) else (if (v7.1 - v7.1 / (3 : Int32) * (3 : Int32)) = (2 : Int32) then (k7 ((v7.1 / (3 : Int32)), (1 : Int32), (v7.2.2 + (1 : Int32)))) else (if (v7.1 - v7.1 / (3 : Int32) * (3 : Int32)) = ((sa >>> (v7.2.2 &&& 31)) &&& (1 : Int32)) then (k7 ((v7.1 / (3 : Int32)), (1 : Int32), (v7.2.2 + (1 : Int32)))) else (k7 ((v7.1 / (3 : Int32)), (0 : Int32), (v7.2.2 + (1 : Int32)))))))
def F_X8_isBroken (vo : Int32) (sa : Int32) : Option Int32 := lp (B_X8_isBroken_7 sa) fuelC (vo, (1 : Int32), (0 : Int32))
theorem hdX8_isBroken : yX8_isBroken.cls ≠ "java/lang/invoke/MethodHandle" ∧ yX8_isBroken.cls ≠ "java/lang/invoke/VarHandle" ∧ (parseMethodDescriptor yX8_isBroken.desc).map (fun d => d.parameters.length) = some 2 := by decide +kernel
set_option maxHeartbeats 4000000 in
set_option maxRecDepth 100000 in
theorem c_X8_isBroken (G : xG) (vo : Int32) (sa : Int32)  (u : Int32) (hF : F_X8_isBroken vo sa = some u) : Ki G .boolean yX8_isBroken (Cond.code yX8_isBroken cX8_isBroken 5 (some .boolean) :: TBL) { frames := 0, cells := 0, slots := 0, locals := 0 } [.int vo, .int sa] [] [] u := by
  intro l sz
  refine Met.ofW (cc := cX8_isBroken) (maxL := 5) (ret := (some .boolean)) (by decide) rfl ?_
  intro p e s m args below meth c s₁ B hml hv
  obtain ⟨rfl, hsz, hP, hD0, hm⟩ := hv
  have hx := B.exec
  have hb := B.bytes
  have hr := B.returns
  have hts := atoms_spec (ws := Cond.code yX8_isBroken cX8_isBroken 5 (some .boolean) :: TBL) B.pre
  have hown : s.vm.findClass RX8 = some m.cls := findClass_of_methodNamed B.named
  have hlocks := B.notSynchronized
  subst hsz
  have hD := hD0.self (sz := s.heap.size)
  generalize hAe : va_A [] s.heap.size = A at hD hm ⊢
  have hA : ∀ q : Nat, s.heap.size ≤ q → A q := fun q h => by rw [← hAe]; exact Or.inr h
  have hK := hm.1
  have hZ : xAnd p m c cX8_isBroken 5 s _ (Cond.code yX8_isBroken cX8_isBroken 5 (some .boolean) :: TBL) RX8 G A := ⟨⟨hx, hb, hml, hown, hts⟩, tcons, hA, hm⟩
  have hP : va_P G.1 vwCl [] s.heap := hP
  have hl := lv_entry ([.int vo, .int sa]) (n := 5) (Nat.le_of_ble_eq_true rfl)
  rw [lg_entry_eq]
  generalize (lg_sl ([.int vo, .int sa]) ++ List.replicate (5 - (lg_sl ([.int vo, .int sa])).length) Slot.unset).toArray = ls at hl ⊢
  have hl : lv_has ls 5 [(0, .int vo), (1, .int sa)] := hl
  generalize hQ : MQ below _ _ s _ _ _ = Q
  refine xGo (A := A) hP (fun H locs hP hS => ?_)
  unfold F_X8_isBroken at hF
  refine lv_iload_n hx hb dX8_isBroken_0 rfl (lv_at hl 0 rfl) ?_
  refine lv_istore_n (lv' := [(2, .int vo), (0, .int vo), (1, .int sa)]) hx hb dX8_isBroken_1 rfl hl (by decide) rfl (fun ls hl => ?_)
  refine lv_iconst (v := 1) hx hb dX8_isBroken_2 (by decide) ?_
  refine lv_istore_n (lv' := [(3, .int (1 : Int32)), (2, .int vo), (0, .int vo), (1, .int sa)]) hx hb dX8_isBroken_3 rfl hl (by decide) rfl (fun ls hl => ?_)
  refine lv_iconst (v := 0) hx hb dX8_isBroken_4 (by decide) ?_
  refine lv_istore (lv' := [(4, .int (0 : Int32)), (3, .int (1 : Int32)), (2, .int vo), (0, .int vo), (1, .int sa)]) hx hb dX8_isBroken_5 hl (by decide) rfl (fun ls hl => ?_)
  refine xLoop3 (body := (B_X8_isBroken_7 sa)) (fun (v7_0 : Int32) (v7_1 : Int32) (v7_2 : Int32) H locs ls => va_P G.1 vwCl [] H ∧ va_D A [] ∧ va_S A s.heap H locs ∧ lv_has ls 5 [(0, .int vo), (1, .int sa), (2, .int v7_0), (3, .int v7_1), (4, .int v7_2)]) (fun N7 v7_0 v7_1 v7_2 ih7 H locs ls hI hF => ?_) fuelC vo (1 : Int32) (0 : Int32) H locs ls ⟨hP, hD, hS, lv_sub hl [3, 4, 2, 1, 0] rfl⟩ hF
  obtain ⟨hP, hD, hS, hl⟩ := hI
  unfold B_X8_isBroken_7 at hF
  refine lv_iload hx hb dX8_isBroken_7 (lv_at hl 4 rfl) ?_
  refine lv_bipush (v := 6) hx hb dX8_isBroken_9 (by decide) ?_
  refine lv_icmp_ge (tgt := 53) hx hb dX8_isBroken_11 (by decide) (fun c11 => ?_) (fun c11 => ?_)
  · have hF := itP c11 hF
    refine lv_iload_n hx hb dX8_isBroken_53 rfl (lv_at hl 3 rfl) ?_
    obtain ⟨gz, hF⟩ := gdB hF
    obtain rfl := Option.some.inj hF
    rw [← hQ]
    exact W.zret (v := v7_1) hx hb hr (xNarB gz) (fun t ht hW => ⟨⟨_, (), rfl, ⟨rfl, (xNarB gz)⟩, xLf hP ht⟩, hS.F ht⟩) hS.2.2 dX8_isBroken_54
  · have hF := itN c11 hF
    refine lv_iload_n hx hb dX8_isBroken_14 rfl (lv_at hl 3 rfl) ?_
    refine lv_if_eq (tgt := 41) hx hb dX8_isBroken_15 (by decide) (fun c15 => ?_) (fun c15 => ?_)
    · have hF := itP c15 hF
      refine lv_iconst (v := 0) hx hb dX8_isBroken_41 (by decide) ?_
      refine lv_istore_n (lv' := [(3, .int (0 : Int32)), (0, .int vo), (1, .int sa), (2, .int v7_0), (4, .int v7_2)]) hx hb dX8_isBroken_42 rfl hl (by decide) rfl (fun ls hl => ?_)
      refine lv_iload_n hx hb dX8_isBroken_43 rfl (lv_at hl 3 rfl) ?_
      refine lv_iconst (v := 3) hx hb dX8_isBroken_44 (by decide) ?_
      refine lv_idiv hx hb dX8_isBroken_45 (by decide) ?_
      refine lv_istore_n (lv' := [(2, .int (v7_0 / (3 : Int32))), (3, .int (0 : Int32)), (0, .int vo), (1, .int sa), (4, .int v7_2)]) hx hb dX8_isBroken_46 rfl hl (by decide) rfl (fun ls hl => ?_)
      refine lv_iinc (v := (v7_2 + (1 : Int32))) (lv' := [(4, .int (v7_2 + (1 : Int32))), (2, .int (v7_0 / (3 : Int32))), (3, .int (0 : Int32)), (0, .int vo), (1, .int sa)]) hx hb dX8_isBroken_47 hl (k := 4) rfl (xInc_1 _) (by decide) rfl (fun ls hl => ?_)
      refine lv_goto (tgt := 7) hx hb dX8_isBroken_50 (by decide) ?_
      exact ih7 (v7_0 / (3 : Int32)) (0 : Int32) (v7_2 + (1 : Int32)) H locs ls ⟨hP, hD, hS, lv_sub hl [3, 4, 1, 2, 0] rfl⟩ hF
    · have hF := itN c15 hF
      refine lv_iload_n hx hb dX8_isBroken_18 rfl (lv_at hl 2 rfl) ?_
      refine lv_iconst (v := 3) hx hb dX8_isBroken_19 (by decide) ?_
      refine lv_irem hx hb dX8_isBroken_20 (by decide) ?_
      refine lv_iconst (v := 2) hx hb dX8_isBroken_21 (by decide) ?_
      refine lv_icmp_eq (tgt := 37) hx hb dX8_isBroken_22 (by decide) (fun c22 => ?_) (fun c22 => ?_)
      · have hF := itP c22 hF
        refine lv_iconst (v := 1) hx hb dX8_isBroken_37 (by decide) ?_
        refine lv_goto (tgt := 42) hx hb dX8_isBroken_38 (by decide) ?_
        refine lv_istore_n (lv' := [(3, .int (1 : Int32)), (0, .int vo), (1, .int sa), (2, .int v7_0), (4, .int v7_2)]) hx hb dX8_isBroken_42 rfl hl (by decide) rfl (fun ls hl => ?_)
        refine lv_iload_n hx hb dX8_isBroken_43 rfl (lv_at hl 3 rfl) ?_
        refine lv_iconst (v := 3) hx hb dX8_isBroken_44 (by decide) ?_
        refine lv_idiv hx hb dX8_isBroken_45 (by decide) ?_
        refine lv_istore_n (lv' := [(2, .int (v7_0 / (3 : Int32))), (3, .int (1 : Int32)), (0, .int vo), (1, .int sa), (4, .int v7_2)]) hx hb dX8_isBroken_46 rfl hl (by decide) rfl (fun ls hl => ?_)
        refine lv_iinc (v := (v7_2 + (1 : Int32))) (lv' := [(4, .int (v7_2 + (1 : Int32))), (2, .int (v7_0 / (3 : Int32))), (3, .int (1 : Int32)), (0, .int vo), (1, .int sa)]) hx hb dX8_isBroken_47 hl (k := 4) rfl (xInc_1 _) (by decide) rfl (fun ls hl => ?_)
        refine lv_goto (tgt := 7) hx hb dX8_isBroken_50 (by decide) ?_
        exact ih7 (v7_0 / (3 : Int32)) (1 : Int32) (v7_2 + (1 : Int32)) H locs ls ⟨hP, hD, hS, lv_sub hl [3, 4, 1, 2, 0] rfl⟩ hF
      · have hF := itN c22 hF
        refine lv_iload_n hx hb dX8_isBroken_25 rfl (lv_at hl 2 rfl) ?_
        refine lv_iconst (v := 3) hx hb dX8_isBroken_26 (by decide) ?_
        refine lv_irem hx hb dX8_isBroken_27 (by decide) ?_
        refine lv_iload_n hx hb dX8_isBroken_28 rfl (lv_at hl 1 rfl) ?_
        refine lv_iload hx hb dX8_isBroken_29 (lv_at hl 4 rfl) ?_
        refine lv_ishr hx hb dX8_isBroken_31 ?_
        refine lv_iconst (v := 1) hx hb dX8_isBroken_32 (by decide) ?_
        refine lv_iand hx hb dX8_isBroken_33 ?_
        refine lv_icmp_ne (tgt := 41) hx hb dX8_isBroken_34 (by decide) (fun c34 => ?_) (fun c34 => ?_)
        · have hF := itN c34 hF
          refine lv_iconst (v := 0) hx hb dX8_isBroken_41 (by decide) ?_
          refine lv_istore_n (lv' := [(3, .int (0 : Int32)), (0, .int vo), (1, .int sa), (2, .int v7_0), (4, .int v7_2)]) hx hb dX8_isBroken_42 rfl hl (by decide) rfl (fun ls hl => ?_)
          refine lv_iload_n hx hb dX8_isBroken_43 rfl (lv_at hl 3 rfl) ?_
          refine lv_iconst (v := 3) hx hb dX8_isBroken_44 (by decide) ?_
          refine lv_idiv hx hb dX8_isBroken_45 (by decide) ?_
          refine lv_istore_n (lv' := [(2, .int (v7_0 / (3 : Int32))), (3, .int (0 : Int32)), (0, .int vo), (1, .int sa), (4, .int v7_2)]) hx hb dX8_isBroken_46 rfl hl (by decide) rfl (fun ls hl => ?_)
          refine lv_iinc (v := (v7_2 + (1 : Int32))) (lv' := [(4, .int (v7_2 + (1 : Int32))), (2, .int (v7_0 / (3 : Int32))), (3, .int (0 : Int32)), (0, .int vo), (1, .int sa)]) hx hb dX8_isBroken_47 hl (k := 4) rfl (xInc_1 _) (by decide) rfl (fun ls hl => ?_)
          refine lv_goto (tgt := 7) hx hb dX8_isBroken_50 (by decide) ?_
          exact ih7 (v7_0 / (3 : Int32)) (0 : Int32) (v7_2 + (1 : Int32)) H locs ls ⟨hP, hD, hS, lv_sub hl [3, 4, 1, 2, 0] rfl⟩ hF
        · have hF := itP c34 hF
          refine lv_iconst (v := 1) hx hb dX8_isBroken_37 (by decide) ?_
          refine lv_goto (tgt := 42) hx hb dX8_isBroken_38 (by decide) ?_
          refine lv_istore_n (lv' := [(3, .int (1 : Int32)), (0, .int vo), (1, .int sa), (2, .int v7_0), (4, .int v7_2)]) hx hb dX8_isBroken_42 rfl hl (by decide) rfl (fun ls hl => ?_)
          refine lv_iload_n hx hb dX8_isBroken_43 rfl (lv_at hl 3 rfl) ?_
          refine lv_iconst (v := 3) hx hb dX8_isBroken_44 (by decide) ?_
          refine lv_idiv hx hb dX8_isBroken_45 (by decide) ?_
          refine lv_istore_n (lv' := [(2, .int (v7_0 / (3 : Int32))), (3, .int (1 : Int32)), (0, .int vo), (1, .int sa), (4, .int v7_2)]) hx hb dX8_isBroken_46 rfl hl (by decide) rfl (fun ls hl => ?_)
          refine lv_iinc (v := (v7_2 + (1 : Int32))) (lv' := [(4, .int (v7_2 + (1 : Int32))), (2, .int (v7_0 / (3 : Int32))), (3, .int (1 : Int32)), (0, .int vo), (1, .int sa)]) hx hb dX8_isBroken_47 hl (k := 4) rfl (xInc_1 _) (by decide) rfl (fun ls hl => ?_)
          refine lv_goto (tgt := 7) hx hb dX8_isBroken_50 (by decide) ?_
          exact ih7 (v7_0 / (3 : Int32)) (1 : Int32) (v7_2 + (1 : Int32)) H locs ls ⟨hP, hD, hS, lv_sub hl [3, 4, 1, 2, 0] rfl⟩ hF
def F_X8_error (errs_f : Nat → Int32) (er : Int32) : Option (Int32 × (Nat → Int32)) := if (((-1000000000 : Int32) - er) < 0 ∨ 7 ≤ ((-1000000000 : Int32) - er).toNatClampNeg) then none else (if (((-1000000000 : Int32) - er) < 0 ∨ 7 ≤ ((-1000000000 : Int32) - er).toNatClampNeg) then none else (some (er, (upd errs_f ((-1000000000 : Int32) - er).toNatClampNeg ((errs_f ((-1000000000 : Int32) - er).toNatClampNeg) + (1 : Int32))))))
theorem hdX8_error : yX8_error.cls ≠ "java/lang/invoke/MethodHandle" ∧ yX8_error.cls ≠ "java/lang/invoke/VarHandle" ∧ (parseMethodDescriptor yX8_error.desc).map (fun d => d.parameters.length) = some 1 := by decide +kernel
set_option maxHeartbeats 4000000 in
set_option maxRecDepth 100000 in
theorem c_X8_error (G : xG) (t : Nat) (row : Nat) (kpt : Nat) (errs : Nat) (bitsOf : Nat) (sizeOf : Nat) (cels : Nat) (broken : Nat) (isFit : Nat) (breaks : Nat) (act : Nat) (wth : Nat) (facts : Nat) (pile : Nat) (trc : Nat) (images : Int32) (mfit : Int32) (known : Int32) (laid : Int32) (hre : Int32) (opnd : Int32) (bad : Int32) (usg : Int32) (trcd : Int32) (isP : Int32) (errs_f : Nat → Int32) (er : Int32)  (u : (Int32 × (Nat → Int32))) (hF : F_X8_error errs_f er = some u) : Ki G .int yX8_error (Cond.code yX8_error cX8_error 2 (some .int) :: TBL) { frames := 0, cells := 0, slots := 0, locals := 0 } [.ref t, .int er] [(t, .inr (8, [.ref row, .ref kpt, .int images, .ref errs, .ref bitsOf, .ref sizeOf, .ref cels, .ref broken, .ref isFit, .ref breaks, .int mfit, .int known, .ref act, .ref wth, .ref facts, .ref pile, .int laid, .int hre, .int opnd, .int bad, .int usg, .ref trc, .int trcd, .int isP])), (errs, .inl (xI G, 7, .inl errs_f))] [(t, .inr (8, [.ref row, .ref kpt, .int images, .ref errs, .ref bitsOf, .ref sizeOf, .ref cels, .ref broken, .ref isFit, .ref breaks, .int mfit, .int known, .ref act, .ref wth, .ref facts, .ref pile, .int laid, .int hre, .int opnd, .int bad, .int usg, .ref trc, .int trcd, .int isP])), (errs, .inl (xI G, 7, .inl u.2))] u.1 := by
  intro l sz
  refine Met.ofW (cc := cX8_error) (maxL := 2) (ret := (some .int)) (by decide) rfl ?_
  intro p e s m args below meth c s₁ B hml hv
  obtain ⟨rfl, hsz, hP, hD0, hm⟩ := hv
  have hx := B.exec
  have hb := B.bytes
  have hr := B.returns
  have hts := atoms_spec (ws := Cond.code yX8_error cX8_error 2 (some .int) :: TBL) B.pre
  have hown : s.vm.findClass RX8 = some m.cls := findClass_of_methodNamed B.named
  have hlocks := B.notSynchronized
  subst hsz
  have hD := hD0.self (sz := s.heap.size)
  generalize hAe : va_A [(t, .inr (8, [.ref row, .ref kpt, .int images, .ref errs, .ref bitsOf, .ref sizeOf, .ref cels, .ref broken, .ref isFit, .ref breaks, .int mfit, .int known, .ref act, .ref wth, .ref facts, .ref pile, .int laid, .int hre, .int opnd, .int bad, .int usg, .ref trc, .int trcd, .int isP])), (errs, .inl (xI G, 7, .inl errs_f))] s.heap.size = A at hD hm ⊢
  have hA : ∀ q : Nat, s.heap.size ≤ q → A q := fun q h => by rw [← hAe]; exact Or.inr h
  have hK := hm.1
  have hZ : xAnd p m c cX8_error 2 s _ (Cond.code yX8_error cX8_error 2 (some .int) :: TBL) RX8 G A := ⟨⟨hx, hb, hml, hown, hts⟩, tcons, hA, hm⟩
  have hP : va_P G.1 vwCl [(t, .inr (8, [.ref row, .ref kpt, .int images, .ref errs, .ref bitsOf, .ref sizeOf, .ref cels, .ref broken, .ref isFit, .ref breaks, .int mfit, .int known, .ref act, .ref wth, .ref facts, .ref pile, .int laid, .int hre, .int opnd, .int bad, .int usg, .ref trc, .int trcd, .int isP])), (errs, .inl (xI G, 7, .inl errs_f))] s.heap := hP
  have hl := lv_entry ([.ref t, .int er]) (n := 2) (Nat.le_of_ble_eq_true rfl)
  rw [lg_entry_eq]
  generalize (lg_sl ([.ref t, .int er]) ++ List.replicate (2 - (lg_sl ([.ref t, .int er])).length) Slot.unset).toArray = ls at hl ⊢
  have hl : lv_has ls 2 [(0, .ref t), (1, .int er)] := hl
  generalize hQ : MQ below _ _ s _ _ _ = Q
  refine xGo (A := A) hP (fun H locs hP hS => ?_)
  unfold F_X8_error at hF
  refine lv_aload_n hx hb dX8_error_0 rfl (lv_at hl 0 rfl) ?_
  refine va_get (ci := 8) (v := .ref errs) (C := RX8) (T := TX8) (N := 24) hx hb hts (fun w h => tcons w (xin8 w h)) hown hK hP 0 rfl rfl 3 (by decide) (hts _ (tcons _ m139)) (fun _ h9 => h9) rfl dX8_error_1 ?_
  refine lv_ldc (v := -1000000000) hx hb hown (hts _ (tcons _ m197)) dX8_error_4 ?_
  refine lv_iload_n hx hb dX8_error_6 rfl (lv_at hl 1 rfl) ?_
  refine lv_isub hx hb dX8_error_7 ?_
  refine lv_dup2_11 hx hb dX8_error_8 rfl rfl ?_
  obtain ⟨g9, hF⟩ := gdS hF
  refine va_iald hx hb hK hP 1 0 rfl rfl g9 dX8_error_9 ?_
  refine lv_iconst (v := 1) hx hb dX8_error_10 (by decide) ?_
  refine lv_iadd hx hb dX8_error_11 ?_
  obtain ⟨g12, hF⟩ := gdS hF
  refine va_iast hx hb hK hP hD hS 1 0 rfl rfl g12 dX8_error_12 (fun H locs hP hD hS => ?_)
  have hP : va_P G.1 vwCl [(t, .inr (8, [.ref row, .ref kpt, .int images, .ref errs, .ref bitsOf, .ref sizeOf, .ref cels, .ref broken, .ref isFit, .ref breaks, .int mfit, .int known, .ref act, .ref wth, .ref facts, .ref pile, .int laid, .int hre, .int opnd, .int bad, .int usg, .ref trc, .int trcd, .int isP])), (errs, .inl (xI G, 7, .inl (upd errs_f ((-1000000000 : Int32) - er).toNatClampNeg ((errs_f ((-1000000000 : Int32) - er).toNatClampNeg) + (1 : Int32)))))] H := hP
  have hD : va_D A [(t, .inr (8, [.ref row, .ref kpt, .int images, .ref errs, .ref bitsOf, .ref sizeOf, .ref cels, .ref broken, .ref isFit, .ref breaks, .int mfit, .int known, .ref act, .ref wth, .ref facts, .ref pile, .int laid, .int hre, .int opnd, .int bad, .int usg, .ref trc, .int trcd, .int isP])), (errs, .inl (xI G, 7, .inl (upd errs_f ((-1000000000 : Int32) - er).toNatClampNeg ((errs_f ((-1000000000 : Int32) - er).toNatClampNeg) + (1 : Int32)))))] := hD
  refine lv_iload_n hx hb dX8_error_13 rfl (lv_at hl 1 rfl) ?_
  obtain rfl := Option.some.inj hF
  rw [← hQ]
  exact W.iret (v := er) hx hb hr (fun t ht hW => ⟨⟨_, (), rfl, ⟨rfl, rfl⟩, xLf hP ht⟩, hS.F ht⟩) hS.2.2 dX8_error_14
def F_X8_in (v : Int32) (lo : Int32) (hi : Int32) : Option Int32 := if v < lo then (some (0 : Int32)) else (if hi < v then (some (0 : Int32)) else (some (1 : Int32)))
theorem hdX8_in : yX8_in.cls ≠ "java/lang/invoke/MethodHandle" ∧ yX8_in.cls ≠ "java/lang/invoke/VarHandle" ∧ (parseMethodDescriptor yX8_in.desc).map (fun d => d.parameters.length) = some 3 := by decide +kernel
set_option maxHeartbeats 4000000 in
set_option maxRecDepth 100000 in
theorem c_X8_in (G : xG) (v : Int32) (lo : Int32) (hi : Int32)  (u : Int32) (hF : F_X8_in v lo hi = some u) : Ki G .boolean yX8_in (Cond.code yX8_in cX8_in 3 (some .boolean) :: TBL) { frames := 0, cells := 0, slots := 0, locals := 0 } [.int v, .int lo, .int hi] [] [] u := by
  intro l sz
  refine Met.ofW (cc := cX8_in) (maxL := 3) (ret := (some .boolean)) (by decide) rfl ?_
  intro p e s m args below meth c s₁ B hml hv
  obtain ⟨rfl, hsz, hP, hD0, hm⟩ := hv
  have hx := B.exec
  have hb := B.bytes
  have hr := B.returns
  have hts := atoms_spec (ws := Cond.code yX8_in cX8_in 3 (some .boolean) :: TBL) B.pre
  have hown : s.vm.findClass RX8 = some m.cls := findClass_of_methodNamed B.named
  have hlocks := B.notSynchronized
  subst hsz
  have hD := hD0.self (sz := s.heap.size)
  generalize hAe : va_A [] s.heap.size = A at hD hm ⊢
  have hA : ∀ q : Nat, s.heap.size ≤ q → A q := fun q h => by rw [← hAe]; exact Or.inr h
  have hK := hm.1
  have hZ : xAnd p m c cX8_in 3 s _ (Cond.code yX8_in cX8_in 3 (some .boolean) :: TBL) RX8 G A := ⟨⟨hx, hb, hml, hown, hts⟩, tcons, hA, hm⟩
  have hP : va_P G.1 vwCl [] s.heap := hP
  have hl := lv_entry ([.int v, .int lo, .int hi]) (n := 3) (Nat.le_of_ble_eq_true rfl)
  rw [lg_entry_eq]
  generalize (lg_sl ([.int v, .int lo, .int hi]) ++ List.replicate (3 - (lg_sl ([.int v, .int lo, .int hi])).length) Slot.unset).toArray = ls at hl ⊢
  have hl : lv_has ls 3 [(0, .int v), (1, .int lo), (2, .int hi)] := hl
  generalize hQ : MQ below _ _ s _ _ _ = Q
  refine xGo (A := A) hP (fun H locs hP hS => ?_)
  unfold F_X8_in at hF
  refine lv_iload_n hx hb dX8_in_0 rfl (lv_at hl 0 rfl) ?_
  refine lv_iload_n hx hb dX8_in_1 rfl (lv_at hl 1 rfl) ?_
  refine lv_icmp_lt (tgt := 14) hx hb dX8_in_2 (by decide) (fun c2 => ?_) (fun c2 => ?_)
  · have hF := itP c2 hF
    refine lv_iconst (v := 0) hx hb dX8_in_14 (by decide) ?_
    obtain rfl := Option.some.inj hF
    rw [← hQ]
    exact W.zret (v := (0 : Int32)) hx hb hr (show narrow .boolean (.int (0 : Int32)) = .int (0 : Int32) from by decide) (fun t ht hW => ⟨⟨_, (), rfl, ⟨rfl, (show narrow .boolean (.int (0 : Int32)) = .int (0 : Int32) from by decide)⟩, xLf hP ht⟩, hS.F ht⟩) hS.2.2 dX8_in_15
  · have hF := itN c2 hF
    refine lv_iload_n hx hb dX8_in_5 rfl (lv_at hl 0 rfl) ?_
    refine lv_iload_n hx hb dX8_in_6 rfl (lv_at hl 2 rfl) ?_
    refine lv_icmp_gt (tgt := 14) hx hb dX8_in_7 (by decide) (fun c7 => ?_) (fun c7 => ?_)
    · have hF := itP c7 hF
      refine lv_iconst (v := 0) hx hb dX8_in_14 (by decide) ?_
      obtain rfl := Option.some.inj hF
      rw [← hQ]
      exact W.zret (v := (0 : Int32)) hx hb hr (show narrow .boolean (.int (0 : Int32)) = .int (0 : Int32) from by decide) (fun t ht hW => ⟨⟨_, (), rfl, ⟨rfl, (show narrow .boolean (.int (0 : Int32)) = .int (0 : Int32) from by decide)⟩, xLf hP ht⟩, hS.F ht⟩) hS.2.2 dX8_in_15
    · have hF := itN c7 hF
      refine lv_iconst (v := 1) hx hb dX8_in_10 (by decide) ?_
      refine lv_goto (tgt := 15) hx hb dX8_in_11 (by decide) ?_
      obtain rfl := Option.some.inj hF
      rw [← hQ]
      exact W.zret (v := (1 : Int32)) hx hb hr (show narrow .boolean (.int (1 : Int32)) = .int (1 : Int32) from by decide) (fun t ht hW => ⟨⟨_, (), rfl, ⟨rfl, (show narrow .boolean (.int (1 : Int32)) = .int (1 : Int32) from by decide)⟩, xLf hP ht⟩, hS.F ht⟩) hS.2.2 dX8_in_15
def F_X8_held (v : Int32) (lo : Int32) (hi : Int32) : Option Int32 := if lo ≤ v then (if v ≤ hi then (some v) else (some hi)) else (some lo)
theorem hdX8_held : yX8_held.cls ≠ "java/lang/invoke/MethodHandle" ∧ yX8_held.cls ≠ "java/lang/invoke/VarHandle" ∧ (parseMethodDescriptor yX8_held.desc).map (fun d => d.parameters.length) = some 3 := by decide +kernel
set_option maxHeartbeats 4000000 in
set_option maxRecDepth 100000 in
theorem c_X8_held (G : xG) (v : Int32) (lo : Int32) (hi : Int32)  (u : Int32) (hF : F_X8_held v lo hi = some u) : Ki G .int yX8_held (Cond.code yX8_held cX8_held 3 (some .int) :: TBL) { frames := 0, cells := 0, slots := 0, locals := 0 } [.int v, .int lo, .int hi] [] [] u := by
  intro l sz
  refine Met.ofW (cc := cX8_held) (maxL := 3) (ret := (some .int)) (by decide) rfl ?_
  intro p e s m args below meth c s₁ B hml hv
  obtain ⟨rfl, hsz, hP, hD0, hm⟩ := hv
  have hx := B.exec
  have hb := B.bytes
  have hr := B.returns
  have hts := atoms_spec (ws := Cond.code yX8_held cX8_held 3 (some .int) :: TBL) B.pre
  have hown : s.vm.findClass RX8 = some m.cls := findClass_of_methodNamed B.named
  have hlocks := B.notSynchronized
  subst hsz
  have hD := hD0.self (sz := s.heap.size)
  generalize hAe : va_A [] s.heap.size = A at hD hm ⊢
  have hA : ∀ q : Nat, s.heap.size ≤ q → A q := fun q h => by rw [← hAe]; exact Or.inr h
  have hK := hm.1
  have hZ : xAnd p m c cX8_held 3 s _ (Cond.code yX8_held cX8_held 3 (some .int) :: TBL) RX8 G A := ⟨⟨hx, hb, hml, hown, hts⟩, tcons, hA, hm⟩
  have hP : va_P G.1 vwCl [] s.heap := hP
  have hl := lv_entry ([.int v, .int lo, .int hi]) (n := 3) (Nat.le_of_ble_eq_true rfl)
  rw [lg_entry_eq]
  generalize (lg_sl ([.int v, .int lo, .int hi]) ++ List.replicate (3 - (lg_sl ([.int v, .int lo, .int hi])).length) Slot.unset).toArray = ls at hl ⊢
  have hl : lv_has ls 3 [(0, .int v), (1, .int lo), (2, .int hi)] := hl
  generalize hQ : MQ below _ _ s _ _ _ = Q
  refine xGo (A := A) hP (fun H locs hP hS => ?_)
  unfold F_X8_held at hF
  refine lv_iload_n hx hb dX8_held_0 rfl (lv_at hl 0 rfl) ?_
  refine lv_iload_n hx hb dX8_held_1 rfl (lv_at hl 1 rfl) ?_
  refine lv_icmp_ge (tgt := 9) hx hb dX8_held_2 (by decide) (fun c2 => ?_) (fun c2 => ?_)
  · have hF := itP c2 hF
    refine lv_iload_n hx hb dX8_held_9 rfl (lv_at hl 0 rfl) ?_
    refine lv_iload_n hx hb dX8_held_10 rfl (lv_at hl 2 rfl) ?_
    refine lv_icmp_le (tgt := 18) hx hb dX8_held_11 (by decide) (fun c11 => ?_) (fun c11 => ?_)
    · have hF := itP c11 hF
      refine lv_iload_n hx hb dX8_held_18 rfl (lv_at hl 0 rfl) ?_
      obtain rfl := Option.some.inj hF
      rw [← hQ]
      exact W.iret (v := v) hx hb hr (fun t ht hW => ⟨⟨_, (), rfl, ⟨rfl, rfl⟩, xLf hP ht⟩, hS.F ht⟩) hS.2.2 dX8_held_19
    · have hF := itN c11 hF
      refine lv_iload_n hx hb dX8_held_14 rfl (lv_at hl 2 rfl) ?_
      refine lv_goto (tgt := 19) hx hb dX8_held_15 (by decide) ?_
      obtain rfl := Option.some.inj hF
      rw [← hQ]
      exact W.iret (v := hi) hx hb hr (fun t ht hW => ⟨⟨_, (), rfl, ⟨rfl, rfl⟩, xLf hP ht⟩, hS.F ht⟩) hS.2.2 dX8_held_19
  · have hF := itN c2 hF
    refine lv_iload_n hx hb dX8_held_5 rfl (lv_at hl 1 rfl) ?_
    refine lv_goto (tgt := 19) hx hb dX8_held_6 (by decide) ?_
    obtain rfl := Option.some.inj hF
    rw [← hQ]
    exact W.iret (v := lo) hx hb hr (fun t ht hW => ⟨⟨_, (), rfl, ⟨rfl, rfl⟩, xLf hP ht⟩, hS.F ht⟩) hS.2.2 dX8_held_19
def B_X8_copyAll_2 (fr_f : Nat → Int32) (k2 : (Int32 × (Nat → Int32)) → Option (Nat → Int32)) (v2 : (Int32 × (Nat → Int32))) : Option (Nat → Int32) := if (400 : Int32) ≤ v2.1 then (some v2.2) else (if (v2.1 < 0 ∨ 400 ≤ v2.1.toNatClampNeg) then none else (if (v2.1 < 0 ∨ 400 ≤ v2.1.toNatClampNeg) then none else (k2 ((v2.1 + (1 : Int32)), (upd v2.2 v2.1.toNatClampNeg (fr_f v2.1.toNatClampNeg))))))
def F_X8_copyAll (fr_f : Nat → Int32) (to_f : Nat → Int32) : Option (Nat → Int32) := lp (B_X8_copyAll_2 fr_f) fuelC ((0 : Int32), to_f)
theorem hdX8_copyAll : yX8_copyAll.cls ≠ "java/lang/invoke/MethodHandle" ∧ yX8_copyAll.cls ≠ "java/lang/invoke/VarHandle" ∧ (parseMethodDescriptor yX8_copyAll.desc).map (fun d => d.parameters.length) = some 2 := by decide +kernel
set_option maxHeartbeats 4000000 in
set_option maxRecDepth 100000 in
theorem c_X8_copyAll (G : xG) (fr : Nat) (to : Nat) (fr_f : Nat → Int32) (to_f : Nat → Int32)  (u : (Nat → Int32)) (hF : F_X8_copyAll fr_f to_f = some u) : Kv G yX8_copyAll (Cond.code yX8_copyAll cX8_copyAll 3 none :: TBL) { frames := 0, cells := 0, slots := 0, locals := 0 } [.ref fr, .ref to] [(fr, .inl (xI G, 400, .inl fr_f)), (to, .inl (xI G, 400, .inl to_f))] [(fr, .inl (xI G, 400, .inl fr_f)), (to, .inl (xI G, 400, .inl u))] := by
  intro l sz
  refine Met.ofW (cc := cX8_copyAll) (maxL := 3) (ret := none) (by decide) rfl ?_
  intro p e s m args below meth c s₁ B hml hv
  obtain ⟨rfl, hsz, hP, hD0, hm⟩ := hv
  have hx := B.exec
  have hb := B.bytes
  have hr := B.returns
  have hts := atoms_spec (ws := Cond.code yX8_copyAll cX8_copyAll 3 none :: TBL) B.pre
  have hown : s.vm.findClass RX8 = some m.cls := findClass_of_methodNamed B.named
  have hlocks := B.notSynchronized
  subst hsz
  have hD := hD0.self (sz := s.heap.size)
  generalize hAe : va_A [(fr, .inl (xI G, 400, .inl fr_f)), (to, .inl (xI G, 400, .inl to_f))] s.heap.size = A at hD hm ⊢
  have hA : ∀ q : Nat, s.heap.size ≤ q → A q := fun q h => by rw [← hAe]; exact Or.inr h
  have hK := hm.1
  have hZ : xAnd p m c cX8_copyAll 3 s _ (Cond.code yX8_copyAll cX8_copyAll 3 none :: TBL) RX8 G A := ⟨⟨hx, hb, hml, hown, hts⟩, tcons, hA, hm⟩
  have hP : va_P G.1 vwCl [(fr, .inl (xI G, 400, .inl fr_f)), (to, .inl (xI G, 400, .inl to_f))] s.heap := hP
  have hl := lv_entry ([.ref fr, .ref to]) (n := 3) (Nat.le_of_ble_eq_true rfl)
  rw [lg_entry_eq]
  generalize (lg_sl ([.ref fr, .ref to]) ++ List.replicate (3 - (lg_sl ([.ref fr, .ref to])).length) Slot.unset).toArray = ls at hl ⊢
  have hl : lv_has ls 3 [(0, .ref fr), (1, .ref to)] := hl
  generalize hQ : MQ below _ _ s _ _ _ = Q
  refine xGo (A := A) hP (fun H locs hP hS => ?_)
  unfold F_X8_copyAll at hF
  refine lv_iconst (v := 0) hx hb dX8_copyAll_0 (by decide) ?_
  refine lv_istore_n (lv' := [(2, .int (0 : Int32)), (0, .ref fr), (1, .ref to)]) hx hb dX8_copyAll_1 rfl hl (by decide) rfl (fun ls hl => ?_)
  refine xLoop2 (body := (B_X8_copyAll_2 fr_f)) (fun (v2_0 : Int32) (v2_1 : Nat → Int32) H locs ls => va_P G.1 vwCl [(fr, .inl (xI G, 400, .inl fr_f)), (to, .inl (xI G, 400, .inl v2_1))] H ∧ va_D A [(fr, .inl (xI G, 400, .inl fr_f)), (to, .inl (xI G, 400, .inl v2_1))] ∧ va_S A s.heap H locs ∧ lv_has ls 3 [(0, .ref fr), (1, .ref to), (2, .int v2_0)]) (fun N2 v2_0 v2_1 ih2 H locs ls hI hF => ?_) fuelC (0 : Int32) to_f H locs ls ⟨hP, hD, hS, lv_sub hl [1, 2, 0] rfl⟩ hF
  obtain ⟨hP, hD, hS, hl⟩ := hI
  unfold B_X8_copyAll_2 at hF
  refine lv_iload_n hx hb dX8_copyAll_2 rfl (lv_at hl 2 rfl) ?_
  refine lv_sipush (v := 400) hx hb dX8_copyAll_3 (by decide) ?_
  refine lv_icmp_ge (tgt := 21) hx hb dX8_copyAll_6 (by decide) (fun c6 => ?_) (fun c6 => ?_)
  · have hF := itP c6 hF
    obtain rfl := Option.some.inj hF
    rw [← hQ]
    exact W.vret hx hb hr (fun t ht hW => ⟨⟨(), rfl, trivial, xLf hP ht⟩, hS.F ht⟩) hS.2.2 dX8_copyAll_21
  · have hF := itN c6 hF
    refine lv_aload_n hx hb dX8_copyAll_9 rfl (lv_at hl 1 rfl) ?_
    refine lv_iload_n hx hb dX8_copyAll_10 rfl (lv_at hl 2 rfl) ?_
    refine lv_aload_n hx hb dX8_copyAll_11 rfl (lv_at hl 0 rfl) ?_
    refine lv_iload_n hx hb dX8_copyAll_12 rfl (lv_at hl 2 rfl) ?_
    obtain ⟨g13, hF⟩ := gdS hF
    refine va_iald hx hb hK hP 0 0 rfl rfl g13 dX8_copyAll_13 ?_
    obtain ⟨g14, hF⟩ := gdS hF
    refine va_iast hx hb hK hP hD hS 1 0 rfl rfl g14 dX8_copyAll_14 (fun H locs hP hD hS => ?_)
    have hP : va_P G.1 vwCl [(fr, .inl (xI G, 400, .inl fr_f)), (to, .inl (xI G, 400, .inl (upd v2_1 v2_0.toNatClampNeg (fr_f v2_0.toNatClampNeg))))] H := hP
    have hD : va_D A [(fr, .inl (xI G, 400, .inl fr_f)), (to, .inl (xI G, 400, .inl (upd v2_1 v2_0.toNatClampNeg (fr_f v2_0.toNatClampNeg))))] := hD
    refine lv_iinc (v := (v2_0 + (1 : Int32))) (lv' := [(2, .int (v2_0 + (1 : Int32))), (0, .ref fr), (1, .ref to)]) hx hb dX8_copyAll_15 hl (k := 2) rfl (xInc_1 _) (by decide) rfl (fun ls hl => ?_)
    refine lv_goto (tgt := 2) hx hb dX8_copyAll_18 (by decide) ?_
    exact ih2 (v2_0 + (1 : Int32)) (upd v2_1 v2_0.toNatClampNeg (fr_f v2_0.toNatClampNeg)) H locs ls ⟨hP, hD, hS, lv_sub hl [1, 2, 0] rfl⟩ hF
def B_X8_bits_4 (k4 : (Int32 × Int64) → Option Int32) (v4 : (Int32 × Int64)) : Option Int32 := if (lg_cmp v4.2 (0 : Int64)) = 0 then (some v4.1) else (k4 ((v4.1 + (1 : Int32)), (v4.2 &&& (v4.2 - (1 : Int64)))))
def F_X8_bits (set : Int64) : Option Int32 := lp B_X8_bits_4 fuelC ((0 : Int32), set)
theorem hdX8_bits : yX8_bits.cls ≠ "java/lang/invoke/MethodHandle" ∧ yX8_bits.cls ≠ "java/lang/invoke/VarHandle" ∧ (parseMethodDescriptor yX8_bits.desc).map (fun d => d.parameters.length) = some 1 := by decide +kernel
set_option maxHeartbeats 4000000 in
set_option maxRecDepth 100000 in
theorem c_X8_bits (G : xG) (set : Int64)  (u : Int32) (hF : F_X8_bits set = some u) : Ki G .int yX8_bits (Cond.code yX8_bits cX8_bits 5 (some .int) :: TBL) { frames := 0, cells := 0, slots := 0, locals := 0 } [.long set] [] [] u := by
  intro l sz
  refine Met.ofW (cc := cX8_bits) (maxL := 5) (ret := (some .int)) (by decide) rfl ?_
  intro p e s m args below meth c s₁ B hml hv
  obtain ⟨rfl, hsz, hP, hD0, hm⟩ := hv
  have hx := B.exec
  have hb := B.bytes
  have hr := B.returns
  have hts := atoms_spec (ws := Cond.code yX8_bits cX8_bits 5 (some .int) :: TBL) B.pre
  have hown : s.vm.findClass RX8 = some m.cls := findClass_of_methodNamed B.named
  have hlocks := B.notSynchronized
  subst hsz
  have hD := hD0.self (sz := s.heap.size)
  generalize hAe : va_A [] s.heap.size = A at hD hm ⊢
  have hA : ∀ q : Nat, s.heap.size ≤ q → A q := fun q h => by rw [← hAe]; exact Or.inr h
  have hK := hm.1
  have hZ : xAnd p m c cX8_bits 5 s _ (Cond.code yX8_bits cX8_bits 5 (some .int) :: TBL) RX8 G A := ⟨⟨hx, hb, hml, hown, hts⟩, tcons, hA, hm⟩
  have hP : va_P G.1 vwCl [] s.heap := hP
  have hl := lv_entry ([.long set]) (n := 5) (Nat.le_of_ble_eq_true rfl)
  rw [lg_entry_eq]
  generalize (lg_sl ([.long set]) ++ List.replicate (5 - (lg_sl ([.long set])).length) Slot.unset).toArray = ls at hl ⊢
  have hl : lv_has ls 5 [(0, .long set)] := hl
  generalize hQ : MQ below _ _ s _ _ _ = Q
  refine xGo (A := A) hP (fun H locs hP hS => ?_)
  unfold F_X8_bits at hF
  refine lv_iconst (v := 0) hx hb dX8_bits_0 (by decide) ?_
  refine lv_istore_n (lv' := [(2, .int (0 : Int32)), (0, .long set)]) hx hb dX8_bits_1 rfl hl (by decide) rfl (fun ls hl => ?_)
  refine lv_lload_n hx hb dX8_bits_2 rfl (lv_at hl 1 rfl) ?_
  refine lv_lstore_n (lv' := [(3, .long set), (2, .int (0 : Int32)), (0, .long set)]) hx hb dX8_bits_3 rfl hl (by decide) rfl (fun ls hl => ?_)
  refine xLoop2 (body := B_X8_bits_4) (fun (v4_0 : Int32) (v4_1 : Int64) H locs ls => va_P G.1 vwCl [] H ∧ va_D A [] ∧ va_S A s.heap H locs ∧ lv_has ls 5 [(0, .long set), (2, .int v4_0), (3, .long v4_1)]) (fun N4 v4_0 v4_1 ih4 H locs ls hI hF => ?_) fuelC (0 : Int32) set H locs ls ⟨hP, hD, hS, lv_sub hl [2, 1, 0] rfl⟩ hF
  obtain ⟨hP, hD, hS, hl⟩ := hI
  unfold B_X8_bits_4 at hF
  refine lv_lload_n hx hb dX8_bits_4 rfl (lv_at hl 2 rfl) ?_
  refine lv_lconst (v := 0) hx hb dX8_bits_5 (by decide) ?_
  refine W.lcmp hx hb dX8_bits_6 ?_
  refine lv_if_eq (tgt := 22) hx hb dX8_bits_7 (by decide) (fun c7 => ?_) (fun c7 => ?_)
  · have hF := itP c7 hF
    refine lv_iload_n hx hb dX8_bits_22 rfl (lv_at hl 1 rfl) ?_
    obtain rfl := Option.some.inj hF
    rw [← hQ]
    exact W.iret (v := v4_0) hx hb hr (fun t ht hW => ⟨⟨_, (), rfl, ⟨rfl, rfl⟩, xLf hP ht⟩, hS.F ht⟩) hS.2.2 dX8_bits_23
  · have hF := itN c7 hF
    refine lv_iinc (v := (v4_0 + (1 : Int32))) (lv' := [(2, .int (v4_0 + (1 : Int32))), (0, .long set), (3, .long v4_1)]) hx hb dX8_bits_10 hl (k := 1) rfl (xInc_1 _) (by decide) rfl (fun ls hl => ?_)
    refine lv_lload_n hx hb dX8_bits_13 rfl (lv_at hl 2 rfl) ?_
    refine lv_lload_n hx hb dX8_bits_14 rfl (lv_at hl 2 rfl) ?_
    refine lv_lconst (v := 1) hx hb dX8_bits_15 (by decide) ?_
    refine lv_lsub hx hb dX8_bits_16 ?_
    refine lv_land hx hb dX8_bits_17 ?_
    refine lv_lstore_n (lv' := [(3, .long (v4_1 &&& (v4_1 - (1 : Int64)))), (2, .int (v4_0 + (1 : Int32))), (0, .long set)]) hx hb dX8_bits_18 rfl hl (by decide) rfl (fun ls hl => ?_)
    refine lv_goto (tgt := 4) hx hb dX8_bits_19 (by decide) ?_
    exact ih4 (v4_0 + (1 : Int32)) (v4_1 &&& (v4_1 - (1 : Int64))) H locs ls ⟨hP, hD, hS, lv_sub hl [2, 1, 0] rfl⟩ hF
def F_X8_isBrother (row_f : Nat → Int32) (br : Int32) : Option Int32 := bd (F_X8_in br (0 : Int32) ((row_f (2 : Int32).toNatClampNeg) - (1 : Int32))) (fun (u1 : Int32) => some u1)
theorem hdX8_isBrother : yX8_isBrother.cls ≠ "java/lang/invoke/MethodHandle" ∧ yX8_isBrother.cls ≠ "java/lang/invoke/VarHandle" ∧ (parseMethodDescriptor yX8_isBrother.desc).map (fun d => d.parameters.length) = some 1 := by decide +kernel
set_option maxHeartbeats 4000000 in
set_option maxRecDepth 100000 in
theorem c_X8_isBrother (G : xG) (t : Nat) (row : Nat) (kpt : Nat) (errs : Nat) (bitsOf : Nat) (sizeOf : Nat) (cels : Nat) (broken : Nat) (isFit : Nat) (breaks : Nat) (act : Nat) (wth : Nat) (facts : Nat) (pile : Nat) (trc : Nat) (images : Int32) (mfit : Int32) (known : Int32) (laid : Int32) (hre : Int32) (opnd : Int32) (bad : Int32) (usg : Int32) (trcd : Int32) (isP : Int32) (row_f : Nat → Int32) (br : Int32)  (u : Int32) (hF : F_X8_isBrother row_f br = some u) : Ki G .boolean yX8_isBrother (Cond.code yX8_isBrother cX8_isBrother 2 (some .boolean) :: TBL) { frames := 1, cells := 0, slots := 0, locals := 22 } [.ref t, .int br] [(t, .inr (8, [.ref row, .ref kpt, .int images, .ref errs, .ref bitsOf, .ref sizeOf, .ref cels, .ref broken, .ref isFit, .ref breaks, .int mfit, .int known, .ref act, .ref wth, .ref facts, .ref pile, .int laid, .int hre, .int opnd, .int bad, .int usg, .ref trc, .int trcd, .int isP])), (row, .inl (xI G, 400, .inl row_f))] [(t, .inr (8, [.ref row, .ref kpt, .int images, .ref errs, .ref bitsOf, .ref sizeOf, .ref cels, .ref broken, .ref isFit, .ref breaks, .int mfit, .int known, .ref act, .ref wth, .ref facts, .ref pile, .int laid, .int hre, .int opnd, .int bad, .int usg, .ref trc, .int trcd, .int isP])), (row, .inl (xI G, 400, .inl row_f))] u := by
  intro l sz
  refine Met.ofW (cc := cX8_isBrother) (maxL := 2) (ret := (some .boolean)) (by decide) rfl ?_
  intro p e s m args below meth c s₁ B hml hv
  obtain ⟨rfl, hsz, hP, hD0, hm⟩ := hv
  have hx := B.exec
  have hb := B.bytes
  have hr := B.returns
  have hts := atoms_spec (ws := Cond.code yX8_isBrother cX8_isBrother 2 (some .boolean) :: TBL) B.pre
  have hown : s.vm.findClass RX8 = some m.cls := findClass_of_methodNamed B.named
  have hlocks := B.notSynchronized
  subst hsz
  have hD := hD0.self (sz := s.heap.size)
  generalize hAe : va_A [(t, .inr (8, [.ref row, .ref kpt, .int images, .ref errs, .ref bitsOf, .ref sizeOf, .ref cels, .ref broken, .ref isFit, .ref breaks, .int mfit, .int known, .ref act, .ref wth, .ref facts, .ref pile, .int laid, .int hre, .int opnd, .int bad, .int usg, .ref trc, .int trcd, .int isP])), (row, .inl (xI G, 400, .inl row_f))] s.heap.size = A at hD hm ⊢
  have hA : ∀ q : Nat, s.heap.size ≤ q → A q := fun q h => by rw [← hAe]; exact Or.inr h
  have hK := hm.1
  have hZ : xAnd p m c cX8_isBrother 2 s _ (Cond.code yX8_isBrother cX8_isBrother 2 (some .boolean) :: TBL) RX8 G A := ⟨⟨hx, hb, hml, hown, hts⟩, tcons, hA, hm⟩
  have hP : va_P G.1 vwCl [(t, .inr (8, [.ref row, .ref kpt, .int images, .ref errs, .ref bitsOf, .ref sizeOf, .ref cels, .ref broken, .ref isFit, .ref breaks, .int mfit, .int known, .ref act, .ref wth, .ref facts, .ref pile, .int laid, .int hre, .int opnd, .int bad, .int usg, .ref trc, .int trcd, .int isP])), (row, .inl (xI G, 400, .inl row_f))] s.heap := hP
  have hl := lv_entry ([.ref t, .int br]) (n := 2) (Nat.le_of_ble_eq_true rfl)
  rw [lg_entry_eq]
  generalize (lg_sl ([.ref t, .int br]) ++ List.replicate (2 - (lg_sl ([.ref t, .int br])).length) Slot.unset).toArray = ls at hl ⊢
  have hl : lv_has ls 2 [(0, .ref t), (1, .int br)] := hl
  generalize hQ : MQ below _ _ s _ _ _ = Q
  refine xGo (A := A) hP (fun H locs hP hS => ?_)
  unfold F_X8_isBrother at hF
  refine lv_iload_n hx hb dX8_isBrother_0 rfl (lv_at hl 1 rfl) ?_
  refine lv_iconst (v := 0) hx hb dX8_isBrother_1 (by decide) ?_
  refine lv_aload_n hx hb dX8_isBrother_2 rfl (lv_at hl 0 rfl) ?_
  refine va_get (ci := 8) (v := .ref row) (C := RX8) (T := TX8) (N := 24) hx hb hts (fun w h => tcons w (xin8 w h)) hown hK hP 0 rfl rfl 0 (by decide) (hts _ (tcons _ m137)) (fun _ h9 => h9) rfl dX8_isBrother_3 ?_
  refine lv_iconst (v := 2) hx hb dX8_isBrother_6 (by decide) ?_
  refine va_iald hx hb hK hP 1 0 rfl rfl (by unfold vp_in; decide) dX8_isBrother_7 ?_
  refine lv_iconst (v := 1) hx hb dX8_isBrother_8 (by decide) ?_
  refine lv_isub hx hb dX8_isBrother_9 ?_
  obtain ⟨u1, e1, hF⟩ := bdS hF
  refine xEndI (xRunS (As := [.int br, .int (0 : Int32), .int ((row_f (2 : Int32).toNatClampNeg) - (1 : Int32))]) (rest := []) hZ (c_X8_in G br (0 : Int32) ((row_f (2 : Int32).toNatClampNeg) - (1 : Int32)) u1 e1 l H.size) m190 m191 m5 m192 3 hdX8_in ⟨Nat.le_of_ble_eq_true rfl, Nat.le_of_ble_eq_true rfl⟩ ⟨rfl, rfl⟩ hP hD hS [] rfl rfl rfl hl.1 rfl (Nat.le_of_ble_eq_true rfl) dX8_isBrother_10 ⟨Nat.zero_le _, Nat.zero_le _⟩) hP hD hS hA [] rfl rfl rfl (fun H locs n1 hP hD hS => ?_)
  have hP : va_P G.1 vwCl [(t, .inr (8, [.ref row, .ref kpt, .int images, .ref errs, .ref bitsOf, .ref sizeOf, .ref cels, .ref broken, .ref isFit, .ref breaks, .int mfit, .int known, .ref act, .ref wth, .ref facts, .ref pile, .int laid, .int hre, .int opnd, .int bad, .int usg, .ref trc, .int trcd, .int isP])), (row, .inl (xI G, 400, .inl row_f))] H := hP
  have hD : va_D A [(t, .inr (8, [.ref row, .ref kpt, .int images, .ref errs, .ref bitsOf, .ref sizeOf, .ref cels, .ref broken, .ref isFit, .ref breaks, .int mfit, .int known, .ref act, .ref wth, .ref facts, .ref pile, .int laid, .int hre, .int opnd, .int bad, .int usg, .ref trc, .int trcd, .int isP])), (row, .inl (xI G, 400, .inl row_f))] := hD
  obtain rfl := Option.some.inj hF
  rw [← hQ]
  exact W.zret (v := u1) hx hb hr n1 (fun t ht hW => ⟨⟨_, (), rfl, ⟨rfl, n1⟩, xLf hP ht⟩, hS.F ht⟩) hS.2.2 dX8_isBrother_13
def F_X8_isSaying (sy : Int32) : Option Int32 := bd (F_X8_in sy (0 : Int32) (63 : Int32)) (fun (u1 : Int32) => some u1)
theorem hdX8_isSaying : yX8_isSaying.cls ≠ "java/lang/invoke/MethodHandle" ∧ yX8_isSaying.cls ≠ "java/lang/invoke/VarHandle" ∧ (parseMethodDescriptor yX8_isSaying.desc).map (fun d => d.parameters.length) = some 1 := by decide +kernel
set_option maxHeartbeats 4000000 in
set_option maxRecDepth 100000 in
theorem c_X8_isSaying (G : xG) (sy : Int32)  (u : Int32) (hF : F_X8_isSaying sy = some u) : Ki G .boolean yX8_isSaying (Cond.code yX8_isSaying cX8_isSaying 1 (some .boolean) :: TBL) { frames := 1, cells := 0, slots := 0, locals := 22 } [.int sy] [] [] u := by
  intro l sz
  refine Met.ofW (cc := cX8_isSaying) (maxL := 1) (ret := (some .boolean)) (by decide) rfl ?_
  intro p e s m args below meth c s₁ B hml hv
  obtain ⟨rfl, hsz, hP, hD0, hm⟩ := hv
  have hx := B.exec
  have hb := B.bytes
  have hr := B.returns
  have hts := atoms_spec (ws := Cond.code yX8_isSaying cX8_isSaying 1 (some .boolean) :: TBL) B.pre
  have hown : s.vm.findClass RX8 = some m.cls := findClass_of_methodNamed B.named
  have hlocks := B.notSynchronized
  subst hsz
  have hD := hD0.self (sz := s.heap.size)
  generalize hAe : va_A [] s.heap.size = A at hD hm ⊢
  have hA : ∀ q : Nat, s.heap.size ≤ q → A q := fun q h => by rw [← hAe]; exact Or.inr h
  have hK := hm.1
  have hZ : xAnd p m c cX8_isSaying 1 s _ (Cond.code yX8_isSaying cX8_isSaying 1 (some .boolean) :: TBL) RX8 G A := ⟨⟨hx, hb, hml, hown, hts⟩, tcons, hA, hm⟩
  have hP : va_P G.1 vwCl [] s.heap := hP
  have hl := lv_entry ([.int sy]) (n := 1) (Nat.le_of_ble_eq_true rfl)
  rw [lg_entry_eq]
  generalize (lg_sl ([.int sy]) ++ List.replicate (1 - (lg_sl ([.int sy])).length) Slot.unset).toArray = ls at hl ⊢
  have hl : lv_has ls 1 [(0, .int sy)] := hl
  generalize hQ : MQ below _ _ s _ _ _ = Q
  refine xGo (A := A) hP (fun H locs hP hS => ?_)
  unfold F_X8_isSaying at hF
  refine lv_iload_n hx hb dX8_isSaying_0 rfl (lv_at hl 0 rfl) ?_
  refine lv_iconst (v := 0) hx hb dX8_isSaying_1 (by decide) ?_
  refine lv_bipush (v := 63) hx hb dX8_isSaying_2 (by decide) ?_
  obtain ⟨u1, e1, hF⟩ := bdS hF
  refine xEndI (xRunS (As := [.int sy, .int (0 : Int32), .int (63 : Int32)]) (rest := []) hZ (c_X8_in G sy (0 : Int32) (63 : Int32) u1 e1 l H.size) m190 m191 m5 m192 3 hdX8_in ⟨Nat.le_of_ble_eq_true rfl, Nat.le_of_ble_eq_true rfl⟩ ⟨rfl, rfl⟩ hP hD hS [] rfl rfl rfl hl.1 rfl (Nat.le_of_ble_eq_true rfl) dX8_isSaying_4 ⟨Nat.zero_le _, Nat.zero_le _⟩) hP hD hS hA [] rfl rfl rfl (fun H locs n1 hP hD hS => ?_)
  have hP : va_P G.1 vwCl [] H := hP
  have hD : va_D A [] := hD
  obtain rfl := Option.some.inj hF
  rw [← hQ]
  exact W.zret (v := u1) hx hb hr n1 (fun t ht hW => ⟨⟨_, (), rfl, ⟨rfl, n1⟩, xLf hP ht⟩, hS.F ht⟩) hS.2.2 dX8_isSaying_7
def F_X8_becomes (row_f : Nat → Int32) (sp : Int32) (v : Int32) : Option (Int32 × (Nat → Int32)) := if (sp < 0 ∨ 400 ≤ sp.toNatClampNeg) then none else (if (sp < 0 ∨ 400 ≤ sp.toNatClampNeg) then none else (some ((row_f sp.toNatClampNeg), (upd row_f sp.toNatClampNeg v))))
theorem hdX8_becomes : yX8_becomes.cls ≠ "java/lang/invoke/MethodHandle" ∧ yX8_becomes.cls ≠ "java/lang/invoke/VarHandle" ∧ (parseMethodDescriptor yX8_becomes.desc).map (fun d => d.parameters.length) = some 2 := by decide +kernel
set_option maxHeartbeats 4000000 in
set_option maxRecDepth 100000 in
theorem c_X8_becomes (G : xG) (t : Nat) (row : Nat) (kpt : Nat) (errs : Nat) (bitsOf : Nat) (sizeOf : Nat) (cels : Nat) (broken : Nat) (isFit : Nat) (breaks : Nat) (act : Nat) (wth : Nat) (facts : Nat) (pile : Nat) (trc : Nat) (images : Int32) (mfit : Int32) (known : Int32) (laid : Int32) (hre : Int32) (opnd : Int32) (bad : Int32) (usg : Int32) (trcd : Int32) (isP : Int32) (row_f : Nat → Int32) (sp : Int32) (v : Int32)  (u : (Int32 × (Nat → Int32))) (hF : F_X8_becomes row_f sp v = some u) : Ki G .int yX8_becomes (Cond.code yX8_becomes cX8_becomes 4 (some .int) :: TBL) { frames := 0, cells := 0, slots := 0, locals := 0 } [.ref t, .int sp, .int v] [(t, .inr (8, [.ref row, .ref kpt, .int images, .ref errs, .ref bitsOf, .ref sizeOf, .ref cels, .ref broken, .ref isFit, .ref breaks, .int mfit, .int known, .ref act, .ref wth, .ref facts, .ref pile, .int laid, .int hre, .int opnd, .int bad, .int usg, .ref trc, .int trcd, .int isP])), (row, .inl (xI G, 400, .inl row_f))] [(t, .inr (8, [.ref row, .ref kpt, .int images, .ref errs, .ref bitsOf, .ref sizeOf, .ref cels, .ref broken, .ref isFit, .ref breaks, .int mfit, .int known, .ref act, .ref wth, .ref facts, .ref pile, .int laid, .int hre, .int opnd, .int bad, .int usg, .ref trc, .int trcd, .int isP])), (row, .inl (xI G, 400, .inl u.2))] u.1 := by
  intro l sz
  refine Met.ofW (cc := cX8_becomes) (maxL := 4) (ret := (some .int)) (by decide) rfl ?_
  intro p e s m args below meth c s₁ B hml hv
  obtain ⟨rfl, hsz, hP, hD0, hm⟩ := hv
  have hx := B.exec
  have hb := B.bytes
  have hr := B.returns
  have hts := atoms_spec (ws := Cond.code yX8_becomes cX8_becomes 4 (some .int) :: TBL) B.pre
  have hown : s.vm.findClass RX8 = some m.cls := findClass_of_methodNamed B.named
  have hlocks := B.notSynchronized
  subst hsz
  have hD := hD0.self (sz := s.heap.size)
  generalize hAe : va_A [(t, .inr (8, [.ref row, .ref kpt, .int images, .ref errs, .ref bitsOf, .ref sizeOf, .ref cels, .ref broken, .ref isFit, .ref breaks, .int mfit, .int known, .ref act, .ref wth, .ref facts, .ref pile, .int laid, .int hre, .int opnd, .int bad, .int usg, .ref trc, .int trcd, .int isP])), (row, .inl (xI G, 400, .inl row_f))] s.heap.size = A at hD hm ⊢
  have hA : ∀ q : Nat, s.heap.size ≤ q → A q := fun q h => by rw [← hAe]; exact Or.inr h
  have hK := hm.1
  have hZ : xAnd p m c cX8_becomes 4 s _ (Cond.code yX8_becomes cX8_becomes 4 (some .int) :: TBL) RX8 G A := ⟨⟨hx, hb, hml, hown, hts⟩, tcons, hA, hm⟩
  have hP : va_P G.1 vwCl [(t, .inr (8, [.ref row, .ref kpt, .int images, .ref errs, .ref bitsOf, .ref sizeOf, .ref cels, .ref broken, .ref isFit, .ref breaks, .int mfit, .int known, .ref act, .ref wth, .ref facts, .ref pile, .int laid, .int hre, .int opnd, .int bad, .int usg, .ref trc, .int trcd, .int isP])), (row, .inl (xI G, 400, .inl row_f))] s.heap := hP
  have hl := lv_entry ([.ref t, .int sp, .int v]) (n := 4) (Nat.le_of_ble_eq_true rfl)
  rw [lg_entry_eq]
  generalize (lg_sl ([.ref t, .int sp, .int v]) ++ List.replicate (4 - (lg_sl ([.ref t, .int sp, .int v])).length) Slot.unset).toArray = ls at hl ⊢
  have hl : lv_has ls 4 [(0, .ref t), (1, .int sp), (2, .int v)] := hl
  generalize hQ : MQ below _ _ s _ _ _ = Q
  refine xGo (A := A) hP (fun H locs hP hS => ?_)
  unfold F_X8_becomes at hF
  refine lv_aload_n hx hb dX8_becomes_0 rfl (lv_at hl 0 rfl) ?_
  refine va_get (ci := 8) (v := .ref row) (C := RX8) (T := TX8) (N := 24) hx hb hts (fun w h => tcons w (xin8 w h)) hown hK hP 0 rfl rfl 0 (by decide) (hts _ (tcons _ m137)) (fun _ h9 => h9) rfl dX8_becomes_1 ?_
  refine lv_iload_n hx hb dX8_becomes_4 rfl (lv_at hl 1 rfl) ?_
  obtain ⟨g5, hF⟩ := gdS hF
  refine va_iald hx hb hK hP 1 0 rfl rfl g5 dX8_becomes_5 ?_
  refine lv_istore_n (lv' := [(3, .int (row_f sp.toNatClampNeg)), (0, .ref t), (1, .int sp), (2, .int v)]) hx hb dX8_becomes_6 rfl hl (by decide) rfl (fun ls hl => ?_)
  refine lv_aload_n hx hb dX8_becomes_7 rfl (lv_at hl 1 rfl) ?_
  refine va_get (ci := 8) (v := .ref row) (C := RX8) (T := TX8) (N := 24) hx hb hts (fun w h => tcons w (xin8 w h)) hown hK hP 0 rfl rfl 0 (by decide) (hts _ (tcons _ m137)) (fun _ h9 => h9) rfl dX8_becomes_8 ?_
  refine lv_iload_n hx hb dX8_becomes_11 rfl (lv_at hl 2 rfl) ?_
  refine lv_iload_n hx hb dX8_becomes_12 rfl (lv_at hl 3 rfl) ?_
  obtain ⟨g13, hF⟩ := gdS hF
  refine va_iast hx hb hK hP hD hS 1 0 rfl rfl g13 dX8_becomes_13 (fun H locs hP hD hS => ?_)
  have hP : va_P G.1 vwCl [(t, .inr (8, [.ref row, .ref kpt, .int images, .ref errs, .ref bitsOf, .ref sizeOf, .ref cels, .ref broken, .ref isFit, .ref breaks, .int mfit, .int known, .ref act, .ref wth, .ref facts, .ref pile, .int laid, .int hre, .int opnd, .int bad, .int usg, .ref trc, .int trcd, .int isP])), (row, .inl (xI G, 400, .inl (upd row_f sp.toNatClampNeg v)))] H := hP
  have hD : va_D A [(t, .inr (8, [.ref row, .ref kpt, .int images, .ref errs, .ref bitsOf, .ref sizeOf, .ref cels, .ref broken, .ref isFit, .ref breaks, .int mfit, .int known, .ref act, .ref wth, .ref facts, .ref pile, .int laid, .int hre, .int opnd, .int bad, .int usg, .ref trc, .int trcd, .int isP])), (row, .inl (xI G, 400, .inl (upd row_f sp.toNatClampNeg v)))] := hD
  refine lv_iload_n hx hb dX8_becomes_14 rfl (lv_at hl 0 rfl) ?_
  obtain rfl := Option.some.inj hF
  rw [← hQ]
  exact W.iret (v := (row_f sp.toNatClampNeg)) hx hb hr (fun t ht hW => ⟨⟨_, (), rfl, ⟨rfl, rfl⟩, xLf hP ht⟩, hS.F ht⟩) hS.2.2 dX8_becomes_15
def F_X8_of (row_f : Nat → Int32) (br : Int32) (wh : Int32) : Option Int32 := if ((((8 : Int32) + ((3 : Int32) * br)) + wh) < 0 ∨ 400 ≤ (((8 : Int32) + ((3 : Int32) * br)) + wh).toNatClampNeg) then none else (some (row_f (((8 : Int32) + ((3 : Int32) * br)) + wh).toNatClampNeg))
theorem hdX8_of : yX8_of.cls ≠ "java/lang/invoke/MethodHandle" ∧ yX8_of.cls ≠ "java/lang/invoke/VarHandle" ∧ (parseMethodDescriptor yX8_of.desc).map (fun d => d.parameters.length) = some 2 := by decide +kernel
set_option maxHeartbeats 4000000 in
set_option maxRecDepth 100000 in
theorem c_X8_of (G : xG) (t : Nat) (row : Nat) (kpt : Nat) (errs : Nat) (bitsOf : Nat) (sizeOf : Nat) (cels : Nat) (broken : Nat) (isFit : Nat) (breaks : Nat) (act : Nat) (wth : Nat) (facts : Nat) (pile : Nat) (trc : Nat) (images : Int32) (mfit : Int32) (known : Int32) (laid : Int32) (hre : Int32) (opnd : Int32) (bad : Int32) (usg : Int32) (trcd : Int32) (isP : Int32) (row_f : Nat → Int32) (br : Int32) (wh : Int32)  (u : Int32) (hF : F_X8_of row_f br wh = some u) : Ki G .int yX8_of (Cond.code yX8_of cX8_of 3 (some .int) :: TBL) { frames := 0, cells := 0, slots := 0, locals := 0 } [.ref t, .int br, .int wh] [(t, .inr (8, [.ref row, .ref kpt, .int images, .ref errs, .ref bitsOf, .ref sizeOf, .ref cels, .ref broken, .ref isFit, .ref breaks, .int mfit, .int known, .ref act, .ref wth, .ref facts, .ref pile, .int laid, .int hre, .int opnd, .int bad, .int usg, .ref trc, .int trcd, .int isP])), (row, .inl (xI G, 400, .inl row_f))] [(t, .inr (8, [.ref row, .ref kpt, .int images, .ref errs, .ref bitsOf, .ref sizeOf, .ref cels, .ref broken, .ref isFit, .ref breaks, .int mfit, .int known, .ref act, .ref wth, .ref facts, .ref pile, .int laid, .int hre, .int opnd, .int bad, .int usg, .ref trc, .int trcd, .int isP])), (row, .inl (xI G, 400, .inl row_f))] u := by
  intro l sz
  refine Met.ofW (cc := cX8_of) (maxL := 3) (ret := (some .int)) (by decide) rfl ?_
  intro p e s m args below meth c s₁ B hml hv
  obtain ⟨rfl, hsz, hP, hD0, hm⟩ := hv
  have hx := B.exec
  have hb := B.bytes
  have hr := B.returns
  have hts := atoms_spec (ws := Cond.code yX8_of cX8_of 3 (some .int) :: TBL) B.pre
  have hown : s.vm.findClass RX8 = some m.cls := findClass_of_methodNamed B.named
  have hlocks := B.notSynchronized
  subst hsz
  have hD := hD0.self (sz := s.heap.size)
  generalize hAe : va_A [(t, .inr (8, [.ref row, .ref kpt, .int images, .ref errs, .ref bitsOf, .ref sizeOf, .ref cels, .ref broken, .ref isFit, .ref breaks, .int mfit, .int known, .ref act, .ref wth, .ref facts, .ref pile, .int laid, .int hre, .int opnd, .int bad, .int usg, .ref trc, .int trcd, .int isP])), (row, .inl (xI G, 400, .inl row_f))] s.heap.size = A at hD hm ⊢
  have hA : ∀ q : Nat, s.heap.size ≤ q → A q := fun q h => by rw [← hAe]; exact Or.inr h
  have hK := hm.1
  have hZ : xAnd p m c cX8_of 3 s _ (Cond.code yX8_of cX8_of 3 (some .int) :: TBL) RX8 G A := ⟨⟨hx, hb, hml, hown, hts⟩, tcons, hA, hm⟩
  have hP : va_P G.1 vwCl [(t, .inr (8, [.ref row, .ref kpt, .int images, .ref errs, .ref bitsOf, .ref sizeOf, .ref cels, .ref broken, .ref isFit, .ref breaks, .int mfit, .int known, .ref act, .ref wth, .ref facts, .ref pile, .int laid, .int hre, .int opnd, .int bad, .int usg, .ref trc, .int trcd, .int isP])), (row, .inl (xI G, 400, .inl row_f))] s.heap := hP
  have hl := lv_entry ([.ref t, .int br, .int wh]) (n := 3) (Nat.le_of_ble_eq_true rfl)
  rw [lg_entry_eq]
  generalize (lg_sl ([.ref t, .int br, .int wh]) ++ List.replicate (3 - (lg_sl ([.ref t, .int br, .int wh])).length) Slot.unset).toArray = ls at hl ⊢
  have hl : lv_has ls 3 [(0, .ref t), (1, .int br), (2, .int wh)] := hl
  generalize hQ : MQ below _ _ s _ _ _ = Q
  refine xGo (A := A) hP (fun H locs hP hS => ?_)
  unfold F_X8_of at hF
  refine lv_aload_n hx hb dX8_of_0 rfl (lv_at hl 0 rfl) ?_
  refine va_get (ci := 8) (v := .ref row) (C := RX8) (T := TX8) (N := 24) hx hb hts (fun w h => tcons w (xin8 w h)) hown hK hP 0 rfl rfl 0 (by decide) (hts _ (tcons _ m137)) (fun _ h9 => h9) rfl dX8_of_1 ?_
  refine lv_bipush (v := 8) hx hb dX8_of_4 (by decide) ?_
  refine lv_iconst (v := 3) hx hb dX8_of_6 (by decide) ?_
  refine lv_iload_n hx hb dX8_of_7 rfl (lv_at hl 1 rfl) ?_
  refine lv_imul hx hb dX8_of_8 ?_
  refine lv_iadd hx hb dX8_of_9 ?_
  refine lv_iload_n hx hb dX8_of_10 rfl (lv_at hl 2 rfl) ?_
  refine lv_iadd hx hb dX8_of_11 ?_
  obtain ⟨g12, hF⟩ := gdS hF
  refine va_iald hx hb hK hP 1 0 rfl rfl g12 dX8_of_12 ?_
  obtain rfl := Option.some.inj hF
  rw [← hQ]
  exact W.iret (v := (row_f (((8 : Int32) + ((3 : Int32) * br)) + wh).toNatClampNeg)) hx hb hr (fun t ht hW => ⟨⟨_, (), rfl, ⟨rfl, rfl⟩, xLf hP ht⟩, hS.F ht⟩) hS.2.2 dX8_of_13
def F_X8_doesBreak (broken_f : Nat → Int64) (vo : Int32) (sa : Int32) : Option Int32 := if (vo < 0 ∨ 729 ≤ vo.toNatClampNeg) then none else (if (lg_cmp ((((broken_f vo.toNatClampNeg).toUInt64 >>> (sa.toInt64.toUInt64 &&& Int64.toUInt64 63)).toInt64) &&& (1 : Int64)) (1 : Int64)) = 0 then (some (1 : Int32)) else (some (0 : Int32)))
theorem hdX8_doesBreak : yX8_doesBreak.cls ≠ "java/lang/invoke/MethodHandle" ∧ yX8_doesBreak.cls ≠ "java/lang/invoke/VarHandle" ∧ (parseMethodDescriptor yX8_doesBreak.desc).map (fun d => d.parameters.length) = some 2 := by decide +kernel
set_option maxHeartbeats 4000000 in
set_option maxRecDepth 100000 in
theorem c_X8_doesBreak (G : xG) (t : Nat) (row : Nat) (kpt : Nat) (errs : Nat) (bitsOf : Nat) (sizeOf : Nat) (cels : Nat) (broken : Nat) (isFit : Nat) (breaks : Nat) (act : Nat) (wth : Nat) (facts : Nat) (pile : Nat) (trc : Nat) (images : Int32) (mfit : Int32) (known : Int32) (laid : Int32) (hre : Int32) (opnd : Int32) (bad : Int32) (usg : Int32) (trcd : Int32) (isP : Int32) (broken_f : Nat → Int64) (vo : Int32) (sa : Int32)  (u : Int32) (hF : F_X8_doesBreak broken_f vo sa = some u) : Ki G .boolean yX8_doesBreak (Cond.code yX8_doesBreak cX8_doesBreak 3 (some .boolean) :: TBL) { frames := 0, cells := 0, slots := 0, locals := 0 } [.ref t, .int vo, .int sa] [(t, .inr (8, [.ref row, .ref kpt, .int images, .ref errs, .ref bitsOf, .ref sizeOf, .ref cels, .ref broken, .ref isFit, .ref breaks, .int mfit, .int known, .ref act, .ref wth, .ref facts, .ref pile, .int laid, .int hre, .int opnd, .int bad, .int usg, .ref trc, .int trcd, .int isP])), (broken, .inl (xJ G, 729, .inr (.inl broken_f)))] [(t, .inr (8, [.ref row, .ref kpt, .int images, .ref errs, .ref bitsOf, .ref sizeOf, .ref cels, .ref broken, .ref isFit, .ref breaks, .int mfit, .int known, .ref act, .ref wth, .ref facts, .ref pile, .int laid, .int hre, .int opnd, .int bad, .int usg, .ref trc, .int trcd, .int isP])), (broken, .inl (xJ G, 729, .inr (.inl broken_f)))] u := by
  intro l sz
  refine Met.ofW (cc := cX8_doesBreak) (maxL := 3) (ret := (some .boolean)) (by decide) rfl ?_
  intro p e s m args below meth c s₁ B hml hv
  obtain ⟨rfl, hsz, hP, hD0, hm⟩ := hv
  have hx := B.exec
  have hb := B.bytes
  have hr := B.returns
  have hts := atoms_spec (ws := Cond.code yX8_doesBreak cX8_doesBreak 3 (some .boolean) :: TBL) B.pre
  have hown : s.vm.findClass RX8 = some m.cls := findClass_of_methodNamed B.named
  have hlocks := B.notSynchronized
  subst hsz
  have hD := hD0.self (sz := s.heap.size)
  generalize hAe : va_A [(t, .inr (8, [.ref row, .ref kpt, .int images, .ref errs, .ref bitsOf, .ref sizeOf, .ref cels, .ref broken, .ref isFit, .ref breaks, .int mfit, .int known, .ref act, .ref wth, .ref facts, .ref pile, .int laid, .int hre, .int opnd, .int bad, .int usg, .ref trc, .int trcd, .int isP])), (broken, .inl (xJ G, 729, .inr (.inl broken_f)))] s.heap.size = A at hD hm ⊢
  have hA : ∀ q : Nat, s.heap.size ≤ q → A q := fun q h => by rw [← hAe]; exact Or.inr h
  have hK := hm.1
  have hZ : xAnd p m c cX8_doesBreak 3 s _ (Cond.code yX8_doesBreak cX8_doesBreak 3 (some .boolean) :: TBL) RX8 G A := ⟨⟨hx, hb, hml, hown, hts⟩, tcons, hA, hm⟩
  have hP : va_P G.1 vwCl [(t, .inr (8, [.ref row, .ref kpt, .int images, .ref errs, .ref bitsOf, .ref sizeOf, .ref cels, .ref broken, .ref isFit, .ref breaks, .int mfit, .int known, .ref act, .ref wth, .ref facts, .ref pile, .int laid, .int hre, .int opnd, .int bad, .int usg, .ref trc, .int trcd, .int isP])), (broken, .inl (xJ G, 729, .inr (.inl broken_f)))] s.heap := hP
  have hl := lv_entry ([.ref t, .int vo, .int sa]) (n := 3) (Nat.le_of_ble_eq_true rfl)
  rw [lg_entry_eq]
  generalize (lg_sl ([.ref t, .int vo, .int sa]) ++ List.replicate (3 - (lg_sl ([.ref t, .int vo, .int sa])).length) Slot.unset).toArray = ls at hl ⊢
  have hl : lv_has ls 3 [(0, .ref t), (1, .int vo), (2, .int sa)] := hl
  generalize hQ : MQ below _ _ s _ _ _ = Q
  refine xGo (A := A) hP (fun H locs hP hS => ?_)
  unfold F_X8_doesBreak at hF
  refine lv_aload_n hx hb dX8_doesBreak_0 rfl (lv_at hl 0 rfl) ?_
  refine va_get (ci := 8) (v := .ref broken) (C := RX8) (T := TX8) (N := 24) hx hb hts (fun w h => tcons w (xin8 w h)) hown hK hP 0 rfl rfl 7 (by decide) (hts _ (tcons _ m143)) (fun _ h9 => h9) rfl dX8_doesBreak_1 ?_
  refine lv_iload_n hx hb dX8_doesBreak_4 rfl (lv_at hl 1 rfl) ?_
  obtain ⟨g5, hF⟩ := gdS hF
  refine va_lald hx hb hK hP 1 1 rfl rfl g5 dX8_doesBreak_5 ?_
  refine lv_iload_n hx hb dX8_doesBreak_6 rfl (lv_at hl 2 rfl) ?_
  refine lv_lushr hx hb dX8_doesBreak_7 rfl ?_
  refine lv_lconst (v := 1) hx hb dX8_doesBreak_8 (by decide) ?_
  refine lv_land hx hb dX8_doesBreak_9 ?_
  refine lv_lconst (v := 1) hx hb dX8_doesBreak_10 (by decide) ?_
  refine W.lcmp hx hb dX8_doesBreak_11 ?_
  refine lv_if_ne (tgt := 19) hx hb dX8_doesBreak_12 (by decide) (fun c12 => ?_) (fun c12 => ?_)
  · have hF := itN c12 hF
    refine lv_iconst (v := 0) hx hb dX8_doesBreak_19 (by decide) ?_
    obtain rfl := Option.some.inj hF
    rw [← hQ]
    exact W.zret (v := (0 : Int32)) hx hb hr (show narrow .boolean (.int (0 : Int32)) = .int (0 : Int32) from by decide) (fun t ht hW => ⟨⟨_, (), rfl, ⟨rfl, (show narrow .boolean (.int (0 : Int32)) = .int (0 : Int32) from by decide)⟩, xLf hP ht⟩, hS.F ht⟩) hS.2.2 dX8_doesBreak_20
  · have hF := itP c12 hF
    refine lv_iconst (v := 1) hx hb dX8_doesBreak_15 (by decide) ?_
    refine lv_goto (tgt := 20) hx hb dX8_doesBreak_16 (by decide) ?_
    obtain rfl := Option.some.inj hF
    rw [← hQ]
    exact W.zret (v := (1 : Int32)) hx hb hr (show narrow .boolean (.int (1 : Int32)) = .int (1 : Int32) from by decide) (fun t ht hW => ⟨⟨_, (), rfl, ⟨rfl, (show narrow .boolean (.int (1 : Int32)) = .int (1 : Int32) from by decide)⟩, xLf hP ht⟩, hS.F ht⟩) hS.2.2 dX8_doesBreak_20
def B_X8_doesFit_2 (row_f : Nat → Int32) (broken_f : Nat → Int64) (vo : Int32) (k2 : (Int32) → Option Int32) (v2 : (Int32)) : Option Int32 := if (row_f (3 : Int32).toNatClampNeg) ≤ v2 then (some (1 : Int32)) else (if (((26 : Int32) + ((2 : Int32) * v2)) < 0 ∨ 400 ≤ ((26 : Int32) + ((2 : Int32) * v2)).toNatClampNeg) then none else (bd (F_X8_doesBreak broken_f vo (row_f ((26 : Int32) + ((2 : Int32) * v2)).toNatClampNeg)) (fun (u1 : Int32) => if ((((26 : Int32) + ((2 : Int32) * v2)) + (1 : Int32)) < 0 ∨ 400 ≤ (((26 : Int32) + ((2 : Int32) * v2)) + (1 : Int32)).toNatClampNeg) then none else (if (row_f (((26 : Int32) + ((2 : Int32) * v2)) + (1 : Int32)).toNatClampNeg) = (1 : Int32) then (if u1 = (1 : Int32) then (k2 (v2 + (1 : Int32))) else (some (0 : Int32))) else (if u1 = (0 : Int32) then (k2 (v2 + (1 : Int32))) else (some (0 : Int32)))))))
def F_X8_doesFit (row_f : Nat → Int32) (broken_f : Nat → Int64) (vo : Int32) : Option Int32 := lp (B_X8_doesFit_2 row_f broken_f vo) fuelC (0 : Int32)
theorem hdX8_doesFit : yX8_doesFit.cls ≠ "java/lang/invoke/MethodHandle" ∧ yX8_doesFit.cls ≠ "java/lang/invoke/VarHandle" ∧ (parseMethodDescriptor yX8_doesFit.desc).map (fun d => d.parameters.length) = some 1 := by decide +kernel
set_option maxHeartbeats 4000000 in
set_option maxRecDepth 100000 in
theorem c_X8_doesFit (G : xG) (t : Nat) (row : Nat) (kpt : Nat) (errs : Nat) (bitsOf : Nat) (sizeOf : Nat) (cels : Nat) (broken : Nat) (isFit : Nat) (breaks : Nat) (act : Nat) (wth : Nat) (facts : Nat) (pile : Nat) (trc : Nat) (images : Int32) (mfit : Int32) (known : Int32) (laid : Int32) (hre : Int32) (opnd : Int32) (bad : Int32) (usg : Int32) (trcd : Int32) (isP : Int32) (row_f : Nat → Int32) (broken_f : Nat → Int64) (vo : Int32)  (u : Int32) (hF : F_X8_doesFit row_f broken_f vo = some u) : Ki G .boolean yX8_doesFit (Cond.code yX8_doesFit cX8_doesFit 4 (some .boolean) :: TBL) { frames := 1, cells := 0, slots := 0, locals := 22 } [.ref t, .int vo] [(t, .inr (8, [.ref row, .ref kpt, .int images, .ref errs, .ref bitsOf, .ref sizeOf, .ref cels, .ref broken, .ref isFit, .ref breaks, .int mfit, .int known, .ref act, .ref wth, .ref facts, .ref pile, .int laid, .int hre, .int opnd, .int bad, .int usg, .ref trc, .int trcd, .int isP])), (row, .inl (xI G, 400, .inl row_f)), (broken, .inl (xJ G, 729, .inr (.inl broken_f)))] [(t, .inr (8, [.ref row, .ref kpt, .int images, .ref errs, .ref bitsOf, .ref sizeOf, .ref cels, .ref broken, .ref isFit, .ref breaks, .int mfit, .int known, .ref act, .ref wth, .ref facts, .ref pile, .int laid, .int hre, .int opnd, .int bad, .int usg, .ref trc, .int trcd, .int isP])), (row, .inl (xI G, 400, .inl row_f)), (broken, .inl (xJ G, 729, .inr (.inl broken_f)))] u := by
  intro l sz
  refine Met.ofW (cc := cX8_doesFit) (maxL := 4) (ret := (some .boolean)) (by decide) rfl ?_
  intro p e s m args below meth c s₁ B hml hv
  obtain ⟨rfl, hsz, hP, hD0, hm⟩ := hv
  have hx := B.exec
  have hb := B.bytes
  have hr := B.returns
  have hts := atoms_spec (ws := Cond.code yX8_doesFit cX8_doesFit 4 (some .boolean) :: TBL) B.pre
  have hown : s.vm.findClass RX8 = some m.cls := findClass_of_methodNamed B.named
  have hlocks := B.notSynchronized
  subst hsz
  have hD := hD0.self (sz := s.heap.size)
  generalize hAe : va_A [(t, .inr (8, [.ref row, .ref kpt, .int images, .ref errs, .ref bitsOf, .ref sizeOf, .ref cels, .ref broken, .ref isFit, .ref breaks, .int mfit, .int known, .ref act, .ref wth, .ref facts, .ref pile, .int laid, .int hre, .int opnd, .int bad, .int usg, .ref trc, .int trcd, .int isP])), (row, .inl (xI G, 400, .inl row_f)), (broken, .inl (xJ G, 729, .inr (.inl broken_f)))] s.heap.size = A at hD hm ⊢
  have hA : ∀ q : Nat, s.heap.size ≤ q → A q := fun q h => by rw [← hAe]; exact Or.inr h
  have hK := hm.1
  have hZ : xAnd p m c cX8_doesFit 4 s _ (Cond.code yX8_doesFit cX8_doesFit 4 (some .boolean) :: TBL) RX8 G A := ⟨⟨hx, hb, hml, hown, hts⟩, tcons, hA, hm⟩
  have hP : va_P G.1 vwCl [(t, .inr (8, [.ref row, .ref kpt, .int images, .ref errs, .ref bitsOf, .ref sizeOf, .ref cels, .ref broken, .ref isFit, .ref breaks, .int mfit, .int known, .ref act, .ref wth, .ref facts, .ref pile, .int laid, .int hre, .int opnd, .int bad, .int usg, .ref trc, .int trcd, .int isP])), (row, .inl (xI G, 400, .inl row_f)), (broken, .inl (xJ G, 729, .inr (.inl broken_f)))] s.heap := hP
  have hl := lv_entry ([.ref t, .int vo]) (n := 4) (Nat.le_of_ble_eq_true rfl)
  rw [lg_entry_eq]
  generalize (lg_sl ([.ref t, .int vo]) ++ List.replicate (4 - (lg_sl ([.ref t, .int vo])).length) Slot.unset).toArray = ls at hl ⊢
  have hl : lv_has ls 4 [(0, .ref t), (1, .int vo)] := hl
  generalize hQ : MQ below _ _ s _ _ _ = Q
  refine xGo (A := A) hP (fun H locs hP hS => ?_)
  unfold F_X8_doesFit at hF
  refine lv_iconst (v := 0) hx hb dX8_doesFit_0 (by decide) ?_
  refine lv_istore_n (lv' := [(2, .int (0 : Int32)), (0, .ref t), (1, .int vo)]) hx hb dX8_doesFit_1 rfl hl (by decide) rfl (fun ls hl => ?_)
  refine xLoop1 (body := (B_X8_doesFit_2 row_f broken_f vo)) (fun (v2_0 : Int32) H locs ls => va_P G.1 vwCl [(t, .inr (8, [.ref row, .ref kpt, .int images, .ref errs, .ref bitsOf, .ref sizeOf, .ref cels, .ref broken, .ref isFit, .ref breaks, .int mfit, .int known, .ref act, .ref wth, .ref facts, .ref pile, .int laid, .int hre, .int opnd, .int bad, .int usg, .ref trc, .int trcd, .int isP])), (row, .inl (xI G, 400, .inl row_f)), (broken, .inl (xJ G, 729, .inr (.inl broken_f)))] H ∧ va_D A [(t, .inr (8, [.ref row, .ref kpt, .int images, .ref errs, .ref bitsOf, .ref sizeOf, .ref cels, .ref broken, .ref isFit, .ref breaks, .int mfit, .int known, .ref act, .ref wth, .ref facts, .ref pile, .int laid, .int hre, .int opnd, .int bad, .int usg, .ref trc, .int trcd, .int isP])), (row, .inl (xI G, 400, .inl row_f)), (broken, .inl (xJ G, 729, .inr (.inl broken_f)))] ∧ va_S A s.heap H locs ∧ lv_has ls 4 [(0, .ref t), (1, .int vo), (2, .int v2_0)]) (fun N2 v2_0 ih2 H locs ls hI hF => ?_) fuelC (0 : Int32) H locs ls ⟨hP, hD, hS, lv_sub hl [1, 2, 0] rfl⟩ hF
  obtain ⟨hP, hD, hS, hl⟩ := hI
  unfold B_X8_doesFit_2 at hF
  refine lv_iload_n hx hb dX8_doesFit_2 rfl (lv_at hl 2 rfl) ?_
  refine lv_aload_n hx hb dX8_doesFit_3 rfl (lv_at hl 0 rfl) ?_
  refine va_get (ci := 8) (v := .ref row) (C := RX8) (T := TX8) (N := 24) hx hb hts (fun w h => tcons w (xin8 w h)) hown hK hP 0 rfl rfl 0 (by decide) (hts _ (tcons _ m137)) (fun _ h9 => h9) rfl dX8_doesFit_4 ?_
  refine lv_iconst (v := 3) hx hb dX8_doesFit_7 (by decide) ?_
  refine va_iald hx hb hK hP 1 0 rfl rfl (by unfold vp_in; decide) dX8_doesFit_8 ?_
  refine lv_icmp_ge (tgt := 58) hx hb dX8_doesFit_9 (by decide) (fun c9 => ?_) (fun c9 => ?_)
  · have hF := itP c9 hF
    refine lv_iconst (v := 1) hx hb dX8_doesFit_58 (by decide) ?_
    obtain rfl := Option.some.inj hF
    rw [← hQ]
    exact W.zret (v := (1 : Int32)) hx hb hr (show narrow .boolean (.int (1 : Int32)) = .int (1 : Int32) from by decide) (fun t ht hW => ⟨⟨_, (), rfl, ⟨rfl, (show narrow .boolean (.int (1 : Int32)) = .int (1 : Int32) from by decide)⟩, xLf hP ht⟩, hS.F ht⟩) hS.2.2 dX8_doesFit_59
  · have hF := itN c9 hF
    refine lv_bipush (v := 26) hx hb dX8_doesFit_12 (by decide) ?_
    refine lv_iconst (v := 2) hx hb dX8_doesFit_14 (by decide) ?_
    refine lv_iload_n hx hb dX8_doesFit_15 rfl (lv_at hl 2 rfl) ?_
    refine lv_imul hx hb dX8_doesFit_16 ?_
    refine lv_iadd hx hb dX8_doesFit_17 ?_
    refine lv_istore_n (lv' := [(3, .int ((26 : Int32) + ((2 : Int32) * v2_0))), (0, .ref t), (1, .int vo), (2, .int v2_0)]) hx hb dX8_doesFit_18 rfl hl (by decide) rfl (fun ls hl => ?_)
    refine lv_aload_n hx hb dX8_doesFit_19 rfl (lv_at hl 1 rfl) ?_
    refine lv_iload_n hx hb dX8_doesFit_20 rfl (lv_at hl 2 rfl) ?_
    refine lv_aload_n hx hb dX8_doesFit_21 rfl (lv_at hl 1 rfl) ?_
    refine va_get (ci := 8) (v := .ref row) (C := RX8) (T := TX8) (N := 24) hx hb hts (fun w h => tcons w (xin8 w h)) hown hK hP 0 rfl rfl 0 (by decide) (hts _ (tcons _ m137)) (fun _ h9 => h9) rfl dX8_doesFit_22 ?_
    refine lv_iload_n hx hb dX8_doesFit_25 rfl (lv_at hl 0 rfl) ?_
    obtain ⟨g26, hF⟩ := gdS hF
    refine va_iald hx hb hK hP 1 0 rfl rfl g26 dX8_doesFit_26 ?_
    obtain ⟨u1, e1, hF⟩ := bdS hF
    refine xEndI (xRunV (As := [.int vo, .int (row_f ((26 : Int32) + ((2 : Int32) * v2_0)).toNatClampNeg)]) (rest := []) hZ (c_X8_doesBreak G t row kpt errs bitsOf sizeOf cels broken isFit breaks act wth facts pile trc images mfit known laid hre opnd bad usg trcd isP broken_f vo (row_f ((26 : Int32) + ((2 : Int32) * v2_0)).toNatClampNeg) u1 e1 l H.size) m321 m322 m323 m5 m324 2 ⟨rfl, hdX8_doesBreak⟩ ⟨Nat.le_of_ble_eq_true rfl, Nat.le_of_ble_eq_true rfl⟩ ⟨rfl, rfl⟩ hP hD hS 0 8 rfl rfl rfl [0, 2] rfl rfl rfl hl.1 rfl (Nat.le_of_ble_eq_true rfl) dX8_doesFit_27 ⟨Nat.zero_le _, Nat.zero_le _⟩) hP hD hS hA [0, 2] rfl rfl rfl (fun H locs n1 hP hD hS => ?_)
    have hP : va_P G.1 vwCl [(t, .inr (8, [.ref row, .ref kpt, .int images, .ref errs, .ref bitsOf, .ref sizeOf, .ref cels, .ref broken, .ref isFit, .ref breaks, .int mfit, .int known, .ref act, .ref wth, .ref facts, .ref pile, .int laid, .int hre, .int opnd, .int bad, .int usg, .ref trc, .int trcd, .int isP])), (row, .inl (xI G, 400, .inl row_f)), (broken, .inl (xJ G, 729, .inr (.inl broken_f)))] H := hP
    have hD : va_D A [(t, .inr (8, [.ref row, .ref kpt, .int images, .ref errs, .ref bitsOf, .ref sizeOf, .ref cels, .ref broken, .ref isFit, .ref breaks, .int mfit, .int known, .ref act, .ref wth, .ref facts, .ref pile, .int laid, .int hre, .int opnd, .int bad, .int usg, .ref trc, .int trcd, .int isP])), (row, .inl (xI G, 400, .inl row_f)), (broken, .inl (xJ G, 729, .inr (.inl broken_f)))] := hD
    refine lv_aload_n hx hb dX8_doesFit_30 rfl (lv_at hl 1 rfl) ?_
    refine va_get (ci := 8) (v := .ref row) (C := RX8) (T := TX8) (N := 24) hx hb hts (fun w h => tcons w (xin8 w h)) hown hK hP 0 rfl rfl 0 (by decide) (hts _ (tcons _ m137)) (fun _ h9 => h9) rfl dX8_doesFit_31 ?_
    refine lv_iload_n hx hb dX8_doesFit_34 rfl (lv_at hl 0 rfl) ?_
    refine lv_iconst (v := 1) hx hb dX8_doesFit_35 (by decide) ?_
    refine lv_iadd hx hb dX8_doesFit_36 ?_
    obtain ⟨g37, hF⟩ := gdS hF
    refine va_iald hx hb hK hP 1 0 rfl rfl g37 dX8_doesFit_37 ?_
    refine lv_iconst (v := 1) hx hb dX8_doesFit_38 (by decide) ?_
    refine lv_icmp_ne (tgt := 46) hx hb dX8_doesFit_39 (by decide) (fun c39 => ?_) (fun c39 => ?_)
    · have hF := itN c39 hF
      refine lv_iconst (v := 0) hx hb dX8_doesFit_46 (by decide) ?_
      refine lv_icmp_eq (tgt := 52) hx hb dX8_doesFit_47 (by decide) (fun c47 => ?_) (fun c47 => ?_)
      · have hF := itP c47 hF
        refine lv_iinc (v := (v2_0 + (1 : Int32))) (lv' := [(2, .int (v2_0 + (1 : Int32))), (3, .int ((26 : Int32) + ((2 : Int32) * v2_0))), (0, .ref t), (1, .int vo)]) hx hb dX8_doesFit_52 hl (k := 3) rfl (xInc_1 _) (by decide) rfl (fun ls hl => ?_)
        refine lv_goto (tgt := 2) hx hb dX8_doesFit_55 (by decide) ?_
        exact ih2 (v2_0 + (1 : Int32)) H locs ls ⟨hP, hD, hS, lv_sub hl [2, 3, 0] rfl⟩ hF
      · have hF := itN c47 hF
        refine lv_iconst (v := 0) hx hb dX8_doesFit_50 (by decide) ?_
        obtain rfl := Option.some.inj hF
        rw [← hQ]
        exact W.zret (v := (0 : Int32)) hx hb hr (show narrow .boolean (.int (0 : Int32)) = .int (0 : Int32) from by decide) (fun t ht hW => ⟨⟨_, (), rfl, ⟨rfl, (show narrow .boolean (.int (0 : Int32)) = .int (0 : Int32) from by decide)⟩, xLf hP ht⟩, hS.F ht⟩) hS.2.2 dX8_doesFit_51
    · have hF := itP c39 hF
      refine lv_iconst (v := 1) hx hb dX8_doesFit_42 (by decide) ?_
      refine lv_goto (tgt := 47) hx hb dX8_doesFit_43 (by decide) ?_
      refine lv_icmp_eq (tgt := 52) hx hb dX8_doesFit_47 (by decide) (fun c47 => ?_) (fun c47 => ?_)
      · have hF := itP c47 hF
        refine lv_iinc (v := (v2_0 + (1 : Int32))) (lv' := [(2, .int (v2_0 + (1 : Int32))), (3, .int ((26 : Int32) + ((2 : Int32) * v2_0))), (0, .ref t), (1, .int vo)]) hx hb dX8_doesFit_52 hl (k := 3) rfl (xInc_1 _) (by decide) rfl (fun ls hl => ?_)
        refine lv_goto (tgt := 2) hx hb dX8_doesFit_55 (by decide) ?_
        exact ih2 (v2_0 + (1 : Int32)) H locs ls ⟨hP, hD, hS, lv_sub hl [2, 3, 0] rfl⟩ hF
      · have hF := itN c47 hF
        refine lv_iconst (v := 0) hx hb dX8_doesFit_50 (by decide) ?_
        obtain rfl := Option.some.inj hF
        rw [← hQ]
        exact W.zret (v := (0 : Int32)) hx hb hr (show narrow .boolean (.int (0 : Int32)) = .int (0 : Int32) from by decide) (fun t ht hW => ⟨⟨_, (), rfl, ⟨rfl, (show narrow .boolean (.int (0 : Int32)) = .int (0 : Int32) from by decide)⟩, xLf hP ht⟩, hS.F ht⟩) hS.2.2 dX8_doesFit_51
def B_X8_findVows_84 (broken_f : Nat → Int64) (k41 : (Int32 × Int32 × (Nat → Int32) × (Nat → Int32)) → Option (Int32 × Int32 × (Nat → Int32) × (Nat → Int32))) (v41_0 : Int32) (v41_1 : Int32) (v41_2 : Nat → Int32) (u1 : Int32) (k84 : (Int32 × (Nat → Int32)) → Option (Int32 × Int32 × (Nat → Int32) × (Nat → Int32))) (v84 : (Int32 × (Nat → Int32))) : Option (Int32 × Int32 × (Nat → Int32) × (Nat → Int32)) := if (64 : Int32) ≤ v84.1 then (k41 ((v41_0 + (1 : Int32)), (v41_1 + (0 : Int32)), (upd v41_2 v41_0.toNatClampNeg (vp_nar .boolean u1)), v84.2)) else (if (v41_0 < 0 ∨ 729 ≤ v41_0.toNatClampNeg) then none else (if ((upd v41_2 v41_0.toNatClampNeg (vp_nar .boolean u1)) v41_0.toNatClampNeg) = 0 then (k41 ((v41_0 + (1 : Int32)), (v41_1 + (0 : Int32)), (upd v41_2 v41_0.toNatClampNeg (vp_nar .boolean u1)), v84.2)) else (if (v84.1 < 0 ∨ 64 ≤ v84.1.toNatClampNeg) then none else (bd (F_X8_doesBreak broken_f v41_0 v84.1) (fun (u2 : Int32) => if u2 = 0 then (if (v84.1 < 0 ∨ 64 ≤ v84.1.toNatClampNeg) then none else (k84 ((v84.1 + (1 : Int32)), (upd v84.2 v84.1.toNatClampNeg ((v84.2 v84.1.toNatClampNeg) + (0 : Int32)))))) else (if (v84.1 < 0 ∨ 64 ≤ v84.1.toNatClampNeg) then none else (k84 ((v84.1 + (1 : Int32)), (upd v84.2 v84.1.toNatClampNeg ((v84.2 v84.1.toNatClampNeg) + (1 : Int32)))))))))))
def B_X8_findVows_84b (broken_f : Nat → Int64) (k41 : (Int32 × Int32 × (Nat → Int32) × (Nat → Int32)) → Option (Int32 × Int32 × (Nat → Int32) × (Nat → Int32))) (v41_0 : Int32) (v41_1 : Int32) (v41_2 : Nat → Int32) (u1 : Int32) (k84 : (Int32 × (Nat → Int32)) → Option (Int32 × Int32 × (Nat → Int32) × (Nat → Int32))) (v84 : (Int32 × (Nat → Int32))) : Option (Int32 × Int32 × (Nat → Int32) × (Nat → Int32)) := if (64 : Int32) ≤ v84.1 then (k41 ((v41_0 + (1 : Int32)), (v41_1 + (1 : Int32)), (upd v41_2 v41_0.toNatClampNeg (vp_nar .boolean u1)), v84.2)) else (if (v41_0 < 0 ∨ 729 ≤ v41_0.toNatClampNeg) then none else (if ((upd v41_2 v41_0.toNatClampNeg (vp_nar .boolean u1)) v41_0.toNatClampNeg) = 0 then (k41 ((v41_0 + (1 : Int32)), (v41_1 + (1 : Int32)), (upd v41_2 v41_0.toNatClampNeg (vp_nar .boolean u1)), v84.2)) else (if (v84.1 < 0 ∨ 64 ≤ v84.1.toNatClampNeg) then none else (bd (F_X8_doesBreak broken_f v41_0 v84.1) (fun (u2 : Int32) => if u2 = 0 then (if (v84.1 < 0 ∨ 64 ≤ v84.1.toNatClampNeg) then none else (k84 ((v84.1 + (1 : Int32)), (upd v84.2 v84.1.toNatClampNeg ((v84.2 v84.1.toNatClampNeg) + (0 : Int32)))))) else (if (v84.1 < 0 ∨ 64 ≤ v84.1.toNatClampNeg) then none else (k84 ((v84.1 + (1 : Int32)), (upd v84.2 v84.1.toNatClampNeg ((v84.2 v84.1.toNatClampNeg) + (1 : Int32)))))))))))
def B_X8_findVows_41 (row_f : Nat → Int32) (broken_f : Nat → Int64) (k41 : (Int32 × Int32 × (Nat → Int32) × (Nat → Int32)) → Option (Int32 × Int32 × (Nat → Int32) × (Nat → Int32))) (v41 : (Int32 × Int32 × (Nat → Int32) × (Nat → Int32))) : Option (Int32 × Int32 × (Nat → Int32) × (Nat → Int32)) := if (729 : Int32) ≤ v41.1 then (some (v41.2.1, (1 : Int32), v41.2.2.1, v41.2.2.2)) else (bd (F_X8_doesFit row_f broken_f v41.1) (fun (u1 : Int32) => if (v41.1 < 0 ∨ 729 ≤ v41.1.toNatClampNeg) then none else (if (v41.1 < 0 ∨ 729 ≤ v41.1.toNatClampNeg) then none else (if ((upd v41.2.2.1 v41.1.toNatClampNeg (vp_nar .boolean u1)) v41.1.toNatClampNeg) = 0 then (lp (B_X8_findVows_84 broken_f k41 v41.1 v41.2.1 v41.2.2.1 u1) fuelC ((0 : Int32), v41.2.2.2)) else (lp (B_X8_findVows_84b broken_f k41 v41.1 v41.2.1 v41.2.2.1 u1) fuelC ((0 : Int32), v41.2.2.2))))))
def B_X8_findVows_20 (row_f : Nat → Int32) (broken_f : Nat → Int64) (isFit_f : Nat → Int32) (k20 : (Int32 × (Nat → Int32)) → Option (Int32 × Int32 × (Nat → Int32) × (Nat → Int32))) (v20 : (Int32 × (Nat → Int32))) : Option (Int32 × Int32 × (Nat → Int32) × (Nat → Int32)) := if (64 : Int32) ≤ v20.1 then (lp (B_X8_findVows_41 row_f broken_f) fuelC ((0 : Int32), (0 : Int32), isFit_f, v20.2)) else (if (v20.1 < 0 ∨ 64 ≤ v20.1.toNatClampNeg) then none else (k20 ((v20.1 + (1 : Int32)), (upd v20.2 v20.1.toNatClampNeg (0 : Int32)))))
def F_X8_findVows (mfit : Int32) (known : Int32) (row_f : Nat → Int32) (broken_f : Nat → Int64) (isFit_f : Nat → Int32) (breaks_f : Nat → Int32) : Option (Int32 × Int32 × (Nat → Int32) × (Nat → Int32)) := if known = 0 then (lp (B_X8_findVows_20 row_f broken_f isFit_f) fuelC ((0 : Int32), breaks_f)) else (some (mfit, known, isFit_f, breaks_f))
theorem hdX8_findVows : yX8_findVows.cls ≠ "java/lang/invoke/MethodHandle" ∧ yX8_findVows.cls ≠ "java/lang/invoke/VarHandle" ∧ (parseMethodDescriptor yX8_findVows.desc).map (fun d => d.parameters.length) = some 0 := by decide +kernel
set_option maxHeartbeats 4000000 in
set_option maxRecDepth 100000 in
theorem c_X8_findVows (G : xG) (t : Nat) (row : Nat) (kpt : Nat) (errs : Nat) (bitsOf : Nat) (sizeOf : Nat) (cels : Nat) (broken : Nat) (isFit : Nat) (breaks : Nat) (act : Nat) (wth : Nat) (facts : Nat) (pile : Nat) (trc : Nat) (images : Int32) (mfit : Int32) (known : Int32) (laid : Int32) (hre : Int32) (opnd : Int32) (bad : Int32) (usg : Int32) (trcd : Int32) (isP : Int32) (row_f : Nat → Int32) (broken_f : Nat → Int64) (isFit_f : Nat → Int32) (breaks_f : Nat → Int32)  (u : (Int32 × Int32 × (Nat → Int32) × (Nat → Int32))) (hF : F_X8_findVows mfit known row_f broken_f isFit_f breaks_f = some u) : Kv G yX8_findVows (Cond.code yX8_findVows cX8_findVows 3 none :: TBL) { frames := 2, cells := 0, slots := 0, locals := 45 } [.ref t] [(t, .inr (8, [.ref row, .ref kpt, .int images, .ref errs, .ref bitsOf, .ref sizeOf, .ref cels, .ref broken, .ref isFit, .ref breaks, .int mfit, .int known, .ref act, .ref wth, .ref facts, .ref pile, .int laid, .int hre, .int opnd, .int bad, .int usg, .ref trc, .int trcd, .int isP])), (row, .inl (xI G, 400, .inl row_f)), (broken, .inl (xJ G, 729, .inr (.inl broken_f))), (isFit, .inl (xZ G, 729, .inl isFit_f)), (breaks, .inl (xI G, 64, .inl breaks_f))] [(t, .inr (8, [.ref row, .ref kpt, .int images, .ref errs, .ref bitsOf, .ref sizeOf, .ref cels, .ref broken, .ref isFit, .ref breaks, .int u.1, .int u.2.1, .ref act, .ref wth, .ref facts, .ref pile, .int laid, .int hre, .int opnd, .int bad, .int usg, .ref trc, .int trcd, .int isP])), (row, .inl (xI G, 400, .inl row_f)), (broken, .inl (xJ G, 729, .inr (.inl broken_f))), (isFit, .inl (xZ G, 729, .inl u.2.2.1)), (breaks, .inl (xI G, 64, .inl u.2.2.2))] := by
  intro l sz
  refine Met.ofW (cc := cX8_findVows) (maxL := 3) (ret := none) (by decide) rfl ?_
  intro p e s m args below meth c s₁ B hml hv
  obtain ⟨rfl, hsz, hP, hD0, hm⟩ := hv
  have hx := B.exec
  have hb := B.bytes
  have hr := B.returns
  have hts := atoms_spec (ws := Cond.code yX8_findVows cX8_findVows 3 none :: TBL) B.pre
  have hown : s.vm.findClass RX8 = some m.cls := findClass_of_methodNamed B.named
  have hlocks := B.notSynchronized
  subst hsz
  have hD := hD0.self (sz := s.heap.size)
  generalize hAe : va_A [(t, .inr (8, [.ref row, .ref kpt, .int images, .ref errs, .ref bitsOf, .ref sizeOf, .ref cels, .ref broken, .ref isFit, .ref breaks, .int mfit, .int known, .ref act, .ref wth, .ref facts, .ref pile, .int laid, .int hre, .int opnd, .int bad, .int usg, .ref trc, .int trcd, .int isP])), (row, .inl (xI G, 400, .inl row_f)), (broken, .inl (xJ G, 729, .inr (.inl broken_f))), (isFit, .inl (xZ G, 729, .inl isFit_f)), (breaks, .inl (xI G, 64, .inl breaks_f))] s.heap.size = A at hD hm ⊢
  have hA : ∀ q : Nat, s.heap.size ≤ q → A q := fun q h => by rw [← hAe]; exact Or.inr h
  have hK := hm.1
  have hZ : xAnd p m c cX8_findVows 3 s _ (Cond.code yX8_findVows cX8_findVows 3 none :: TBL) RX8 G A := ⟨⟨hx, hb, hml, hown, hts⟩, tcons, hA, hm⟩
  have hP : va_P G.1 vwCl [(t, .inr (8, [.ref row, .ref kpt, .int images, .ref errs, .ref bitsOf, .ref sizeOf, .ref cels, .ref broken, .ref isFit, .ref breaks, .int mfit, .int known, .ref act, .ref wth, .ref facts, .ref pile, .int laid, .int hre, .int opnd, .int bad, .int usg, .ref trc, .int trcd, .int isP])), (row, .inl (xI G, 400, .inl row_f)), (broken, .inl (xJ G, 729, .inr (.inl broken_f))), (isFit, .inl (xZ G, 729, .inl isFit_f)), (breaks, .inl (xI G, 64, .inl breaks_f))] s.heap := hP
  have hl := lv_entry ([.ref t]) (n := 3) (Nat.le_of_ble_eq_true rfl)
  rw [lg_entry_eq]
  generalize (lg_sl ([.ref t]) ++ List.replicate (3 - (lg_sl ([.ref t])).length) Slot.unset).toArray = ls at hl ⊢
  have hl : lv_has ls 3 [(0, .ref t)] := hl
  generalize hQ : MQ below _ _ s _ _ _ = Q
  refine xGo (A := A) hP (fun H locs hP hS => ?_)
  unfold F_X8_findVows at hF
  refine lv_aload_n hx hb dX8_findVows_0 rfl (lv_at hl 0 rfl) ?_
  refine va_get (ci := 8) (v := .int known) (C := RX8) (T := TX8) (N := 24) hx hb hts (fun w h => tcons w (xin8 w h)) hown hK hP 0 rfl rfl 11 (by decide) (hts _ (tcons _ m316)) (fun _ h9 => h9) rfl dX8_findVows_1 ?_
  refine lv_if_eq (tgt := 8) hx hb dX8_findVows_4 (by decide) (fun c4 => ?_) (fun c4 => ?_)
  · have hF := itP c4 hF
    refine lv_aload_n hx hb dX8_findVows_8 rfl (lv_at hl 0 rfl) ?_
    refine lv_iconst (v := 1) hx hb dX8_findVows_9 (by decide) ?_
    refine va_put (ci := 8) (v := .int (1 : Int32)) (ty := .boolean) (C := RX8) (T := TX8) (N := 24) hx hb hts (fun w h => tcons w (xin8 w h)) tyX8 tyX8_ok nmX8 hown hK hP hD hS 0 rfl rfl 11 (by decide) (hts _ (tcons _ m316)) (fun _ h9 => h9) rfl (by decide +kernel) (by decide) (by decide) (Nat.le_of_ble_eq_true rfl) dX8_findVows_10 (fun H locs hP hD hS => ?_)
    have hP : va_P G.1 vwCl [(t, .inr (8, [.ref row, .ref kpt, .int images, .ref errs, .ref bitsOf, .ref sizeOf, .ref cels, .ref broken, .ref isFit, .ref breaks, .int mfit, .int (1 : Int32), .ref act, .ref wth, .ref facts, .ref pile, .int laid, .int hre, .int opnd, .int bad, .int usg, .ref trc, .int trcd, .int isP])), (row, .inl (xI G, 400, .inl row_f)), (broken, .inl (xJ G, 729, .inr (.inl broken_f))), (isFit, .inl (xZ G, 729, .inl isFit_f)), (breaks, .inl (xI G, 64, .inl breaks_f))] H := hP
    have hD : va_D A [(t, .inr (8, [.ref row, .ref kpt, .int images, .ref errs, .ref bitsOf, .ref sizeOf, .ref cels, .ref broken, .ref isFit, .ref breaks, .int mfit, .int (1 : Int32), .ref act, .ref wth, .ref facts, .ref pile, .int laid, .int hre, .int opnd, .int bad, .int usg, .ref trc, .int trcd, .int isP])), (row, .inl (xI G, 400, .inl row_f)), (broken, .inl (xJ G, 729, .inr (.inl broken_f))), (isFit, .inl (xZ G, 729, .inl isFit_f)), (breaks, .inl (xI G, 64, .inl breaks_f))] := hD
    refine lv_aload_n hx hb dX8_findVows_13 rfl (lv_at hl 0 rfl) ?_
    refine lv_iconst (v := 0) hx hb dX8_findVows_14 (by decide) ?_
    refine va_put (ci := 8) (v := .int (0 : Int32)) (ty := .int) (C := RX8) (T := TX8) (N := 24) hx hb hts (fun w h => tcons w (xin8 w h)) tyX8 tyX8_ok nmX8 hown hK hP hD hS 0 rfl rfl 10 (by decide) (hts _ (tcons _ m303)) (fun _ h9 => h9) rfl (by decide +kernel) rfl rfl (Nat.le_of_ble_eq_true rfl) dX8_findVows_15 (fun H locs hP hD hS => ?_)
    have hP : va_P G.1 vwCl [(t, .inr (8, [.ref row, .ref kpt, .int images, .ref errs, .ref bitsOf, .ref sizeOf, .ref cels, .ref broken, .ref isFit, .ref breaks, .int (0 : Int32), .int (1 : Int32), .ref act, .ref wth, .ref facts, .ref pile, .int laid, .int hre, .int opnd, .int bad, .int usg, .ref trc, .int trcd, .int isP])), (row, .inl (xI G, 400, .inl row_f)), (broken, .inl (xJ G, 729, .inr (.inl broken_f))), (isFit, .inl (xZ G, 729, .inl isFit_f)), (breaks, .inl (xI G, 64, .inl breaks_f))] H := hP
    have hD : va_D A [(t, .inr (8, [.ref row, .ref kpt, .int images, .ref errs, .ref bitsOf, .ref sizeOf, .ref cels, .ref broken, .ref isFit, .ref breaks, .int (0 : Int32), .int (1 : Int32), .ref act, .ref wth, .ref facts, .ref pile, .int laid, .int hre, .int opnd, .int bad, .int usg, .ref trc, .int trcd, .int isP])), (row, .inl (xI G, 400, .inl row_f)), (broken, .inl (xJ G, 729, .inr (.inl broken_f))), (isFit, .inl (xZ G, 729, .inl isFit_f)), (breaks, .inl (xI G, 64, .inl breaks_f))] := hD
    refine lv_iconst (v := 0) hx hb dX8_findVows_18 (by decide) ?_
    refine lv_istore_n (lv' := [(1, .int (0 : Int32)), (0, .ref t)]) hx hb dX8_findVows_19 rfl hl (by decide) rfl (fun ls hl => ?_)
    refine xLoop2 (body := (B_X8_findVows_20 row_f broken_f isFit_f)) (fun (v20_0 : Int32) (v20_1 : Nat → Int32) H locs ls => va_P G.1 vwCl [(t, .inr (8, [.ref row, .ref kpt, .int images, .ref errs, .ref bitsOf, .ref sizeOf, .ref cels, .ref broken, .ref isFit, .ref breaks, .int (0 : Int32), .int (1 : Int32), .ref act, .ref wth, .ref facts, .ref pile, .int laid, .int hre, .int opnd, .int bad, .int usg, .ref trc, .int trcd, .int isP])), (row, .inl (xI G, 400, .inl row_f)), (broken, .inl (xJ G, 729, .inr (.inl broken_f))), (isFit, .inl (xZ G, 729, .inl isFit_f)), (breaks, .inl (xI G, 64, .inl v20_1))] H ∧ va_D A [(t, .inr (8, [.ref row, .ref kpt, .int images, .ref errs, .ref bitsOf, .ref sizeOf, .ref cels, .ref broken, .ref isFit, .ref breaks, .int (0 : Int32), .int (1 : Int32), .ref act, .ref wth, .ref facts, .ref pile, .int laid, .int hre, .int opnd, .int bad, .int usg, .ref trc, .int trcd, .int isP])), (row, .inl (xI G, 400, .inl row_f)), (broken, .inl (xJ G, 729, .inr (.inl broken_f))), (isFit, .inl (xZ G, 729, .inl isFit_f)), (breaks, .inl (xI G, 64, .inl v20_1))] ∧ va_S A s.heap H locs ∧ lv_has ls 3 [(0, .ref t), (1, .int v20_0)]) (fun N20 v20_0 v20_1 ih20 H locs ls hI hF => ?_) fuelC (0 : Int32) breaks_f H locs ls ⟨hP, hD, hS, lv_sub hl [1, 0] rfl⟩ hF
    obtain ⟨hP, hD, hS, hl⟩ := hI
    unfold B_X8_findVows_20 at hF
    refine lv_iload_n hx hb dX8_findVows_20 rfl (lv_at hl 1 rfl) ?_
    refine lv_bipush (v := 64) hx hb dX8_findVows_21 (by decide) ?_
    refine lv_icmp_ge (tgt := 39) hx hb dX8_findVows_23 (by decide) (fun c23 => ?_) (fun c23 => ?_)
    · have hF := itP c23 hF
      refine lv_iconst (v := 0) hx hb dX8_findVows_39 (by decide) ?_
      refine lv_istore_n (lv' := [(1, .int (0 : Int32)), (0, .ref t)]) hx hb dX8_findVows_40 rfl hl (by decide) rfl (fun ls hl => ?_)
      refine xLoop4 (body := (B_X8_findVows_41 row_f broken_f)) (fun (v41_0 : Int32) (v41_1 : Int32) (v41_2 : Nat → Int32) (v41_3 : Nat → Int32) H locs ls => va_P G.1 vwCl [(t, .inr (8, [.ref row, .ref kpt, .int images, .ref errs, .ref bitsOf, .ref sizeOf, .ref cels, .ref broken, .ref isFit, .ref breaks, .int v41_1, .int (1 : Int32), .ref act, .ref wth, .ref facts, .ref pile, .int laid, .int hre, .int opnd, .int bad, .int usg, .ref trc, .int trcd, .int isP])), (row, .inl (xI G, 400, .inl row_f)), (broken, .inl (xJ G, 729, .inr (.inl broken_f))), (isFit, .inl (xZ G, 729, .inl v41_2)), (breaks, .inl (xI G, 64, .inl v41_3))] H ∧ va_D A [(t, .inr (8, [.ref row, .ref kpt, .int images, .ref errs, .ref bitsOf, .ref sizeOf, .ref cels, .ref broken, .ref isFit, .ref breaks, .int v41_1, .int (1 : Int32), .ref act, .ref wth, .ref facts, .ref pile, .int laid, .int hre, .int opnd, .int bad, .int usg, .ref trc, .int trcd, .int isP])), (row, .inl (xI G, 400, .inl row_f)), (broken, .inl (xJ G, 729, .inr (.inl broken_f))), (isFit, .inl (xZ G, 729, .inl v41_2)), (breaks, .inl (xI G, 64, .inl v41_3))] ∧ va_S A s.heap H locs ∧ lv_has ls 3 [(0, .ref t), (1, .int v41_0)]) (fun N41 v41_0 v41_1 v41_2 v41_3 ih41 H locs ls hI hF => ?_) fuelC (0 : Int32) (0 : Int32) isFit_f v20_1 H locs ls ⟨hP, hD, hS, lv_sub hl [1, 0] rfl⟩ hF
      obtain ⟨hP, hD, hS, hl⟩ := hI
      unfold B_X8_findVows_41 at hF
      refine lv_iload_n hx hb dX8_findVows_41 rfl (lv_at hl 1 rfl) ?_
      refine lv_sipush (v := 729) hx hb dX8_findVows_42 (by decide) ?_
      refine lv_icmp_ge (tgt := 134) hx hb dX8_findVows_45 (by decide) (fun c45 => ?_) (fun c45 => ?_)
      · have hF := itP c45 hF
        obtain rfl := Option.some.inj hF
        rw [← hQ]
        exact W.vret hx hb hr (fun t ht hW => ⟨⟨(), rfl, trivial, xLf hP ht⟩, hS.F ht⟩) hS.2.2 dX8_findVows_134
      · have hF := itN c45 hF
        refine lv_aload_n hx hb dX8_findVows_48 rfl (lv_at hl 0 rfl) ?_
        refine va_get (ci := 8) (v := .ref isFit) (C := RX8) (T := TX8) (N := 24) hx hb hts (fun w h => tcons w (xin8 w h)) hown hK hP 0 rfl rfl 8 (by decide) (hts _ (tcons _ m144)) (fun _ h9 => h9) rfl dX8_findVows_49 ?_
        refine lv_iload_n hx hb dX8_findVows_52 rfl (lv_at hl 1 rfl) ?_
        refine lv_aload_n hx hb dX8_findVows_53 rfl (lv_at hl 0 rfl) ?_
        refine lv_iload_n hx hb dX8_findVows_54 rfl (lv_at hl 1 rfl) ?_
        obtain ⟨u1, e1, hF⟩ := bdS hF
        refine xEndI (xRunV (As := [.int v41_0]) (rest := [.int v41_0, .ref isFit]) hZ (c_X8_doesFit G t row kpt errs bitsOf sizeOf cels broken isFit breaks act wth facts pile trc images v41_1 (1 : Int32) laid hre opnd bad usg trcd isP row_f broken_f v41_0 u1 e1 l H.size) m317 m318 m319 m5 m320 1 ⟨rfl, hdX8_doesFit⟩ ⟨Nat.le_of_ble_eq_true rfl, Nat.le_of_ble_eq_true rfl⟩ ⟨rfl, rfl⟩ hP hD hS 0 8 rfl rfl rfl [0, 1, 2] rfl rfl rfl hl.1 rfl (Nat.le_of_ble_eq_true rfl) dX8_findVows_55 ⟨Nat.zero_le _, Nat.zero_le _⟩) hP hD hS hA [0, 1, 2] rfl rfl rfl (fun H locs n1 hP hD hS => ?_)
        have hP : va_P G.1 vwCl [(t, .inr (8, [.ref row, .ref kpt, .int images, .ref errs, .ref bitsOf, .ref sizeOf, .ref cels, .ref broken, .ref isFit, .ref breaks, .int v41_1, .int (1 : Int32), .ref act, .ref wth, .ref facts, .ref pile, .int laid, .int hre, .int opnd, .int bad, .int usg, .ref trc, .int trcd, .int isP])), (row, .inl (xI G, 400, .inl row_f)), (broken, .inl (xJ G, 729, .inr (.inl broken_f))), (isFit, .inl (xZ G, 729, .inl v41_2)), (breaks, .inl (xI G, 64, .inl v41_3))] H := hP
        have hD : va_D A [(t, .inr (8, [.ref row, .ref kpt, .int images, .ref errs, .ref bitsOf, .ref sizeOf, .ref cels, .ref broken, .ref isFit, .ref breaks, .int v41_1, .int (1 : Int32), .ref act, .ref wth, .ref facts, .ref pile, .int laid, .int hre, .int opnd, .int bad, .int usg, .ref trc, .int trcd, .int isP])), (row, .inl (xI G, 400, .inl row_f)), (broken, .inl (xJ G, 729, .inr (.inl broken_f))), (isFit, .inl (xZ G, 729, .inl v41_2)), (breaks, .inl (xI G, 64, .inl v41_3))] := hD
        obtain ⟨g58, hF⟩ := gdS hF
        refine va_zast hx hb hK hP hD hS 3 2 rfl rfl g58 dX8_findVows_58 (fun H locs hP hD hS => ?_)
        have hP : va_P G.1 vwCl [(t, .inr (8, [.ref row, .ref kpt, .int images, .ref errs, .ref bitsOf, .ref sizeOf, .ref cels, .ref broken, .ref isFit, .ref breaks, .int v41_1, .int (1 : Int32), .ref act, .ref wth, .ref facts, .ref pile, .int laid, .int hre, .int opnd, .int bad, .int usg, .ref trc, .int trcd, .int isP])), (row, .inl (xI G, 400, .inl row_f)), (broken, .inl (xJ G, 729, .inr (.inl broken_f))), (isFit, .inl (xZ G, 729, .inl (upd v41_2 v41_0.toNatClampNeg (vp_nar .boolean u1)))), (breaks, .inl (xI G, 64, .inl v41_3))] H := hP
        have hD : va_D A [(t, .inr (8, [.ref row, .ref kpt, .int images, .ref errs, .ref bitsOf, .ref sizeOf, .ref cels, .ref broken, .ref isFit, .ref breaks, .int v41_1, .int (1 : Int32), .ref act, .ref wth, .ref facts, .ref pile, .int laid, .int hre, .int opnd, .int bad, .int usg, .ref trc, .int trcd, .int isP])), (row, .inl (xI G, 400, .inl row_f)), (broken, .inl (xJ G, 729, .inr (.inl broken_f))), (isFit, .inl (xZ G, 729, .inl (upd v41_2 v41_0.toNatClampNeg (vp_nar .boolean u1)))), (breaks, .inl (xI G, 64, .inl v41_3))] := hD
        refine lv_aload_n hx hb dX8_findVows_59 rfl (lv_at hl 0 rfl) ?_
        refine lv_dup hx hb dX8_findVows_60 rfl ?_
        refine va_get (ci := 8) (v := .int v41_1) (C := RX8) (T := TX8) (N := 24) hx hb hts (fun w h => tcons w (xin8 w h)) hown hK hP 0 rfl rfl 10 (by decide) (hts _ (tcons _ m303)) (fun _ h9 => h9) rfl dX8_findVows_61 ?_
        refine lv_aload_n hx hb dX8_findVows_64 rfl (lv_at hl 0 rfl) ?_
        refine va_get (ci := 8) (v := .ref isFit) (C := RX8) (T := TX8) (N := 24) hx hb hts (fun w h => tcons w (xin8 w h)) hown hK hP 0 rfl rfl 8 (by decide) (hts _ (tcons _ m144)) (fun _ h9 => h9) rfl dX8_findVows_65 ?_
        refine lv_iload_n hx hb dX8_findVows_68 rfl (lv_at hl 1 rfl) ?_
        obtain ⟨g69, hF⟩ := gdS hF
        refine va_zald hx hb hK hP 3 2 rfl rfl g69 dX8_findVows_69 ?_
        refine lv_if_eq (tgt := 77) hx hb dX8_findVows_70 (by decide) (fun c70 => ?_) (fun c70 => ?_)
        · have hF := itP c70 hF
          refine lv_iconst (v := 0) hx hb dX8_findVows_77 (by decide) ?_
          refine lv_iadd hx hb dX8_findVows_78 ?_
          refine va_put (ci := 8) (v := .int (v41_1 + (0 : Int32))) (ty := .int) (C := RX8) (T := TX8) (N := 24) hx hb hts (fun w h => tcons w (xin8 w h)) tyX8 tyX8_ok nmX8 hown hK hP hD hS 0 rfl rfl 10 (by decide) (hts _ (tcons _ m303)) (fun _ h9 => h9) rfl (by decide +kernel) rfl rfl (Nat.le_of_ble_eq_true rfl) dX8_findVows_79 (fun H locs hP hD hS => ?_)
          have hP : va_P G.1 vwCl [(t, .inr (8, [.ref row, .ref kpt, .int images, .ref errs, .ref bitsOf, .ref sizeOf, .ref cels, .ref broken, .ref isFit, .ref breaks, .int (v41_1 + (0 : Int32)), .int (1 : Int32), .ref act, .ref wth, .ref facts, .ref pile, .int laid, .int hre, .int opnd, .int bad, .int usg, .ref trc, .int trcd, .int isP])), (row, .inl (xI G, 400, .inl row_f)), (broken, .inl (xJ G, 729, .inr (.inl broken_f))), (isFit, .inl (xZ G, 729, .inl (upd v41_2 v41_0.toNatClampNeg (vp_nar .boolean u1)))), (breaks, .inl (xI G, 64, .inl v41_3))] H := hP
          have hD : va_D A [(t, .inr (8, [.ref row, .ref kpt, .int images, .ref errs, .ref bitsOf, .ref sizeOf, .ref cels, .ref broken, .ref isFit, .ref breaks, .int (v41_1 + (0 : Int32)), .int (1 : Int32), .ref act, .ref wth, .ref facts, .ref pile, .int laid, .int hre, .int opnd, .int bad, .int usg, .ref trc, .int trcd, .int isP])), (row, .inl (xI G, 400, .inl row_f)), (broken, .inl (xJ G, 729, .inr (.inl broken_f))), (isFit, .inl (xZ G, 729, .inl (upd v41_2 v41_0.toNatClampNeg (vp_nar .boolean u1)))), (breaks, .inl (xI G, 64, .inl v41_3))] := hD
          refine lv_iconst (v := 0) hx hb dX8_findVows_82 (by decide) ?_
          refine lv_istore_n (lv' := [(2, .int (0 : Int32)), (0, .ref t), (1, .int v41_0)]) hx hb dX8_findVows_83 rfl hl (by decide) rfl (fun ls hl => ?_)
          refine xLoop2 (body := (B_X8_findVows_84 broken_f (lp (B_X8_findVows_41 row_f broken_f) N41) v41_0 v41_1 v41_2 u1)) (fun (v84_0 : Int32) (v84_1 : Nat → Int32) H locs ls => va_P G.1 vwCl [(t, .inr (8, [.ref row, .ref kpt, .int images, .ref errs, .ref bitsOf, .ref sizeOf, .ref cels, .ref broken, .ref isFit, .ref breaks, .int (v41_1 + (0 : Int32)), .int (1 : Int32), .ref act, .ref wth, .ref facts, .ref pile, .int laid, .int hre, .int opnd, .int bad, .int usg, .ref trc, .int trcd, .int isP])), (row, .inl (xI G, 400, .inl row_f)), (broken, .inl (xJ G, 729, .inr (.inl broken_f))), (isFit, .inl (xZ G, 729, .inl (upd v41_2 v41_0.toNatClampNeg (vp_nar .boolean u1)))), (breaks, .inl (xI G, 64, .inl v84_1))] H ∧ va_D A [(t, .inr (8, [.ref row, .ref kpt, .int images, .ref errs, .ref bitsOf, .ref sizeOf, .ref cels, .ref broken, .ref isFit, .ref breaks, .int (v41_1 + (0 : Int32)), .int (1 : Int32), .ref act, .ref wth, .ref facts, .ref pile, .int laid, .int hre, .int opnd, .int bad, .int usg, .ref trc, .int trcd, .int isP])), (row, .inl (xI G, 400, .inl row_f)), (broken, .inl (xJ G, 729, .inr (.inl broken_f))), (isFit, .inl (xZ G, 729, .inl (upd v41_2 v41_0.toNatClampNeg (vp_nar .boolean u1)))), (breaks, .inl (xI G, 64, .inl v84_1))] ∧ va_S A s.heap H locs ∧ lv_has ls 3 [(0, .ref t), (1, .int v41_0), (2, .int v84_0)]) (fun N84 v84_0 v84_1 ih84 H locs ls hI hF => ?_) fuelC (0 : Int32) v41_3 H locs ls ⟨hP, hD, hS, lv_sub hl [1, 2, 0] rfl⟩ hF
          obtain ⟨hP, hD, hS, hl⟩ := hI
          unfold B_X8_findVows_84 at hF
          refine lv_iload_n hx hb dX8_findVows_84 rfl (lv_at hl 2 rfl) ?_
          refine lv_bipush (v := 64) hx hb dX8_findVows_85 (by decide) ?_
          refine lv_icmp_ge (tgt := 128) hx hb dX8_findVows_87 (by decide) (fun c87 => ?_) (fun c87 => ?_)
          · have hF := itP c87 hF
            refine lv_iinc (v := (v41_0 + (1 : Int32))) (lv' := [(1, .int (v41_0 + (1 : Int32))), (0, .ref t), (2, .int v84_0)]) hx hb dX8_findVows_128 hl (k := 1) rfl (xInc_1 _) (by decide) rfl (fun ls hl => ?_)
            refine lv_goto (tgt := 41) hx hb dX8_findVows_131 (by decide) ?_
            exact ih41 (v41_0 + (1 : Int32)) (v41_1 + (0 : Int32)) (upd v41_2 v41_0.toNatClampNeg (vp_nar .boolean u1)) v84_1 H locs ls ⟨hP, hD, hS, lv_sub hl [1, 0] rfl⟩ hF
          · have hF := itN c87 hF
            refine lv_aload_n hx hb dX8_findVows_90 rfl (lv_at hl 0 rfl) ?_
            refine va_get (ci := 8) (v := .ref isFit) (C := RX8) (T := TX8) (N := 24) hx hb hts (fun w h => tcons w (xin8 w h)) hown hK hP 0 rfl rfl 8 (by decide) (hts _ (tcons _ m144)) (fun _ h9 => h9) rfl dX8_findVows_91 ?_
            refine lv_iload_n hx hb dX8_findVows_94 rfl (lv_at hl 1 rfl) ?_
            obtain ⟨g95, hF⟩ := gdS hF
            refine va_zald hx hb hK hP 3 2 rfl rfl g95 dX8_findVows_95 ?_
            refine lv_if_eq (tgt := 128) hx hb dX8_findVows_96 (by decide) (fun c96 => ?_) (fun c96 => ?_)
            · have hF := itP c96 hF
              refine lv_iinc (v := (v41_0 + (1 : Int32))) (lv' := [(1, .int (v41_0 + (1 : Int32))), (0, .ref t), (2, .int v84_0)]) hx hb dX8_findVows_128 hl (k := 1) rfl (xInc_1 _) (by decide) rfl (fun ls hl => ?_)
              refine lv_goto (tgt := 41) hx hb dX8_findVows_131 (by decide) ?_
              exact ih41 (v41_0 + (1 : Int32)) (v41_1 + (0 : Int32)) (upd v41_2 v41_0.toNatClampNeg (vp_nar .boolean u1)) v84_1 H locs ls ⟨hP, hD, hS, lv_sub hl [1, 0] rfl⟩ hF
            · have hF := itN c96 hF
              refine lv_aload_n hx hb dX8_findVows_99 rfl (lv_at hl 0 rfl) ?_
              refine va_get (ci := 8) (v := .ref breaks) (C := RX8) (T := TX8) (N := 24) hx hb hts (fun w h => tcons w (xin8 w h)) hown hK hP 0 rfl rfl 9 (by decide) (hts _ (tcons _ m145)) (fun _ h9 => h9) rfl dX8_findVows_100 ?_
              refine lv_iload_n hx hb dX8_findVows_103 rfl (lv_at hl 2 rfl) ?_
              refine lv_dup2_11 hx hb dX8_findVows_104 rfl rfl ?_
              obtain ⟨g105, hF⟩ := gdS hF
              refine va_iald hx hb hK hP 4 0 rfl rfl g105 dX8_findVows_105 ?_
              refine lv_aload_n hx hb dX8_findVows_106 rfl (lv_at hl 0 rfl) ?_
              refine lv_iload_n hx hb dX8_findVows_107 rfl (lv_at hl 1 rfl) ?_
              refine lv_iload_n hx hb dX8_findVows_108 rfl (lv_at hl 2 rfl) ?_
              obtain ⟨u2, e2, hF⟩ := bdS hF
              refine xEndI (xRunV (As := [.int v41_0, .int v84_0]) (rest := [.int (v84_1 v84_0.toNatClampNeg), .int v84_0, .ref breaks]) hZ (c_X8_doesBreak G t row kpt errs bitsOf sizeOf cels broken isFit breaks act wth facts pile trc images (v41_1 + (0 : Int32)) (1 : Int32) laid hre opnd bad usg trcd isP broken_f v41_0 v84_0 u2 e2 l H.size) m321 m322 m323 m5 m324 2 ⟨rfl, hdX8_doesBreak⟩ ⟨Nat.le_of_ble_eq_true rfl, Nat.le_of_ble_eq_true rfl⟩ ⟨rfl, rfl⟩ hP hD hS 0 8 rfl rfl rfl [0, 2] rfl rfl rfl hl.1 rfl (Nat.le_of_ble_eq_true rfl) dX8_findVows_109 ⟨Nat.zero_le _, Nat.zero_le _⟩) hP hD hS hA [0, 2] rfl rfl rfl (fun H locs n2 hP hD hS => ?_)
              have hP : va_P G.1 vwCl [(t, .inr (8, [.ref row, .ref kpt, .int images, .ref errs, .ref bitsOf, .ref sizeOf, .ref cels, .ref broken, .ref isFit, .ref breaks, .int (v41_1 + (0 : Int32)), .int (1 : Int32), .ref act, .ref wth, .ref facts, .ref pile, .int laid, .int hre, .int opnd, .int bad, .int usg, .ref trc, .int trcd, .int isP])), (row, .inl (xI G, 400, .inl row_f)), (broken, .inl (xJ G, 729, .inr (.inl broken_f))), (isFit, .inl (xZ G, 729, .inl (upd v41_2 v41_0.toNatClampNeg (vp_nar .boolean u1)))), (breaks, .inl (xI G, 64, .inl v84_1))] H := hP
              have hD : va_D A [(t, .inr (8, [.ref row, .ref kpt, .int images, .ref errs, .ref bitsOf, .ref sizeOf, .ref cels, .ref broken, .ref isFit, .ref breaks, .int (v41_1 + (0 : Int32)), .int (1 : Int32), .ref act, .ref wth, .ref facts, .ref pile, .int laid, .int hre, .int opnd, .int bad, .int usg, .ref trc, .int trcd, .int isP])), (row, .inl (xI G, 400, .inl row_f)), (broken, .inl (xJ G, 729, .inr (.inl broken_f))), (isFit, .inl (xZ G, 729, .inl (upd v41_2 v41_0.toNatClampNeg (vp_nar .boolean u1)))), (breaks, .inl (xI G, 64, .inl v84_1))] := hD
              refine lv_if_eq (tgt := 119) hx hb dX8_findVows_112 (by decide) (fun c112 => ?_) (fun c112 => ?_)
              · have hF := itP c112 hF
                refine lv_iconst (v := 0) hx hb dX8_findVows_119 (by decide) ?_
                refine lv_iadd hx hb dX8_findVows_120 ?_
                obtain ⟨g121, hF⟩ := gdS hF
                refine va_iast hx hb hK hP hD hS 4 0 rfl rfl g121 dX8_findVows_121 (fun H locs hP hD hS => ?_)
                have hP : va_P G.1 vwCl [(t, .inr (8, [.ref row, .ref kpt, .int images, .ref errs, .ref bitsOf, .ref sizeOf, .ref cels, .ref broken, .ref isFit, .ref breaks, .int (v41_1 + (0 : Int32)), .int (1 : Int32), .ref act, .ref wth, .ref facts, .ref pile, .int laid, .int hre, .int opnd, .int bad, .int usg, .ref trc, .int trcd, .int isP])), (row, .inl (xI G, 400, .inl row_f)), (broken, .inl (xJ G, 729, .inr (.inl broken_f))), (isFit, .inl (xZ G, 729, .inl (upd v41_2 v41_0.toNatClampNeg (vp_nar .boolean u1)))), (breaks, .inl (xI G, 64, .inl (upd v84_1 v84_0.toNatClampNeg ((v84_1 v84_0.toNatClampNeg) + (0 : Int32)))))] H := hP
                have hD : va_D A [(t, .inr (8, [.ref row, .ref kpt, .int images, .ref errs, .ref bitsOf, .ref sizeOf, .ref cels, .ref broken, .ref isFit, .ref breaks, .int (v41_1 + (0 : Int32)), .int (1 : Int32), .ref act, .ref wth, .ref facts, .ref pile, .int laid, .int hre, .int opnd, .int bad, .int usg, .ref trc, .int trcd, .int isP])), (row, .inl (xI G, 400, .inl row_f)), (broken, .inl (xJ G, 729, .inr (.inl broken_f))), (isFit, .inl (xZ G, 729, .inl (upd v41_2 v41_0.toNatClampNeg (vp_nar .boolean u1)))), (breaks, .inl (xI G, 64, .inl (upd v84_1 v84_0.toNatClampNeg ((v84_1 v84_0.toNatClampNeg) + (0 : Int32)))))] := hD
                refine lv_iinc (v := (v84_0 + (1 : Int32))) (lv' := [(2, .int (v84_0 + (1 : Int32))), (0, .ref t), (1, .int v41_0)]) hx hb dX8_findVows_122 hl (k := 2) rfl (xInc_1 _) (by decide) rfl (fun ls hl => ?_)
                refine lv_goto (tgt := 84) hx hb dX8_findVows_125 (by decide) ?_
                exact ih84 (v84_0 + (1 : Int32)) (upd v84_1 v84_0.toNatClampNeg ((v84_1 v84_0.toNatClampNeg) + (0 : Int32))) H locs ls ⟨hP, hD, hS, lv_sub hl [1, 2, 0] rfl⟩ hF
              · have hF := itN c112 hF
                refine lv_iconst (v := 1) hx hb dX8_findVows_115 (by decide) ?_
                refine lv_goto (tgt := 120) hx hb dX8_findVows_116 (by decide) ?_
                refine lv_iadd hx hb dX8_findVows_120 ?_
                obtain ⟨g121, hF⟩ := gdS hF
                refine va_iast hx hb hK hP hD hS 4 0 rfl rfl g121 dX8_findVows_121 (fun H locs hP hD hS => ?_)
                have hP : va_P G.1 vwCl [(t, .inr (8, [.ref row, .ref kpt, .int images, .ref errs, .ref bitsOf, .ref sizeOf, .ref cels, .ref broken, .ref isFit, .ref breaks, .int (v41_1 + (0 : Int32)), .int (1 : Int32), .ref act, .ref wth, .ref facts, .ref pile, .int laid, .int hre, .int opnd, .int bad, .int usg, .ref trc, .int trcd, .int isP])), (row, .inl (xI G, 400, .inl row_f)), (broken, .inl (xJ G, 729, .inr (.inl broken_f))), (isFit, .inl (xZ G, 729, .inl (upd v41_2 v41_0.toNatClampNeg (vp_nar .boolean u1)))), (breaks, .inl (xI G, 64, .inl (upd v84_1 v84_0.toNatClampNeg ((v84_1 v84_0.toNatClampNeg) + (1 : Int32)))))] H := hP
                have hD : va_D A [(t, .inr (8, [.ref row, .ref kpt, .int images, .ref errs, .ref bitsOf, .ref sizeOf, .ref cels, .ref broken, .ref isFit, .ref breaks, .int (v41_1 + (0 : Int32)), .int (1 : Int32), .ref act, .ref wth, .ref facts, .ref pile, .int laid, .int hre, .int opnd, .int bad, .int usg, .ref trc, .int trcd, .int isP])), (row, .inl (xI G, 400, .inl row_f)), (broken, .inl (xJ G, 729, .inr (.inl broken_f))), (isFit, .inl (xZ G, 729, .inl (upd v41_2 v41_0.toNatClampNeg (vp_nar .boolean u1)))), (breaks, .inl (xI G, 64, .inl (upd v84_1 v84_0.toNatClampNeg ((v84_1 v84_0.toNatClampNeg) + (1 : Int32)))))] := hD
                refine lv_iinc (v := (v84_0 + (1 : Int32))) (lv' := [(2, .int (v84_0 + (1 : Int32))), (0, .ref t), (1, .int v41_0)]) hx hb dX8_findVows_122 hl (k := 2) rfl (xInc_1 _) (by decide) rfl (fun ls hl => ?_)
                refine lv_goto (tgt := 84) hx hb dX8_findVows_125 (by decide) ?_
                exact ih84 (v84_0 + (1 : Int32)) (upd v84_1 v84_0.toNatClampNeg ((v84_1 v84_0.toNatClampNeg) + (1 : Int32))) H locs ls ⟨hP, hD, hS, lv_sub hl [1, 2, 0] rfl⟩ hF
        · have hF := itN c70 hF
          refine lv_iconst (v := 1) hx hb dX8_findVows_73 (by decide) ?_
          refine lv_goto (tgt := 78) hx hb dX8_findVows_74 (by decide) ?_
          refine lv_iadd hx hb dX8_findVows_78 ?_
          refine va_put (ci := 8) (v := .int (v41_1 + (1 : Int32))) (ty := .int) (C := RX8) (T := TX8) (N := 24) hx hb hts (fun w h => tcons w (xin8 w h)) tyX8 tyX8_ok nmX8 hown hK hP hD hS 0 rfl rfl 10 (by decide) (hts _ (tcons _ m303)) (fun _ h9 => h9) rfl (by decide +kernel) rfl rfl (Nat.le_of_ble_eq_true rfl) dX8_findVows_79 (fun H locs hP hD hS => ?_)
          have hP : va_P G.1 vwCl [(t, .inr (8, [.ref row, .ref kpt, .int images, .ref errs, .ref bitsOf, .ref sizeOf, .ref cels, .ref broken, .ref isFit, .ref breaks, .int (v41_1 + (1 : Int32)), .int (1 : Int32), .ref act, .ref wth, .ref facts, .ref pile, .int laid, .int hre, .int opnd, .int bad, .int usg, .ref trc, .int trcd, .int isP])), (row, .inl (xI G, 400, .inl row_f)), (broken, .inl (xJ G, 729, .inr (.inl broken_f))), (isFit, .inl (xZ G, 729, .inl (upd v41_2 v41_0.toNatClampNeg (vp_nar .boolean u1)))), (breaks, .inl (xI G, 64, .inl v41_3))] H := hP
          have hD : va_D A [(t, .inr (8, [.ref row, .ref kpt, .int images, .ref errs, .ref bitsOf, .ref sizeOf, .ref cels, .ref broken, .ref isFit, .ref breaks, .int (v41_1 + (1 : Int32)), .int (1 : Int32), .ref act, .ref wth, .ref facts, .ref pile, .int laid, .int hre, .int opnd, .int bad, .int usg, .ref trc, .int trcd, .int isP])), (row, .inl (xI G, 400, .inl row_f)), (broken, .inl (xJ G, 729, .inr (.inl broken_f))), (isFit, .inl (xZ G, 729, .inl (upd v41_2 v41_0.toNatClampNeg (vp_nar .boolean u1)))), (breaks, .inl (xI G, 64, .inl v41_3))] := hD
          refine lv_iconst (v := 0) hx hb dX8_findVows_82 (by decide) ?_
          refine lv_istore_n (lv' := [(2, .int (0 : Int32)), (0, .ref t), (1, .int v41_0)]) hx hb dX8_findVows_83 rfl hl (by decide) rfl (fun ls hl => ?_)
          refine xLoop2 (body := (B_X8_findVows_84b broken_f (lp (B_X8_findVows_41 row_f broken_f) N41) v41_0 v41_1 v41_2 u1)) (fun (v84_0 : Int32) (v84_1 : Nat → Int32) H locs ls => va_P G.1 vwCl [(t, .inr (8, [.ref row, .ref kpt, .int images, .ref errs, .ref bitsOf, .ref sizeOf, .ref cels, .ref broken, .ref isFit, .ref breaks, .int (v41_1 + (1 : Int32)), .int (1 : Int32), .ref act, .ref wth, .ref facts, .ref pile, .int laid, .int hre, .int opnd, .int bad, .int usg, .ref trc, .int trcd, .int isP])), (row, .inl (xI G, 400, .inl row_f)), (broken, .inl (xJ G, 729, .inr (.inl broken_f))), (isFit, .inl (xZ G, 729, .inl (upd v41_2 v41_0.toNatClampNeg (vp_nar .boolean u1)))), (breaks, .inl (xI G, 64, .inl v84_1))] H ∧ va_D A [(t, .inr (8, [.ref row, .ref kpt, .int images, .ref errs, .ref bitsOf, .ref sizeOf, .ref cels, .ref broken, .ref isFit, .ref breaks, .int (v41_1 + (1 : Int32)), .int (1 : Int32), .ref act, .ref wth, .ref facts, .ref pile, .int laid, .int hre, .int opnd, .int bad, .int usg, .ref trc, .int trcd, .int isP])), (row, .inl (xI G, 400, .inl row_f)), (broken, .inl (xJ G, 729, .inr (.inl broken_f))), (isFit, .inl (xZ G, 729, .inl (upd v41_2 v41_0.toNatClampNeg (vp_nar .boolean u1)))), (breaks, .inl (xI G, 64, .inl v84_1))] ∧ va_S A s.heap H locs ∧ lv_has ls 3 [(0, .ref t), (1, .int v41_0), (2, .int v84_0)]) (fun N84 v84_0 v84_1 ih84 H locs ls hI hF => ?_) fuelC (0 : Int32) v41_3 H locs ls ⟨hP, hD, hS, lv_sub hl [1, 2, 0] rfl⟩ hF
          obtain ⟨hP, hD, hS, hl⟩ := hI
          unfold B_X8_findVows_84b at hF
          refine lv_iload_n hx hb dX8_findVows_84 rfl (lv_at hl 2 rfl) ?_
          refine lv_bipush (v := 64) hx hb dX8_findVows_85 (by decide) ?_
          refine lv_icmp_ge (tgt := 128) hx hb dX8_findVows_87 (by decide) (fun c87 => ?_) (fun c87 => ?_)
          · have hF := itP c87 hF
            refine lv_iinc (v := (v41_0 + (1 : Int32))) (lv' := [(1, .int (v41_0 + (1 : Int32))), (0, .ref t), (2, .int v84_0)]) hx hb dX8_findVows_128 hl (k := 1) rfl (xInc_1 _) (by decide) rfl (fun ls hl => ?_)
            refine lv_goto (tgt := 41) hx hb dX8_findVows_131 (by decide) ?_
            exact ih41 (v41_0 + (1 : Int32)) (v41_1 + (1 : Int32)) (upd v41_2 v41_0.toNatClampNeg (vp_nar .boolean u1)) v84_1 H locs ls ⟨hP, hD, hS, lv_sub hl [1, 0] rfl⟩ hF
          · have hF := itN c87 hF
            refine lv_aload_n hx hb dX8_findVows_90 rfl (lv_at hl 0 rfl) ?_
            refine va_get (ci := 8) (v := .ref isFit) (C := RX8) (T := TX8) (N := 24) hx hb hts (fun w h => tcons w (xin8 w h)) hown hK hP 0 rfl rfl 8 (by decide) (hts _ (tcons _ m144)) (fun _ h9 => h9) rfl dX8_findVows_91 ?_
            refine lv_iload_n hx hb dX8_findVows_94 rfl (lv_at hl 1 rfl) ?_
            obtain ⟨g95, hF⟩ := gdS hF
            refine va_zald hx hb hK hP 3 2 rfl rfl g95 dX8_findVows_95 ?_
            refine lv_if_eq (tgt := 128) hx hb dX8_findVows_96 (by decide) (fun c96 => ?_) (fun c96 => ?_)
            · have hF := itP c96 hF
              refine lv_iinc (v := (v41_0 + (1 : Int32))) (lv' := [(1, .int (v41_0 + (1 : Int32))), (0, .ref t), (2, .int v84_0)]) hx hb dX8_findVows_128 hl (k := 1) rfl (xInc_1 _) (by decide) rfl (fun ls hl => ?_)
              refine lv_goto (tgt := 41) hx hb dX8_findVows_131 (by decide) ?_
              exact ih41 (v41_0 + (1 : Int32)) (v41_1 + (1 : Int32)) (upd v41_2 v41_0.toNatClampNeg (vp_nar .boolean u1)) v84_1 H locs ls ⟨hP, hD, hS, lv_sub hl [1, 0] rfl⟩ hF
            · have hF := itN c96 hF
              refine lv_aload_n hx hb dX8_findVows_99 rfl (lv_at hl 0 rfl) ?_
              refine va_get (ci := 8) (v := .ref breaks) (C := RX8) (T := TX8) (N := 24) hx hb hts (fun w h => tcons w (xin8 w h)) hown hK hP 0 rfl rfl 9 (by decide) (hts _ (tcons _ m145)) (fun _ h9 => h9) rfl dX8_findVows_100 ?_
              refine lv_iload_n hx hb dX8_findVows_103 rfl (lv_at hl 2 rfl) ?_
              refine lv_dup2_11 hx hb dX8_findVows_104 rfl rfl ?_
              obtain ⟨g105, hF⟩ := gdS hF
              refine va_iald hx hb hK hP 4 0 rfl rfl g105 dX8_findVows_105 ?_
              refine lv_aload_n hx hb dX8_findVows_106 rfl (lv_at hl 0 rfl) ?_
              refine lv_iload_n hx hb dX8_findVows_107 rfl (lv_at hl 1 rfl) ?_
              refine lv_iload_n hx hb dX8_findVows_108 rfl (lv_at hl 2 rfl) ?_
              obtain ⟨u2, e2, hF⟩ := bdS hF
              refine xEndI (xRunV (As := [.int v41_0, .int v84_0]) (rest := [.int (v84_1 v84_0.toNatClampNeg), .int v84_0, .ref breaks]) hZ (c_X8_doesBreak G t row kpt errs bitsOf sizeOf cels broken isFit breaks act wth facts pile trc images (v41_1 + (1 : Int32)) (1 : Int32) laid hre opnd bad usg trcd isP broken_f v41_0 v84_0 u2 e2 l H.size) m321 m322 m323 m5 m324 2 ⟨rfl, hdX8_doesBreak⟩ ⟨Nat.le_of_ble_eq_true rfl, Nat.le_of_ble_eq_true rfl⟩ ⟨rfl, rfl⟩ hP hD hS 0 8 rfl rfl rfl [0, 2] rfl rfl rfl hl.1 rfl (Nat.le_of_ble_eq_true rfl) dX8_findVows_109 ⟨Nat.zero_le _, Nat.zero_le _⟩) hP hD hS hA [0, 2] rfl rfl rfl (fun H locs n2 hP hD hS => ?_)
              have hP : va_P G.1 vwCl [(t, .inr (8, [.ref row, .ref kpt, .int images, .ref errs, .ref bitsOf, .ref sizeOf, .ref cels, .ref broken, .ref isFit, .ref breaks, .int (v41_1 + (1 : Int32)), .int (1 : Int32), .ref act, .ref wth, .ref facts, .ref pile, .int laid, .int hre, .int opnd, .int bad, .int usg, .ref trc, .int trcd, .int isP])), (row, .inl (xI G, 400, .inl row_f)), (broken, .inl (xJ G, 729, .inr (.inl broken_f))), (isFit, .inl (xZ G, 729, .inl (upd v41_2 v41_0.toNatClampNeg (vp_nar .boolean u1)))), (breaks, .inl (xI G, 64, .inl v84_1))] H := hP
              have hD : va_D A [(t, .inr (8, [.ref row, .ref kpt, .int images, .ref errs, .ref bitsOf, .ref sizeOf, .ref cels, .ref broken, .ref isFit, .ref breaks, .int (v41_1 + (1 : Int32)), .int (1 : Int32), .ref act, .ref wth, .ref facts, .ref pile, .int laid, .int hre, .int opnd, .int bad, .int usg, .ref trc, .int trcd, .int isP])), (row, .inl (xI G, 400, .inl row_f)), (broken, .inl (xJ G, 729, .inr (.inl broken_f))), (isFit, .inl (xZ G, 729, .inl (upd v41_2 v41_0.toNatClampNeg (vp_nar .boolean u1)))), (breaks, .inl (xI G, 64, .inl v84_1))] := hD
              refine lv_if_eq (tgt := 119) hx hb dX8_findVows_112 (by decide) (fun c112 => ?_) (fun c112 => ?_)
              · have hF := itP c112 hF
                refine lv_iconst (v := 0) hx hb dX8_findVows_119 (by decide) ?_
                refine lv_iadd hx hb dX8_findVows_120 ?_
                obtain ⟨g121, hF⟩ := gdS hF
                refine va_iast hx hb hK hP hD hS 4 0 rfl rfl g121 dX8_findVows_121 (fun H locs hP hD hS => ?_)
                have hP : va_P G.1 vwCl [(t, .inr (8, [.ref row, .ref kpt, .int images, .ref errs, .ref bitsOf, .ref sizeOf, .ref cels, .ref broken, .ref isFit, .ref breaks, .int (v41_1 + (1 : Int32)), .int (1 : Int32), .ref act, .ref wth, .ref facts, .ref pile, .int laid, .int hre, .int opnd, .int bad, .int usg, .ref trc, .int trcd, .int isP])), (row, .inl (xI G, 400, .inl row_f)), (broken, .inl (xJ G, 729, .inr (.inl broken_f))), (isFit, .inl (xZ G, 729, .inl (upd v41_2 v41_0.toNatClampNeg (vp_nar .boolean u1)))), (breaks, .inl (xI G, 64, .inl (upd v84_1 v84_0.toNatClampNeg ((v84_1 v84_0.toNatClampNeg) + (0 : Int32)))))] H := hP
                have hD : va_D A [(t, .inr (8, [.ref row, .ref kpt, .int images, .ref errs, .ref bitsOf, .ref sizeOf, .ref cels, .ref broken, .ref isFit, .ref breaks, .int (v41_1 + (1 : Int32)), .int (1 : Int32), .ref act, .ref wth, .ref facts, .ref pile, .int laid, .int hre, .int opnd, .int bad, .int usg, .ref trc, .int trcd, .int isP])), (row, .inl (xI G, 400, .inl row_f)), (broken, .inl (xJ G, 729, .inr (.inl broken_f))), (isFit, .inl (xZ G, 729, .inl (upd v41_2 v41_0.toNatClampNeg (vp_nar .boolean u1)))), (breaks, .inl (xI G, 64, .inl (upd v84_1 v84_0.toNatClampNeg ((v84_1 v84_0.toNatClampNeg) + (0 : Int32)))))] := hD
                refine lv_iinc (v := (v84_0 + (1 : Int32))) (lv' := [(2, .int (v84_0 + (1 : Int32))), (0, .ref t), (1, .int v41_0)]) hx hb dX8_findVows_122 hl (k := 2) rfl (xInc_1 _) (by decide) rfl (fun ls hl => ?_)
                refine lv_goto (tgt := 84) hx hb dX8_findVows_125 (by decide) ?_
                exact ih84 (v84_0 + (1 : Int32)) (upd v84_1 v84_0.toNatClampNeg ((v84_1 v84_0.toNatClampNeg) + (0 : Int32))) H locs ls ⟨hP, hD, hS, lv_sub hl [1, 2, 0] rfl⟩ hF
              · have hF := itN c112 hF
                refine lv_iconst (v := 1) hx hb dX8_findVows_115 (by decide) ?_
                refine lv_goto (tgt := 120) hx hb dX8_findVows_116 (by decide) ?_
                refine lv_iadd hx hb dX8_findVows_120 ?_
                obtain ⟨g121, hF⟩ := gdS hF
                refine va_iast hx hb hK hP hD hS 4 0 rfl rfl g121 dX8_findVows_121 (fun H locs hP hD hS => ?_)
                have hP : va_P G.1 vwCl [(t, .inr (8, [.ref row, .ref kpt, .int images, .ref errs, .ref bitsOf, .ref sizeOf, .ref cels, .ref broken, .ref isFit, .ref breaks, .int (v41_1 + (1 : Int32)), .int (1 : Int32), .ref act, .ref wth, .ref facts, .ref pile, .int laid, .int hre, .int opnd, .int bad, .int usg, .ref trc, .int trcd, .int isP])), (row, .inl (xI G, 400, .inl row_f)), (broken, .inl (xJ G, 729, .inr (.inl broken_f))), (isFit, .inl (xZ G, 729, .inl (upd v41_2 v41_0.toNatClampNeg (vp_nar .boolean u1)))), (breaks, .inl (xI G, 64, .inl (upd v84_1 v84_0.toNatClampNeg ((v84_1 v84_0.toNatClampNeg) + (1 : Int32)))))] H := hP
                have hD : va_D A [(t, .inr (8, [.ref row, .ref kpt, .int images, .ref errs, .ref bitsOf, .ref sizeOf, .ref cels, .ref broken, .ref isFit, .ref breaks, .int (v41_1 + (1 : Int32)), .int (1 : Int32), .ref act, .ref wth, .ref facts, .ref pile, .int laid, .int hre, .int opnd, .int bad, .int usg, .ref trc, .int trcd, .int isP])), (row, .inl (xI G, 400, .inl row_f)), (broken, .inl (xJ G, 729, .inr (.inl broken_f))), (isFit, .inl (xZ G, 729, .inl (upd v41_2 v41_0.toNatClampNeg (vp_nar .boolean u1)))), (breaks, .inl (xI G, 64, .inl (upd v84_1 v84_0.toNatClampNeg ((v84_1 v84_0.toNatClampNeg) + (1 : Int32)))))] := hD
                refine lv_iinc (v := (v84_0 + (1 : Int32))) (lv' := [(2, .int (v84_0 + (1 : Int32))), (0, .ref t), (1, .int v41_0)]) hx hb dX8_findVows_122 hl (k := 2) rfl (xInc_1 _) (by decide) rfl (fun ls hl => ?_)
                refine lv_goto (tgt := 84) hx hb dX8_findVows_125 (by decide) ?_
                exact ih84 (v84_0 + (1 : Int32)) (upd v84_1 v84_0.toNatClampNeg ((v84_1 v84_0.toNatClampNeg) + (1 : Int32))) H locs ls ⟨hP, hD, hS, lv_sub hl [1, 2, 0] rfl⟩ hF
    · have hF := itN c23 hF
      refine lv_aload_n hx hb dX8_findVows_26 rfl (lv_at hl 0 rfl) ?_
      refine va_get (ci := 8) (v := .ref breaks) (C := RX8) (T := TX8) (N := 24) hx hb hts (fun w h => tcons w (xin8 w h)) hown hK hP 0 rfl rfl 9 (by decide) (hts _ (tcons _ m145)) (fun _ h9 => h9) rfl dX8_findVows_27 ?_
      refine lv_iload_n hx hb dX8_findVows_30 rfl (lv_at hl 1 rfl) ?_
      refine lv_iconst (v := 0) hx hb dX8_findVows_31 (by decide) ?_
      obtain ⟨g32, hF⟩ := gdS hF
      refine va_iast hx hb hK hP hD hS 4 0 rfl rfl g32 dX8_findVows_32 (fun H locs hP hD hS => ?_)
      have hP : va_P G.1 vwCl [(t, .inr (8, [.ref row, .ref kpt, .int images, .ref errs, .ref bitsOf, .ref sizeOf, .ref cels, .ref broken, .ref isFit, .ref breaks, .int (0 : Int32), .int (1 : Int32), .ref act, .ref wth, .ref facts, .ref pile, .int laid, .int hre, .int opnd, .int bad, .int usg, .ref trc, .int trcd, .int isP])), (row, .inl (xI G, 400, .inl row_f)), (broken, .inl (xJ G, 729, .inr (.inl broken_f))), (isFit, .inl (xZ G, 729, .inl isFit_f)), (breaks, .inl (xI G, 64, .inl (upd v20_1 v20_0.toNatClampNeg (0 : Int32))))] H := hP
      have hD : va_D A [(t, .inr (8, [.ref row, .ref kpt, .int images, .ref errs, .ref bitsOf, .ref sizeOf, .ref cels, .ref broken, .ref isFit, .ref breaks, .int (0 : Int32), .int (1 : Int32), .ref act, .ref wth, .ref facts, .ref pile, .int laid, .int hre, .int opnd, .int bad, .int usg, .ref trc, .int trcd, .int isP])), (row, .inl (xI G, 400, .inl row_f)), (broken, .inl (xJ G, 729, .inr (.inl broken_f))), (isFit, .inl (xZ G, 729, .inl isFit_f)), (breaks, .inl (xI G, 64, .inl (upd v20_1 v20_0.toNatClampNeg (0 : Int32))))] := hD
      refine lv_iinc (v := (v20_0 + (1 : Int32))) (lv' := [(1, .int (v20_0 + (1 : Int32))), (0, .ref t)]) hx hb dX8_findVows_33 hl (k := 1) rfl (xInc_1 _) (by decide) rfl (fun ls hl => ?_)
      refine lv_goto (tgt := 20) hx hb dX8_findVows_36 (by decide) ?_
      exact ih20 (v20_0 + (1 : Int32)) (upd v20_1 v20_0.toNatClampNeg (0 : Int32)) H locs ls ⟨hP, hD, hS, lv_sub hl [1, 0] rfl⟩ hF
  · have hF := itN c4 hF
    obtain rfl := Option.some.inj hF
    rw [← hQ]
    exact W.vret hx hb hr (fun t ht hW => ⟨⟨(), rfl, trivial, xLf hP ht⟩, hS.F ht⟩) hS.2.2 dX8_findVows_7
