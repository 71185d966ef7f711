def F_X8_put (errs_f : Nat → Int32) (bitsOf_f : Nat → Int32) (sizeOf_f : Nat → Int32) (cels_f : Nat → Int32) (si : Int32) (i : Int32) (vo : Int32) : Option (Int32 × (Nat → Int32) × (Nat → Int32)) := bd (F_X8_notThere bitsOf_f si) (fun (u1 : Int32) => if u1 = 0 then (if (si < 0 ∨ 4 ≤ si.toNatClampNeg) then none else (bd (F_X8_in i (0 : Int32) ((sizeOf_f si.toNatClampNeg) - (1 : Int32))) (fun (u2 : Int32) => if u2 = 0 then (bd (F_X8_error errs_f (-1000000001 : Int32)) (fun (u3 : (Int32 × (Nat → Int32))) => some (u3.1, u3.2, cels_f))) else (if u1 = 0 then (if (si < 0 ∨ 4 ≤ si.toNatClampNeg) then none else (if (bitsOf_f si.toNatClampNeg) = (8 : Int32) then (if ((((24 : Int32) * si) + i) < 0 ∨ 96 ≤ (((24 : Int32) * si) + i).toNatClampNeg) then none else (some ((1 : Int32), errs_f, (upd cels_f (((24 : Int32) * si) + i).toNatClampNeg (vo.toInt8.toInt32))))) else (if (si < 0 ∨ 4 ≤ si.toNatClampNeg) then none else (if (bitsOf_f si.toNatClampNeg) = (16 : Int32) then (if ((((24 : Int32) * si) + i) < 0 ∨ 96 ≤ (((24 : Int32) * si) + i).toNatClampNeg) then none else (some ((1 : Int32), errs_f, (upd cels_f (((24 : Int32) * si) + i).toNatClampNeg (vo.toInt16.toInt32))))) else (if ((((24 : Int32) * si) + i) < 0 ∨ 96 ≤ (((24 : Int32) * si) + i).toNatClampNeg) then none else (some ((1 : Int32), errs_f, (upd cels_f (((24 : Int32) * si) + i).toNatClampNeg vo)))))))) else (bd (F_X8_error errs_f u1) (fun (u3 : (Int32 × (Nat → Int32))) => some (u3.1, u3.2, cels_f))))))) else (if u1 = 0 then (if (si < 0 ∨ 4 ≤ si.toNatClampNeg) then none else (if (bitsOf_f si.toNatClampNeg) = (8 : Int32) then (if ((((24 : Int32) * si) + i) < 0 ∨ 96 ≤ (((24 : Int32) * si) + i).toNatClampNeg) then none else (some ((1 : Int32), errs_f, (upd cels_f (((24 : Int32) * si) + i).toNatClampNeg (vo.toInt8.toInt32))))) else (if (si < 0 ∨ 4 ≤ si.toNatClampNeg) then none else (if (bitsOf_f si.toNatClampNeg) = (16 : Int32) then (if ((((24 : Int32) * si) + i) < 0 ∨ 96 ≤ (((24 : Int32) * si) + i).toNatClampNeg) then none else (some ((1 : Int32), errs_f, (upd cels_f (((24 : Int32) * si) + i).toNatClampNeg (vo.toInt16.toInt32))))) else (if ((((24 : Int32) * si) + i) < 0 ∨ 96 ≤ (((24 : Int32) * si) + i).toNatClampNeg) then none else (some ((1 : Int32), errs_f, (upd cels_f (((24 : Int32) * si) + i).toNatClampNeg vo)))))))) else (bd (F_X8_error errs_f u1) (fun (u2 : (Int32 × (Nat → Int32))) => some (u2.1, u2.2, cels_f)))))
theorem hdX8_put : yX8_put.cls ≠ "java/lang/invoke/MethodHandle" ∧ yX8_put.cls ≠ "java/lang/invoke/VarHandle" ∧ (parseMethodDescriptor yX8_put.desc).map (fun d => d.parameters.length) = some 3 := by decide +kernel
set_option maxHeartbeats 4000000 in
set_option maxRecDepth 100000 in
theorem c_X8_put (G : xG) (t : Nat) (row : Nat) (kpt : Nat) (errs : Nat) (bitsOf : Nat) (sizeOf : Nat) (cels : Nat) (broken : Nat) (isFit : Nat) (breaks : Nat) (act : Nat) (wth : Nat) (facts : Nat) (pile : Nat) (trc : Nat) (images : Int32) (mfit : Int32) (known : Int32) (laid : Int32) (hre : Int32) (opnd : Int32) (bad : Int32) (usg : Int32) (trcd : Int32) (isP : Int32) (errs_f : Nat → Int32) (bitsOf_f : Nat → Int32) (sizeOf_f : Nat → Int32) (cels_f : Nat → Int32) (si : Int32) (i : Int32) (vo : Int32)  (u : (Int32 × (Nat → Int32) × (Nat → Int32))) (hF : F_X8_put errs_f bitsOf_f sizeOf_f cels_f si i vo = some u) : Ki G .int yX8_put (Cond.code yX8_put cX8_put 5 (some .int) :: TBL) { frames := 3, cells := 0, slots := 0, locals := 63 } [.ref t, .int si, .int i, .int vo] [(t, .inr (8, [.ref row, .ref kpt, .int images, .ref errs, .ref bitsOf, .ref sizeOf, .ref cels, .ref broken, .ref isFit, .ref breaks, .int mfit, .int known, .ref act, .ref wth, .ref facts, .ref pile, .int laid, .int hre, .int opnd, .int bad, .int usg, .ref trc, .int trcd, .int isP])), (errs, .inl (xI G, 7, .inl errs_f)), (bitsOf, .inl (xI G, 4, .inl bitsOf_f)), (sizeOf, .inl (xI G, 4, .inl sizeOf_f)), (cels, .inl (xI G, 96, .inl cels_f))] [(t, .inr (8, [.ref row, .ref kpt, .int images, .ref errs, .ref bitsOf, .ref sizeOf, .ref cels, .ref broken, .ref isFit, .ref breaks, .int mfit, .int known, .ref act, .ref wth, .ref facts, .ref pile, .int laid, .int hre, .int opnd, .int bad, .int usg, .ref trc, .int trcd, .int isP])), (errs, .inl (xI G, 7, .inl u.2.1)), (bitsOf, .inl (xI G, 4, .inl bitsOf_f)), (sizeOf, .inl (xI G, 4, .inl sizeOf_f)), (cels, .inl (xI G, 96, .inl u.2.2))] u.1 := by
  intro l sz
  refine Met.ofW (cc := cX8_put) (maxL := 5) (ret := (some .int)) (by decide) rfl ?_
  intro p e s m args below meth c s₁ B hml hv
  obtain ⟨rfl, hsz, hP, hD0, hm⟩ := hv
  have hx := B.exec
  have hb := B.bytes
  have hr := B.returns
  have hts := atoms_spec (ws := Cond.code yX8_put cX8_put 5 (some .int) :: TBL) B.pre
  have hown : s.vm.findClass RX8 = some m.cls := findClass_of_methodNamed B.named
  have hlocks := B.notSynchronized
  subst hsz
  have hD := hD0.self (sz := s.heap.size)
  generalize hAe : va_A [(t, .inr (8, [.ref row, .ref kpt, .int images, .ref errs, .ref bitsOf, .ref sizeOf, .ref cels, .ref broken, .ref isFit, .ref breaks, .int mfit, .int known, .ref act, .ref wth, .ref facts, .ref pile, .int laid, .int hre, .int opnd, .int bad, .int usg, .ref trc, .int trcd, .int isP])), (errs, .inl (xI G, 7, .inl errs_f)), (bitsOf, .inl (xI G, 4, .inl bitsOf_f)), (sizeOf, .inl (xI G, 4, .inl sizeOf_f)), (cels, .inl (xI G, 96, .inl cels_f))] s.heap.size = A at hD hm ⊢
  have hA : ∀ q : Nat, s.heap.size ≤ q → A q := fun q h => by rw [← hAe]; exact Or.inr h
  have hK := hm.1
  have hZ : xAnd p m c cX8_put 5 s _ (Cond.code yX8_put cX8_put 5 (some .int) :: TBL) RX8 G A := ⟨⟨hx, hb, hml, hown, hts⟩, tcons, hA, hm⟩
  have hP : va_P G.1 vwCl [(t, .inr (8, [.ref row, .ref kpt, .int images, .ref errs, .ref bitsOf, .ref sizeOf, .ref cels, .ref broken, .ref isFit, .ref breaks, .int mfit, .int known, .ref act, .ref wth, .ref facts, .ref pile, .int laid, .int hre, .int opnd, .int bad, .int usg, .ref trc, .int trcd, .int isP])), (errs, .inl (xI G, 7, .inl errs_f)), (bitsOf, .inl (xI G, 4, .inl bitsOf_f)), (sizeOf, .inl (xI G, 4, .inl sizeOf_f)), (cels, .inl (xI G, 96, .inl cels_f))] s.heap := hP
  have hl := lv_entry ([.ref t, .int si, .int i, .int vo]) (n := 5) (Nat.le_of_ble_eq_true rfl)
  rw [lg_entry_eq]
  generalize (lg_sl ([.ref t, .int si, .int i, .int vo]) ++ List.replicate (5 - (lg_sl ([.ref t, .int si, .int i, .int vo])).length) Slot.unset).toArray = ls at hl ⊢
  have hl : lv_has ls 5 [(0, .ref t), (1, .int si), (2, .int i), (3, .int vo)] := hl
  generalize hQ : MQ below _ _ s _ _ _ = Q
  refine xGo (A := A) hP (fun H locs hP hS => ?_)
  unfold F_X8_put at hF
  refine lv_aload_n hx hb dX8_put_0 rfl (lv_at hl 0 rfl) ?_
  refine lv_iload_n hx hb dX8_put_1 rfl (lv_at hl 1 rfl) ?_
  obtain ⟨u1, e1, hF⟩ := bdS hF
  refine xEndI (xRunV (As := [.int si]) (rest := []) hZ (c_X8_notThere G t row kpt errs bitsOf sizeOf cels broken isFit breaks act wth facts pile trc images mfit known laid hre opnd bad usg trcd isP bitsOf_f si u1 e1 l H.size) m1024 m1025 m1026 m5 m1027 1 ⟨rfl, hdX8_notThere⟩ ⟨Nat.le_of_ble_eq_true rfl, Nat.le_of_ble_eq_true rfl⟩ ⟨rfl, rfl⟩ hP hD hS 0 8 rfl rfl rfl [0, 2] rfl rfl rfl hl.1 rfl (Nat.le_of_ble_eq_true rfl) dX8_put_2 ⟨Nat.zero_le _, Nat.zero_le _⟩) hP hD hS hA [0, 2] rfl rfl rfl (fun H locs n1 hP hD hS => ?_)
  have hP : va_P G.1 vwCl [(t, .inr (8, [.ref row, .ref kpt, .int images, .ref errs, .ref bitsOf, .ref sizeOf, .ref cels, .ref broken, .ref isFit, .ref breaks, .int mfit, .int known, .ref act, .ref wth, .ref facts, .ref pile, .int laid, .int hre, .int opnd, .int bad, .int usg, .ref trc, .int trcd, .int isP])), (errs, .inl (xI G, 7, .inl errs_f)), (bitsOf, .inl (xI G, 4, .inl bitsOf_f)), (sizeOf, .inl (xI G, 4, .inl sizeOf_f)), (cels, .inl (xI G, 96, .inl cels_f))] H := hP
  have hD : va_D A [(t, .inr (8, [.ref row, .ref kpt, .int images, .ref errs, .ref bitsOf, .ref sizeOf, .ref cels, .ref broken, .ref isFit, .ref breaks, .int mfit, .int known, .ref act, .ref wth, .ref facts, .ref pile, .int laid, .int hre, .int opnd, .int bad, .int usg, .ref trc, .int trcd, .int isP])), (errs, .inl (xI G, 7, .inl errs_f)), (bitsOf, .inl (xI G, 4, .inl bitsOf_f)), (sizeOf, .inl (xI G, 4, .inl sizeOf_f)), (cels, .inl (xI G, 96, .inl cels_f))] := hD
  refine lv_istore (lv' := [(4, .int u1), (0, .ref t), (1, .int si), (2, .int i), (3, .int vo)]) hx hb dX8_put_5 hl (by decide) rfl (fun ls hl => ?_)
  refine lv_iload hx hb dX8_put_7 (lv_at hl 0 rfl) ?_
  refine lv_if_ne (tgt := 33) hx hb dX8_put_9 (by decide) (fun c9 => ?_) (fun c9 => ?_)
  · have hF := itN c9 hF
    refine lv_iload hx hb dX8_put_33 (lv_at hl 0 rfl) ?_
    refine lv_istore (lv' := [(4, .int u1), (0, .ref t), (1, .int si), (2, .int i), (3, .int vo)]) hx hb dX8_put_35 hl (by decide) rfl (fun ls hl => ?_)
    refine lv_iload hx hb dX8_put_37 (lv_at hl 0 rfl) ?_
    refine lv_if_eq (tgt := 49) hx hb dX8_put_39 (by decide) (fun c39 => ?_) (fun c39 => ?_)
    · have hF := itP c39 hF
      refine lv_aload_n hx hb dX8_put_49 rfl (lv_at hl 1 rfl) ?_
      refine va_get (ci := 8) (v := .ref cels) (C := RX8) (T := TX8) (N := 24) hx hb hts (fun w h => tcons w (xin8 w h)) hown hK hP 0 rfl rfl 6 (by decide) (hts _ (tcons _ m142)) (fun _ h9 => h9) rfl dX8_put_50 ?_
      refine lv_bipush (v := 24) hx hb dX8_put_53 (by decide) ?_
      refine lv_iload_n hx hb dX8_put_55 rfl (lv_at hl 2 rfl) ?_
      refine lv_imul hx hb dX8_put_56 ?_
      refine lv_iload_n hx hb dX8_put_57 rfl (lv_at hl 3 rfl) ?_
      refine lv_iadd hx hb dX8_put_58 ?_
      refine lv_aload_n hx hb dX8_put_59 rfl (lv_at hl 1 rfl) ?_
      refine va_get (ci := 8) (v := .ref bitsOf) (C := RX8) (T := TX8) (N := 24) hx hb hts (fun w h => tcons w (xin8 w h)) hown hK hP 0 rfl rfl 4 (by decide) (hts _ (tcons _ m140)) (fun _ h9 => h9) rfl dX8_put_60 ?_
      refine lv_iload_n hx hb dX8_put_63 rfl (lv_at hl 2 rfl) ?_
      obtain ⟨g64, hF⟩ := gdS hF
      refine va_iald hx hb hK hP 2 0 rfl rfl g64 dX8_put_64 ?_
      refine lv_bipush (v := 8) hx hb dX8_put_65 (by decide) ?_
      refine lv_icmp_ne (tgt := 75) hx hb dX8_put_67 (by decide) (fun c67 => ?_) (fun c67 => ?_)
      · have hF := itN c67 hF
        refine lv_aload_n hx hb dX8_put_75 rfl (lv_at hl 1 rfl) ?_
        refine va_get (ci := 8) (v := .ref bitsOf) (C := RX8) (T := TX8) (N := 24) hx hb hts (fun w h => tcons w (xin8 w h)) hown hK hP 0 rfl rfl 4 (by decide) (hts _ (tcons _ m140)) (fun _ h9 => h9) rfl dX8_put_76 ?_
        refine lv_iload_n hx hb dX8_put_79 rfl (lv_at hl 2 rfl) ?_
        obtain ⟨g80, hF⟩ := gdS hF
        refine va_iald hx hb hK hP 2 0 rfl rfl g80 dX8_put_80 ?_
        refine lv_bipush (v := 16) hx hb dX8_put_81 (by decide) ?_
        refine lv_icmp_ne (tgt := 91) hx hb dX8_put_83 (by decide) (fun c83 => ?_) (fun c83 => ?_)
        · have hF := itN c83 hF
          refine lv_iload_n hx hb dX8_put_91 rfl (lv_at hl 4 rfl) ?_
          obtain ⟨g92, hF⟩ := gdS hF
          refine va_iast hx hb hK hP hD hS 4 0 rfl rfl g92 dX8_put_92 (fun H locs hP hD hS => ?_)
          have hP : va_P G.1 vwCl [(t, .inr (8, [.ref row, .ref kpt, .int images, .ref errs, .ref bitsOf, .ref sizeOf, .ref cels, .ref broken, .ref isFit, .ref breaks, .int mfit, .int known, .ref act, .ref wth, .ref facts, .ref pile, .int laid, .int hre, .int opnd, .int bad, .int usg, .ref trc, .int trcd, .int isP])), (errs, .inl (xI G, 7, .inl errs_f)), (bitsOf, .inl (xI G, 4, .inl bitsOf_f)), (sizeOf, .inl (xI G, 4, .inl sizeOf_f)), (cels, .inl (xI G, 96, .inl (upd cels_f (((24 : Int32) * si) + i).toNatClampNeg vo)))] H := hP
          have hD : va_D A [(t, .inr (8, [.ref row, .ref kpt, .int images, .ref errs, .ref bitsOf, .ref sizeOf, .ref cels, .ref broken, .ref isFit, .ref breaks, .int mfit, .int known, .ref act, .ref wth, .ref facts, .ref pile, .int laid, .int hre, .int opnd, .int bad, .int usg, .ref trc, .int trcd, .int isP])), (errs, .inl (xI G, 7, .inl errs_f)), (bitsOf, .inl (xI G, 4, .inl bitsOf_f)), (sizeOf, .inl (xI G, 4, .inl sizeOf_f)), (cels, .inl (xI G, 96, .inl (upd cels_f (((24 : Int32) * si) + i).toNatClampNeg vo)))] := hD
          refine lv_iconst (v := 1) hx hb dX8_put_93 (by decide) ?_
          obtain rfl := Option.some.inj hF
          rw [← hQ]
          exact W.iret (v := (1 : Int32)) hx hb hr (fun t ht hW => ⟨⟨_, (), rfl, ⟨rfl, rfl⟩, xLf hP ht⟩, hS.F ht⟩) hS.2.2 dX8_put_94
        · have hF := itP c83 hF
          refine lv_iload_n hx hb dX8_put_86 rfl (lv_at hl 4 rfl) ?_
          refine lv_i2s hx hb dX8_put_87 rfl ?_
          refine lv_goto (tgt := 92) hx hb dX8_put_88 (by decide) ?_
          obtain ⟨g92, hF⟩ := gdS hF
          refine va_iast hx hb hK hP hD hS 4 0 rfl rfl g92 dX8_put_92 (fun H locs hP hD hS => ?_)
          have hP : va_P G.1 vwCl [(t, .inr (8, [.ref row, .ref kpt, .int images, .ref errs, .ref bitsOf, .ref sizeOf, .ref cels, .ref broken, .ref isFit, .ref breaks, .int mfit, .int known, .ref act, .ref wth, .ref facts, .ref pile, .int laid, .int hre, .int opnd, .int bad, .int usg, .ref trc, .int trcd, .int isP])), (errs, .inl (xI G, 7, .inl errs_f)), (bitsOf, .inl (xI G, 4, .inl bitsOf_f)), (sizeOf, .inl (xI G, 4, .inl sizeOf_f)), (cels, .inl (xI G, 96, .inl (upd cels_f (((24 : Int32) * si) + i).toNatClampNeg (vo.toInt16.toInt32))))] H := hP
          have hD : va_D A [(t, .inr (8, [.ref row, .ref kpt, .int images, .ref errs, .ref bitsOf, .ref sizeOf, .ref cels, .ref broken, .ref isFit, .ref breaks, .int mfit, .int known, .ref act, .ref wth, .ref facts, .ref pile, .int laid, .int hre, .int opnd, .int bad, .int usg, .ref trc, .int trcd, .int isP])), (errs, .inl (xI G, 7, .inl errs_f)), (bitsOf, .inl (xI G, 4, .inl bitsOf_f)), (sizeOf, .inl (xI G, 4, .inl sizeOf_f)), (cels, .inl (xI G, 96, .inl (upd cels_f (((24 : Int32) * si) + i).toNatClampNeg (vo.toInt16.toInt32))))] := hD
          refine lv_iconst (v := 1) hx hb dX8_put_93 (by decide) ?_
          obtain rfl := Option.some.inj hF
          rw [← hQ]
          exact W.iret (v := (1 : Int32)) hx hb hr (fun t ht hW => ⟨⟨_, (), rfl, ⟨rfl, rfl⟩, xLf hP ht⟩, hS.F ht⟩) hS.2.2 dX8_put_94
      · have hF := itP c67 hF
        refine lv_iload_n hx hb dX8_put_70 rfl (lv_at hl 4 rfl) ?_
        refine lv_i2b hx hb dX8_put_71 rfl ?_
        refine lv_goto (tgt := 92) hx hb dX8_put_72 (by decide) ?_
        obtain ⟨g92, hF⟩ := gdS hF
        refine va_iast hx hb hK hP hD hS 4 0 rfl rfl g92 dX8_put_92 (fun H locs hP hD hS => ?_)
        have hP : va_P G.1 vwCl [(t, .inr (8, [.ref row, .ref kpt, .int images, .ref errs, .ref bitsOf, .ref sizeOf, .ref cels, .ref broken, .ref isFit, .ref breaks, .int mfit, .int known, .ref act, .ref wth, .ref facts, .ref pile, .int laid, .int hre, .int opnd, .int bad, .int usg, .ref trc, .int trcd, .int isP])), (errs, .inl (xI G, 7, .inl errs_f)), (bitsOf, .inl (xI G, 4, .inl bitsOf_f)), (sizeOf, .inl (xI G, 4, .inl sizeOf_f)), (cels, .inl (xI G, 96, .inl (upd cels_f (((24 : Int32) * si) + i).toNatClampNeg (vo.toInt8.toInt32))))] H := hP
        have hD : va_D A [(t, .inr (8, [.ref row, .ref kpt, .int images, .ref errs, .ref bitsOf, .ref sizeOf, .ref cels, .ref broken, .ref isFit, .ref breaks, .int mfit, .int known, .ref act, .ref wth, .ref facts, .ref pile, .int laid, .int hre, .int opnd, .int bad, .int usg, .ref trc, .int trcd, .int isP])), (errs, .inl (xI G, 7, .inl errs_f)), (bitsOf, .inl (xI G, 4, .inl bitsOf_f)), (sizeOf, .inl (xI G, 4, .inl sizeOf_f)), (cels, .inl (xI G, 96, .inl (upd cels_f (((24 : Int32) * si) + i).toNatClampNeg (vo.toInt8.toInt32))))] := hD
        refine lv_iconst (v := 1) hx hb dX8_put_93 (by decide) ?_
        obtain rfl := Option.some.inj hF
        rw [← hQ]
        exact W.iret (v := (1 : Int32)) hx hb hr (fun t ht hW => ⟨⟨_, (), rfl, ⟨rfl, rfl⟩, xLf hP ht⟩, hS.F ht⟩) hS.2.2 dX8_put_94
    · have hF := itN c39 hF
      refine lv_aload_n hx hb dX8_put_42 rfl (lv_at hl 1 rfl) ?_
      refine lv_iload hx hb dX8_put_43 (lv_at hl 0 rfl) ?_
      obtain ⟨u2, e2, hF⟩ := bdS hF
      refine xEndI (xRunV (As := [.int u1]) (rest := []) hZ (c_X8_error G t row kpt errs bitsOf sizeOf cels broken isFit breaks act wth facts pile trc images mfit known laid hre opnd bad usg trcd isP errs_f u1 u2 e2 l H.size) m193 m194 m195 m5 m196 1 ⟨rfl, hdX8_error⟩ ⟨Nat.le_of_ble_eq_true rfl, Nat.le_of_ble_eq_true rfl⟩ ⟨rfl, rfl⟩ hP hD hS 0 8 rfl rfl rfl [0, 1] rfl rfl rfl hl.1 rfl (Nat.le_of_ble_eq_true rfl) dX8_put_45 ⟨Nat.zero_le _, Nat.zero_le _⟩) hP hD hS hA [0, 1] rfl rfl rfl (fun H locs n2 hP hD hS => ?_)
      have hP : va_P G.1 vwCl [(t, .inr (8, [.ref row, .ref kpt, .int images, .ref errs, .ref bitsOf, .ref sizeOf, .ref cels, .ref broken, .ref isFit, .ref breaks, .int mfit, .int known, .ref act, .ref wth, .ref facts, .ref pile, .int laid, .int hre, .int opnd, .int bad, .int usg, .ref trc, .int trcd, .int isP])), (errs, .inl (xI G, 7, .inl u2.2)), (bitsOf, .inl (xI G, 4, .inl bitsOf_f)), (sizeOf, .inl (xI G, 4, .inl sizeOf_f)), (cels, .inl (xI G, 96, .inl cels_f))] H := hP
      have hD : va_D A [(t, .inr (8, [.ref row, .ref kpt, .int images, .ref errs, .ref bitsOf, .ref sizeOf, .ref cels, .ref broken, .ref isFit, .ref breaks, .int mfit, .int known, .ref act, .ref wth, .ref facts, .ref pile, .int laid, .int hre, .int opnd, .int bad, .int usg, .ref trc, .int trcd, .int isP])), (errs, .inl (xI G, 7, .inl u2.2)), (bitsOf, .inl (xI G, 4, .inl bitsOf_f)), (sizeOf, .inl (xI G, 4, .inl sizeOf_f)), (cels, .inl (xI G, 96, .inl cels_f))] := hD
      obtain rfl := Option.some.inj hF
      rw [← hQ]
      exact W.iret (v := u2.1) hx hb hr (fun t ht hW => ⟨⟨_, (), rfl, ⟨rfl, rfl⟩, xLf hP ht⟩, hS.F ht⟩) hS.2.2 dX8_put_48
  · have hF := itP c9 hF
    refine lv_iload_n hx hb dX8_put_12 rfl (lv_at hl 3 rfl) ?_
    refine lv_iconst (v := 0) hx hb dX8_put_13 (by decide) ?_
    refine lv_aload_n hx hb dX8_put_14 rfl (lv_at hl 1 rfl) ?_
    refine va_get (ci := 8) (v := .ref sizeOf) (C := RX8) (T := TX8) (N := 24) hx hb hts (fun w h => tcons w (xin8 w h)) hown hK hP 0 rfl rfl 5 (by decide) (hts _ (tcons _ m141)) (fun _ h9 => h9) rfl dX8_put_15 ?_
    refine lv_iload_n hx hb dX8_put_18 rfl (lv_at hl 2 rfl) ?_
    obtain ⟨g19, hF⟩ := gdS hF
    refine va_iald hx hb hK hP 3 0 rfl rfl g19 dX8_put_19 ?_
    refine lv_iconst (v := 1) hx hb dX8_put_20 (by decide) ?_
    refine lv_isub hx hb dX8_put_21 ?_
    obtain ⟨u2, e2, hF⟩ := bdS hF
    refine xEndI (xRunS (As := [.int i, .int (0 : Int32), .int ((sizeOf_f si.toNatClampNeg) - (1 : Int32))]) (rest := []) hZ (c_X8_in G i (0 : Int32) ((sizeOf_f si.toNatClampNeg) - (1 : Int32)) u2 e2 l H.size) m190 m191 m5 m192 3 hdX8_in ⟨Nat.le_of_ble_eq_true rfl, Nat.le_of_ble_eq_true rfl⟩ ⟨rfl, rfl⟩ hP hD hS [] rfl rfl rfl hl.1 rfl (Nat.le_of_ble_eq_true rfl) dX8_put_22 ⟨Nat.zero_le _, Nat.zero_le _⟩) hP hD hS hA [] rfl rfl rfl (fun H locs n2 hP hD hS => ?_)
    have hP : va_P G.1 vwCl [(t, .inr (8, [.ref row, .ref kpt, .int images, .ref errs, .ref bitsOf, .ref sizeOf, .ref cels, .ref broken, .ref isFit, .ref breaks, .int mfit, .int known, .ref act, .ref wth, .ref facts, .ref pile, .int laid, .int hre, .int opnd, .int bad, .int usg, .ref trc, .int trcd, .int isP])), (errs, .inl (xI G, 7, .inl errs_f)), (bitsOf, .inl (xI G, 4, .inl bitsOf_f)), (sizeOf, .inl (xI G, 4, .inl sizeOf_f)), (cels, .inl (xI G, 96, .inl cels_f))] H := hP
    have hD : va_D A [(t, .inr (8, [.ref row, .ref kpt, .int images, .ref errs, .ref bitsOf, .ref sizeOf, .ref cels, .ref broken, .ref isFit, .ref breaks, .int mfit, .int known, .ref act, .ref wth, .ref facts, .ref pile, .int laid, .int hre, .int opnd, .int bad, .int usg, .ref trc, .int trcd, .int isP])), (errs, .inl (xI G, 7, .inl errs_f)), (bitsOf, .inl (xI G, 4, .inl bitsOf_f)), (sizeOf, .inl (xI G, 4, .inl sizeOf_f)), (cels, .inl (xI G, 96, .inl cels_f))] := hD
    refine lv_if_ne (tgt := 33) hx hb dX8_put_25 (by decide) (fun c25 => ?_) (fun c25 => ?_)
    · have hF := itN c25 hF
      refine lv_iload hx hb dX8_put_33 (lv_at hl 0 rfl) ?_
      refine lv_istore (lv' := [(4, .int u1), (0, .ref t), (1, .int si), (2, .int i), (3, .int vo)]) hx hb dX8_put_35 hl (by decide) rfl (fun ls hl => ?_)
      refine lv_iload hx hb dX8_put_37 (lv_at hl 0 rfl) ?_
      refine lv_if_eq (tgt := 49) hx hb dX8_put_39 (by decide) (fun c39 => ?_) (fun c39 => ?_)
      · have hF := itP c39 hF
        refine lv_aload_n hx hb dX8_put_49 rfl (lv_at hl 1 rfl) ?_
        refine va_get (ci := 8) (v := .ref cels) (C := RX8) (T := TX8) (N := 24) hx hb hts (fun w h => tcons w (xin8 w h)) hown hK hP 0 rfl rfl 6 (by decide) (hts _ (tcons _ m142)) (fun _ h9 => h9) rfl dX8_put_50 ?_
        refine lv_bipush (v := 24) hx hb dX8_put_53 (by decide) ?_
        refine lv_iload_n hx hb dX8_put_55 rfl (lv_at hl 2 rfl) ?_
        refine lv_imul hx hb dX8_put_56 ?_
        refine lv_iload_n hx hb dX8_put_57 rfl (lv_at hl 3 rfl) ?_
        refine lv_iadd hx hb dX8_put_58 ?_
        refine lv_aload_n hx hb dX8_put_59 rfl (lv_at hl 1 rfl) ?_
        refine va_get (ci := 8) (v := .ref bitsOf) (C := RX8) (T := TX8) (N := 24) hx hb hts (fun w h => tcons w (xin8 w h)) hown hK hP 0 rfl rfl 4 (by decide) (hts _ (tcons _ m140)) (fun _ h9 => h9) rfl dX8_put_60 ?_
        refine lv_iload_n hx hb dX8_put_63 rfl (lv_at hl 2 rfl) ?_
        obtain ⟨g64, hF⟩ := gdS hF
        refine va_iald hx hb hK hP 2 0 rfl rfl g64 dX8_put_64 ?_
        refine lv_bipush (v := 8) hx hb dX8_put_65 (by decide) ?_
        refine lv_icmp_ne (tgt := 75) hx hb dX8_put_67 (by decide) (fun c67 => ?_) (fun c67 => ?_)
        · have hF := itN c67 hF
          refine lv_aload_n hx hb dX8_put_75 rfl (lv_at hl 1 rfl) ?_
          refine va_get (ci := 8) (v := .ref bitsOf) (C := RX8) (T := TX8) (N := 24) hx hb hts (fun w h => tcons w (xin8 w h)) hown hK hP 0 rfl rfl 4 (by decide) (hts _ (tcons _ m140)) (fun _ h9 => h9) rfl dX8_put_76 ?_
          refine lv_iload_n hx hb dX8_put_79 rfl (lv_at hl 2 rfl) ?_
          obtain ⟨g80, hF⟩ := gdS hF
          refine va_iald hx hb hK hP 2 0 rfl rfl g80 dX8_put_80 ?_
          refine lv_bipush (v := 16) hx hb dX8_put_81 (by decide) ?_
          refine lv_icmp_ne (tgt := 91) hx hb dX8_put_83 (by decide) (fun c83 => ?_) (fun c83 => ?_)
          · have hF := itN c83 hF
            refine lv_iload_n hx hb dX8_put_91 rfl (lv_at hl 4 rfl) ?_
            obtain ⟨g92, hF⟩ := gdS hF
            refine va_iast hx hb hK hP hD hS 4 0 rfl rfl g92 dX8_put_92 (fun H locs hP hD hS => ?_)
            have hP : va_P G.1 vwCl [(t, .inr (8, [.ref row, .ref kpt, .int images, .ref errs, .ref bitsOf, .ref sizeOf, .ref cels, .ref broken, .ref isFit, .ref breaks, .int mfit, .int known, .ref act, .ref wth, .ref facts, .ref pile, .int laid, .int hre, .int opnd, .int bad, .int usg, .ref trc, .int trcd, .int isP])), (errs, .inl (xI G, 7, .inl errs_f)), (bitsOf, .inl (xI G, 4, .inl bitsOf_f)), (sizeOf, .inl (xI G, 4, .inl sizeOf_f)), (cels, .inl (xI G, 96, .inl (upd cels_f (((24 : Int32) * si) + i).toNatClampNeg vo)))] H := hP
            have hD : va_D A [(t, .inr (8, [.ref row, .ref kpt, .int images, .ref errs, .ref bitsOf, .ref sizeOf, .ref cels, .ref broken, .ref isFit, .ref breaks, .int mfit, .int known, .ref act, .ref wth, .ref facts, .ref pile, .int laid, .int hre, .int opnd, .int bad, .int usg, .ref trc, .int trcd, .int isP])), (errs, .inl (xI G, 7, .inl errs_f)), (bitsOf, .inl (xI G, 4, .inl bitsOf_f)), (sizeOf, .inl (xI G, 4, .inl sizeOf_f)), (cels, .inl (xI G, 96, .inl (upd cels_f (((24 : Int32) * si) + i).toNatClampNeg vo)))] := hD
            refine lv_iconst (v := 1) hx hb dX8_put_93 (by decide) ?_
            obtain rfl := Option.some.inj hF
            rw [← hQ]
            exact W.iret (v := (1 : Int32)) hx hb hr (fun t ht hW => ⟨⟨_, (), rfl, ⟨rfl, rfl⟩, xLf hP ht⟩, hS.F ht⟩) hS.2.2 dX8_put_94
          · have hF := itP c83 hF
            refine lv_iload_n hx hb dX8_put_86 rfl (lv_at hl 4 rfl) ?_
            refine lv_i2s hx hb dX8_put_87 rfl ?_
            refine lv_goto (tgt := 92) hx hb dX8_put_88 (by decide) ?_
            obtain ⟨g92, hF⟩ := gdS hF
            refine va_iast hx hb hK hP hD hS 4 0 rfl rfl g92 dX8_put_92 (fun H locs hP hD hS => ?_)
            have hP : va_P G.1 vwCl [(t, .inr (8, [.ref row, .ref kpt, .int images, .ref errs, .ref bitsOf, .ref sizeOf, .ref cels, .ref broken, .ref isFit, .ref breaks, .int mfit, .int known, .ref act, .ref wth, .ref facts, .ref pile, .int laid, .int hre, .int opnd, .int bad, .int usg, .ref trc, .int trcd, .int isP])), (errs, .inl (xI G, 7, .inl errs_f)), (bitsOf, .inl (xI G, 4, .inl bitsOf_f)), (sizeOf, .inl (xI G, 4, .inl sizeOf_f)), (cels, .inl (xI G, 96, .inl (upd cels_f (((24 : Int32) * si) + i).toNatClampNeg (vo.toInt16.toInt32))))] H := hP
            have hD : va_D A [(t, .inr (8, [.ref row, .ref kpt, .int images, .ref errs, .ref bitsOf, .ref sizeOf, .ref cels, .ref broken, .ref isFit, .ref breaks, .int mfit, .int known, .ref act, .ref wth, .ref facts, .ref pile, .int laid, .int hre, .int opnd, .int bad, .int usg, .ref trc, .int trcd, .int isP])), (errs, .inl (xI G, 7, .inl errs_f)), (bitsOf, .inl (xI G, 4, .inl bitsOf_f)), (sizeOf, .inl (xI G, 4, .inl sizeOf_f)), (cels, .inl (xI G, 96, .inl (upd cels_f (((24 : Int32) * si) + i).toNatClampNeg (vo.toInt16.toInt32))))] := hD
            refine lv_iconst (v := 1) hx hb dX8_put_93 (by decide) ?_
            obtain rfl := Option.some.inj hF
            rw [← hQ]
            exact W.iret (v := (1 : Int32)) hx hb hr (fun t ht hW => ⟨⟨_, (), rfl, ⟨rfl, rfl⟩, xLf hP ht⟩, hS.F ht⟩) hS.2.2 dX8_put_94
        · have hF := itP c67 hF
          refine lv_iload_n hx hb dX8_put_70 rfl (lv_at hl 4 rfl) ?_
          refine lv_i2b hx hb dX8_put_71 rfl ?_
          refine lv_goto (tgt := 92) hx hb dX8_put_72 (by decide) ?_
          obtain ⟨g92, hF⟩ := gdS hF
          refine va_iast hx hb hK hP hD hS 4 0 rfl rfl g92 dX8_put_92 (fun H locs hP hD hS => ?_)
          have hP : va_P G.1 vwCl [(t, .inr (8, [.ref row, .ref kpt, .int images, .ref errs, .ref bitsOf, .ref sizeOf, .ref cels, .ref broken, .ref isFit, .ref breaks, .int mfit, .int known, .ref act, .ref wth, .ref facts, .ref pile, .int laid, .int hre, .int opnd, .int bad, .int usg, .ref trc, .int trcd, .int isP])), (errs, .inl (xI G, 7, .inl errs_f)), (bitsOf, .inl (xI G, 4, .inl bitsOf_f)), (sizeOf, .inl (xI G, 4, .inl sizeOf_f)), (cels, .inl (xI G, 96, .inl (upd cels_f (((24 : Int32) * si) + i).toNatClampNeg (vo.toInt8.toInt32))))] H := hP
          have hD : va_D A [(t, .inr (8, [.ref row, .ref kpt, .int images, .ref errs, .ref bitsOf, .ref sizeOf, .ref cels, .ref broken, .ref isFit, .ref breaks, .int mfit, .int known, .ref act, .ref wth, .ref facts, .ref pile, .int laid, .int hre, .int opnd, .int bad, .int usg, .ref trc, .int trcd, .int isP])), (errs, .inl (xI G, 7, .inl errs_f)), (bitsOf, .inl (xI G, 4, .inl bitsOf_f)), (sizeOf, .inl (xI G, 4, .inl sizeOf_f)), (cels, .inl (xI G, 96, .inl (upd cels_f (((24 : Int32) * si) + i).toNatClampNeg (vo.toInt8.toInt32))))] := hD
          refine lv_iconst (v := 1) hx hb dX8_put_93 (by decide) ?_
          obtain rfl := Option.some.inj hF
          rw [← hQ]
          exact W.iret (v := (1 : Int32)) hx hb hr (fun t ht hW => ⟨⟨_, (), rfl, ⟨rfl, rfl⟩, xLf hP ht⟩, hS.F ht⟩) hS.2.2 dX8_put_94
      · have hF := itN c39 hF
        refine lv_aload_n hx hb dX8_put_42 rfl (lv_at hl 1 rfl) ?_
        refine lv_iload hx hb dX8_put_43 (lv_at hl 0 rfl) ?_
        obtain ⟨u3, e3, hF⟩ := bdS hF
        refine xEndI (xRunV (As := [.int u1]) (rest := []) hZ (c_X8_error G t row kpt errs bitsOf sizeOf cels broken isFit breaks act wth facts pile trc images mfit known laid hre opnd bad usg trcd isP errs_f u1 u3 e3 l H.size) m193 m194 m195 m5 m196 1 ⟨rfl, hdX8_error⟩ ⟨Nat.le_of_ble_eq_true rfl, Nat.le_of_ble_eq_true rfl⟩ ⟨rfl, rfl⟩ hP hD hS 0 8 rfl rfl rfl [0, 1] rfl rfl rfl hl.1 rfl (Nat.le_of_ble_eq_true rfl) dX8_put_45 ⟨Nat.zero_le _, Nat.zero_le _⟩) hP hD hS hA [0, 1] rfl rfl rfl (fun H locs n3 hP hD hS => ?_)
        have hP : va_P G.1 vwCl [(t, .inr (8, [.ref row, .ref kpt, .int images, .ref errs, .ref bitsOf, .ref sizeOf, .ref cels, .ref broken, .ref isFit, .ref breaks, .int mfit, .int known, .ref act, .ref wth, .ref facts, .ref pile, .int laid, .int hre, .int opnd, .int bad, .int usg, .ref trc, .int trcd, .int isP])), (errs, .inl (xI G, 7, .inl u3.2)), (bitsOf, .inl (xI G, 4, .inl bitsOf_f)), (sizeOf, .inl (xI G, 4, .inl sizeOf_f)), (cels, .inl (xI G, 96, .inl cels_f))] H := hP
        have hD : va_D A [(t, .inr (8, [.ref row, .ref kpt, .int images, .ref errs, .ref bitsOf, .ref sizeOf, .ref cels, .ref broken, .ref isFit, .ref breaks, .int mfit, .int known, .ref act, .ref wth, .ref facts, .ref pile, .int laid, .int hre, .int opnd, .int bad, .int usg, .ref trc, .int trcd, .int isP])), (errs, .inl (xI G, 7, .inl u3.2)), (bitsOf, .inl (xI G, 4, .inl bitsOf_f)), (sizeOf, .inl (xI G, 4, .inl sizeOf_f)), (cels, .inl (xI G, 96, .inl cels_f))] := hD
        obtain rfl := Option.some.inj hF
        rw [← hQ]
        exact W.iret (v := u3.1) hx hb hr (fun t ht hW => ⟨⟨_, (), rfl, ⟨rfl, rfl⟩, xLf hP ht⟩, hS.F ht⟩) hS.2.2 dX8_put_48
    · have hF := itP c25 hF
      refine lv_ldc (v := -1000000001) hx hb hown (hts _ (tcons _ m185)) dX8_put_28 ?_
      refine lv_goto (tgt := 35) hx hb dX8_put_30 (by decide) ?_
      refine lv_istore (lv' := [(4, .int (-1000000001 : Int32)), (0, .ref t), (1, .int si), (2, .int i), (3, .int vo)]) hx hb dX8_put_35 hl (by decide) rfl (fun ls hl => ?_)
      refine lv_iload hx hb dX8_put_37 (lv_at hl 0 rfl) ?_
      refine lv_if_eq (tgt := 49) hx hb dX8_put_39 (by decide) (fun c39 => absurd c39 (by decide)) (fun c39 => ?_)
      refine lv_aload_n hx hb dX8_put_42 rfl (lv_at hl 1 rfl) ?_
      refine lv_iload hx hb dX8_put_43 (lv_at hl 0 rfl) ?_
      obtain ⟨u3, e3, hF⟩ := bdS hF
      refine xEndI (xRunV (As := [.int (-1000000001 : Int32)]) (rest := []) hZ (c_X8_error G t row kpt errs bitsOf sizeOf cels broken isFit breaks act wth facts pile trc images mfit known laid hre opnd bad usg trcd isP errs_f (-1000000001 : Int32) u3 e3 l H.size) m193 m194 m195 m5 m196 1 ⟨rfl, hdX8_error⟩ ⟨Nat.le_of_ble_eq_true rfl, Nat.le_of_ble_eq_true rfl⟩ ⟨rfl, rfl⟩ hP hD hS 0 8 rfl rfl rfl [0, 1] rfl rfl rfl hl.1 rfl (Nat.le_of_ble_eq_true rfl) dX8_put_45 ⟨Nat.zero_le _, Nat.zero_le _⟩) hP hD hS hA [0, 1] rfl rfl rfl (fun H locs n3 hP hD hS => ?_)
      have hP : va_P G.1 vwCl [(t, .inr (8, [.ref row, .ref kpt, .int images, .ref errs, .ref bitsOf, .ref sizeOf, .ref cels, .ref broken, .ref isFit, .ref breaks, .int mfit, .int known, .ref act, .ref wth, .ref facts, .ref pile, .int laid, .int hre, .int opnd, .int bad, .int usg, .ref trc, .int trcd, .int isP])), (errs, .inl (xI G, 7, .inl u3.2)), (bitsOf, .inl (xI G, 4, .inl bitsOf_f)), (sizeOf, .inl (xI G, 4, .inl sizeOf_f)), (cels, .inl (xI G, 96, .inl cels_f))] H := hP
      have hD : va_D A [(t, .inr (8, [.ref row, .ref kpt, .int images, .ref errs, .ref bitsOf, .ref sizeOf, .ref cels, .ref broken, .ref isFit, .ref breaks, .int mfit, .int known, .ref act, .ref wth, .ref facts, .ref pile, .int laid, .int hre, .int opnd, .int bad, .int usg, .ref trc, .int trcd, .int isP])), (errs, .inl (xI G, 7, .inl u3.2)), (bitsOf, .inl (xI G, 4, .inl bitsOf_f)), (sizeOf, .inl (xI G, 4, .inl sizeOf_f)), (cels, .inl (xI G, 96, .inl cels_f))] := hD
      obtain rfl := Option.some.inj hF
      rw [← hQ]
      exact W.iret (v := u3.1) hx hb hr (fun t ht hW => ⟨⟨_, (), rfl, ⟨rfl, rfl⟩, xLf hP ht⟩, hS.F ht⟩) hS.2.2 dX8_put_48
def B_X8_move_28 (errs_f : Nat → Int32) (si : Int32) (i : Int32) (sj : Int32) (j : Int32) (k : Int32) (k28 : (Int32 × (Nat → Int32)) → Option (Int32 × (Nat → Int32) × (Nat → Int32))) (v28 : (Int32 × (Nat → Int32))) : Option (Int32 × (Nat → Int32) × (Nat → Int32)) := if k ≤ v28.1 then (some (k, errs_f, v28.2)) else (if j ≤ i then (if (((((24 : Int32) * si) + i) + v28.1) < 0 ∨ 96 ≤ ((((24 : Int32) * si) + i) + v28.1).toNatClampNeg) then none else (if (((((24 : Int32) * sj) + j) + v28.1) < 0 ∨ 96 ≤ ((((24 : Int32) * sj) + j) + v28.1).toNatClampNeg) then none else (k28 ((v28.1 + (1 : Int32)), (upd v28.2 ((((24 : Int32) * sj) + j) + v28.1).toNatClampNeg (v28.2 ((((24 : Int32) * si) + i) + v28.1).toNatClampNeg)))))) else (if (((((24 : Int32) * si) + i) + ((k - (1 : Int32)) - v28.1)) < 0 ∨ 96 ≤ ((((24 : Int32) * si) + i) + ((k - (1 : Int32)) - v28.1)).toNatClampNeg) then none else (if (((((24 : Int32) * sj) + j) + ((k - (1 : Int32)) - v28.1)) < 0 ∨ 96 ≤ ((((24 : Int32) * sj) + j) + ((k - (1 : Int32)) - v28.1)).toNatClampNeg) then none else (k28 ((v28.1 + (1 : Int32)), (upd v28.2 ((((24 : Int32) * sj) + j) + ((k - (1 : Int32)) - v28.1)).toNatClampNeg (v28.2 ((((24 : Int32) * si) + i) + ((k - (1 : Int32)) - v28.1)).toNatClampNeg)))))))
def F_X8_move (errs_f : Nat → Int32) (bitsOf_f : Nat → Int32) (sizeOf_f : Nat → Int32) (cels_f : Nat → Int32) (si : Int32) (i : Int32) (sj : Int32) (j : Int32) (k : Int32) : Option (Int32 × (Nat → Int32) × (Nat → Int32)) := bd (F_X8_notMoved bitsOf_f sizeOf_f si i sj j k) (fun (u1 : Int32) => if u1 = 0 then (lp (B_X8_move_28 errs_f si i sj j k) fuelC ((0 : Int32), cels_f)) else (bd (F_X8_error errs_f u1) (fun (u2 : (Int32 × (Nat → Int32))) => some (u2.1, u2.2, cels_f))))
theorem hdX8_move : yX8_move.cls ≠ "java/lang/invoke/MethodHandle" ∧ yX8_move.cls ≠ "java/lang/invoke/VarHandle" ∧ (parseMethodDescriptor yX8_move.desc).map (fun d => d.parameters.length) = some 5 := by decide +kernel
set_option maxHeartbeats 4000000 in
set_option maxRecDepth 100000 in
theorem c_X8_move (G : xG) (t : Nat) (row : Nat) (kpt : Nat) (errs : Nat) (bitsOf : Nat) (sizeOf : Nat) (cels : Nat) (broken : Nat) (isFit : Nat) (breaks : Nat) (act : Nat) (wth : Nat) (facts : Nat) (pile : Nat) (trc : Nat) (images : Int32) (mfit : Int32) (known : Int32) (laid : Int32) (hre : Int32) (opnd : Int32) (bad : Int32) (usg : Int32) (trcd : Int32) (isP : Int32) (errs_f : Nat → Int32) (bitsOf_f : Nat → Int32) (sizeOf_f : Nat → Int32) (cels_f : Nat → Int32) (si : Int32) (i : Int32) (sj : Int32) (j : Int32) (k : Int32)  (u : (Int32 × (Nat → Int32) × (Nat → Int32))) (hF : F_X8_move errs_f bitsOf_f sizeOf_f cels_f si i sj j k = some u) : Ki G .int yX8_move (Cond.code yX8_move cX8_move 9 (some .int) :: TBL) { frames := 3, cells := 0, slots := 0, locals := 68 } [.ref t, .int si, .int i, .int sj, .int j, .int k] [(t, .inr (8, [.ref row, .ref kpt, .int images, .ref errs, .ref bitsOf, .ref sizeOf, .ref cels, .ref broken, .ref isFit, .ref breaks, .int mfit, .int known, .ref act, .ref wth, .ref facts, .ref pile, .int laid, .int hre, .int opnd, .int bad, .int usg, .ref trc, .int trcd, .int isP])), (errs, .inl (xI G, 7, .inl errs_f)), (bitsOf, .inl (xI G, 4, .inl bitsOf_f)), (sizeOf, .inl (xI G, 4, .inl sizeOf_f)), (cels, .inl (xI G, 96, .inl cels_f))] [(t, .inr (8, [.ref row, .ref kpt, .int images, .ref errs, .ref bitsOf, .ref sizeOf, .ref cels, .ref broken, .ref isFit, .ref breaks, .int mfit, .int known, .ref act, .ref wth, .ref facts, .ref pile, .int laid, .int hre, .int opnd, .int bad, .int usg, .ref trc, .int trcd, .int isP])), (errs, .inl (xI G, 7, .inl u.2.1)), (bitsOf, .inl (xI G, 4, .inl bitsOf_f)), (sizeOf, .inl (xI G, 4, .inl sizeOf_f)), (cels, .inl (xI G, 96, .inl u.2.2))] u.1 := by
  intro l sz
  refine Met.ofW (cc := cX8_move) (maxL := 9) (ret := (some .int)) (by decide) rfl ?_
  intro p e s m args below meth c s₁ B hml hv
  obtain ⟨rfl, hsz, hP, hD0, hm⟩ := hv
  have hx := B.exec
  have hb := B.bytes
  have hr := B.returns
  have hts := atoms_spec (ws := Cond.code yX8_move cX8_move 9 (some .int) :: TBL) B.pre
  have hown : s.vm.findClass RX8 = some m.cls := findClass_of_methodNamed B.named
  have hlocks := B.notSynchronized
  subst hsz
  have hD := hD0.self (sz := s.heap.size)
  generalize hAe : va_A [(t, .inr (8, [.ref row, .ref kpt, .int images, .ref errs, .ref bitsOf, .ref sizeOf, .ref cels, .ref broken, .ref isFit, .ref breaks, .int mfit, .int known, .ref act, .ref wth, .ref facts, .ref pile, .int laid, .int hre, .int opnd, .int bad, .int usg, .ref trc, .int trcd, .int isP])), (errs, .inl (xI G, 7, .inl errs_f)), (bitsOf, .inl (xI G, 4, .inl bitsOf_f)), (sizeOf, .inl (xI G, 4, .inl sizeOf_f)), (cels, .inl (xI G, 96, .inl cels_f))] s.heap.size = A at hD hm ⊢
  have hA : ∀ q : Nat, s.heap.size ≤ q → A q := fun q h => by rw [← hAe]; exact Or.inr h
  have hK := hm.1
  have hZ : xAnd p m c cX8_move 9 s _ (Cond.code yX8_move cX8_move 9 (some .int) :: TBL) RX8 G A := ⟨⟨hx, hb, hml, hown, hts⟩, tcons, hA, hm⟩
  have hP : va_P G.1 vwCl [(t, .inr (8, [.ref row, .ref kpt, .int images, .ref errs, .ref bitsOf, .ref sizeOf, .ref cels, .ref broken, .ref isFit, .ref breaks, .int mfit, .int known, .ref act, .ref wth, .ref facts, .ref pile, .int laid, .int hre, .int opnd, .int bad, .int usg, .ref trc, .int trcd, .int isP])), (errs, .inl (xI G, 7, .inl errs_f)), (bitsOf, .inl (xI G, 4, .inl bitsOf_f)), (sizeOf, .inl (xI G, 4, .inl sizeOf_f)), (cels, .inl (xI G, 96, .inl cels_f))] s.heap := hP
  have hl := lv_entry ([.ref t, .int si, .int i, .int sj, .int j, .int k]) (n := 9) (Nat.le_of_ble_eq_true rfl)
  rw [lg_entry_eq]
  generalize (lg_sl ([.ref t, .int si, .int i, .int sj, .int j, .int k]) ++ List.replicate (9 - (lg_sl ([.ref t, .int si, .int i, .int sj, .int j, .int k])).length) Slot.unset).toArray = ls at hl ⊢
  have hl : lv_has ls 9 [(0, .ref t), (1, .int si), (2, .int i), (3, .int sj), (4, .int j), (5, .int k)] := hl
  generalize hQ : MQ below _ _ s _ _ _ = Q
  refine xGo (A := A) hP (fun H locs hP hS => ?_)
  unfold F_X8_move at hF
  refine lv_aload_n hx hb dX8_move_0 rfl (lv_at hl 0 rfl) ?_
  refine lv_iload_n hx hb dX8_move_1 rfl (lv_at hl 1 rfl) ?_
  refine lv_iload_n hx hb dX8_move_2 rfl (lv_at hl 2 rfl) ?_
  refine lv_iload_n hx hb dX8_move_3 rfl (lv_at hl 3 rfl) ?_
  refine lv_iload hx hb dX8_move_4 (lv_at hl 4 rfl) ?_
  refine lv_iload hx hb dX8_move_6 (lv_at hl 5 rfl) ?_
  obtain ⟨u1, e1, hF⟩ := bdS hF
  refine xEndI (xRunV (As := [.int si, .int i, .int sj, .int j, .int k]) (rest := []) hZ (c_X8_notMoved G t row kpt errs bitsOf sizeOf cels broken isFit breaks act wth facts pile trc images mfit known laid hre opnd bad usg trcd isP bitsOf_f sizeOf_f si i sj j k u1 e1 l H.size) m1039 m1040 m1041 m5 m1042 5 ⟨rfl, hdX8_notMoved⟩ ⟨Nat.le_of_ble_eq_true rfl, Nat.le_of_ble_eq_true rfl⟩ ⟨rfl, rfl⟩ hP hD hS 0 8 rfl rfl rfl [0, 2, 3] rfl rfl rfl hl.1 rfl (Nat.le_of_ble_eq_true rfl) dX8_move_8 ⟨Nat.zero_le _, Nat.zero_le _⟩) hP hD hS hA [0, 2, 3] rfl rfl rfl (fun H locs n1 hP hD hS => ?_)
  have hP : va_P G.1 vwCl [(t, .inr (8, [.ref row, .ref kpt, .int images, .ref errs, .ref bitsOf, .ref sizeOf, .ref cels, .ref broken, .ref isFit, .ref breaks, .int mfit, .int known, .ref act, .ref wth, .ref facts, .ref pile, .int laid, .int hre, .int opnd, .int bad, .int usg, .ref trc, .int trcd, .int isP])), (errs, .inl (xI G, 7, .inl errs_f)), (bitsOf, .inl (xI G, 4, .inl bitsOf_f)), (sizeOf, .inl (xI G, 4, .inl sizeOf_f)), (cels, .inl (xI G, 96, .inl cels_f))] H := hP
  have hD : va_D A [(t, .inr (8, [.ref row, .ref kpt, .int images, .ref errs, .ref bitsOf, .ref sizeOf, .ref cels, .ref broken, .ref isFit, .ref breaks, .int mfit, .int known, .ref act, .ref wth, .ref facts, .ref pile, .int laid, .int hre, .int opnd, .int bad, .int usg, .ref trc, .int trcd, .int isP])), (errs, .inl (xI G, 7, .inl errs_f)), (bitsOf, .inl (xI G, 4, .inl bitsOf_f)), (sizeOf, .inl (xI G, 4, .inl sizeOf_f)), (cels, .inl (xI G, 96, .inl cels_f))] := hD
  refine lv_istore (lv' := [(6, .int u1), (0, .ref t), (1, .int si), (2, .int i), (3, .int sj), (4, .int j), (5, .int k)]) hx hb dX8_move_11 hl (by decide) rfl (fun ls hl => ?_)
  refine lv_iload hx hb dX8_move_13 (lv_at hl 0 rfl) ?_
  refine lv_if_eq (tgt := 25) hx hb dX8_move_15 (by decide) (fun c15 => ?_) (fun c15 => ?_)
  · have hF := itP c15 hF
    refine lv_iconst (v := 0) hx hb dX8_move_25 (by decide) ?_
    refine lv_istore (lv' := [(7, .int (0 : Int32)), (6, .int u1), (0, .ref t), (1, .int si), (2, .int i), (3, .int sj), (4, .int j), (5, .int k)]) hx hb dX8_move_26 hl (by decide) rfl (fun ls hl => ?_)
    refine xLoop2 (body := (B_X8_move_28 errs_f si i sj j k)) (fun (v28_0 : Int32) (v28_1 : Nat → Int32) H locs ls => va_P G.1 vwCl [(t, .inr (8, [.ref row, .ref kpt, .int images, .ref errs, .ref bitsOf, .ref sizeOf, .ref cels, .ref broken, .ref isFit, .ref breaks, .int mfit, .int known, .ref act, .ref wth, .ref facts, .ref pile, .int laid, .int hre, .int opnd, .int bad, .int usg, .ref trc, .int trcd, .int isP])), (errs, .inl (xI G, 7, .inl errs_f)), (bitsOf, .inl (xI G, 4, .inl bitsOf_f)), (sizeOf, .inl (xI G, 4, .inl sizeOf_f)), (cels, .inl (xI G, 96, .inl v28_1))] H ∧ va_D A [(t, .inr (8, [.ref row, .ref kpt, .int images, .ref errs, .ref bitsOf, .ref sizeOf, .ref cels, .ref broken, .ref isFit, .ref breaks, .int mfit, .int known, .ref act, .ref wth, .ref facts, .ref pile, .int laid, .int hre, .int opnd, .int bad, .int usg, .ref trc, .int trcd, .int isP])), (errs, .inl (xI G, 7, .inl errs_f)), (bitsOf, .inl (xI G, 4, .inl bitsOf_f)), (sizeOf, .inl (xI G, 4, .inl sizeOf_f)), (cels, .inl (xI G, 96, .inl v28_1))] ∧ va_S A s.heap H locs ∧ lv_has ls 9 [(0, .ref t), (1, .int si), (2, .int i), (3, .int sj), (4, .int j), (5, .int k), (6, .int u1), (7, .int v28_0)]) (fun N28 v28_0 v28_1 ih28 H locs ls hI hF => ?_) fuelC (0 : Int32) cels_f H locs ls ⟨hP, hD, hS, lv_sub hl [2, 3, 4, 5, 6, 7, 1, 0] rfl⟩ hF
    obtain ⟨hP, hD, hS, hl⟩ := hI
    unfold B_X8_move_28 at hF
    refine lv_iload hx hb dX8_move_28 (lv_at hl 7 rfl) ?_
    refine lv_iload hx hb dX8_move_30 (lv_at hl 5 rfl) ?_
    refine lv_icmp_ge (tgt := 90) hx hb dX8_move_32 (by decide) (fun c32 => ?_) (fun c32 => ?_)
    · have hF := itP c32 hF
      refine lv_iload hx hb dX8_move_90 (lv_at hl 5 rfl) ?_
      obtain rfl := Option.some.inj hF
      rw [← hQ]
      exact W.iret (v := k) hx hb hr (fun t ht hW => ⟨⟨_, (), rfl, ⟨rfl, rfl⟩, xLf hP ht⟩, hS.F ht⟩) hS.2.2 dX8_move_92
    · have hF := itN c32 hF
      refine lv_iload_n hx hb dX8_move_35 rfl (lv_at hl 2 rfl) ?_
      refine lv_iload hx hb dX8_move_36 (lv_at hl 4 rfl) ?_
      refine lv_icmp_ge (tgt := 51) hx hb dX8_move_38 (by decide) (fun c38 => ?_) (fun c38 => ?_)
      · have hF := itP c38 hF
        refine lv_iload hx hb dX8_move_51 (lv_at hl 7 rfl) ?_
        refine lv_istore (lv' := [(8, .int v28_0), (0, .ref t), (1, .int si), (2, .int i), (3, .int sj), (4, .int j), (5, .int k), (6, .int u1), (7, .int v28_0)]) hx hb dX8_move_53 hl (by decide) rfl (fun ls hl => ?_)
        refine lv_aload_n hx hb dX8_move_55 rfl (lv_at hl 1 rfl) ?_
        refine va_get (ci := 8) (v := .ref cels) (C := RX8) (T := TX8) (N := 24) hx hb hts (fun w h => tcons w (xin8 w h)) hown hK hP 0 rfl rfl 6 (by decide) (hts _ (tcons _ m142)) (fun _ h9 => h9) rfl dX8_move_56 ?_
        refine lv_bipush (v := 24) hx hb dX8_move_59 (by decide) ?_
        refine lv_iload_n hx hb dX8_move_61 rfl (lv_at hl 4 rfl) ?_
        refine lv_imul hx hb dX8_move_62 ?_
        refine lv_iload hx hb dX8_move_63 (lv_at hl 5 rfl) ?_
        refine lv_iadd hx hb dX8_move_65 ?_
        refine lv_iload hx hb dX8_move_66 (lv_at hl 0 rfl) ?_
        refine lv_iadd hx hb dX8_move_68 ?_
        refine lv_aload_n hx hb dX8_move_69 rfl (lv_at hl 1 rfl) ?_
        refine va_get (ci := 8) (v := .ref cels) (C := RX8) (T := TX8) (N := 24) hx hb hts (fun w h => tcons w (xin8 w h)) hown hK hP 0 rfl rfl 6 (by decide) (hts _ (tcons _ m142)) (fun _ h9 => h9) rfl dX8_move_70 ?_
        refine lv_bipush (v := 24) hx hb dX8_move_73 (by decide) ?_
        refine lv_iload_n hx hb dX8_move_75 rfl (lv_at hl 2 rfl) ?_
        refine lv_imul hx hb dX8_move_76 ?_
        refine lv_iload_n hx hb dX8_move_77 rfl (lv_at hl 3 rfl) ?_
        refine lv_iadd hx hb dX8_move_78 ?_
        refine lv_iload hx hb dX8_move_79 (lv_at hl 0 rfl) ?_
        refine lv_iadd hx hb dX8_move_81 ?_
        obtain ⟨g82, hF⟩ := gdS hF
        refine va_iald hx hb hK hP 4 0 rfl rfl g82 dX8_move_82 ?_
        obtain ⟨g83, hF⟩ := gdS hF
        refine va_iast hx hb hK hP hD hS 4 0 rfl rfl g83 dX8_move_83 (fun H locs hP hD hS => ?_)
        have hP : va_P G.1 vwCl [(t, .inr (8, [.ref row, .ref kpt, .int images, .ref errs, .ref bitsOf, .ref sizeOf, .ref cels, .ref broken, .ref isFit, .ref breaks, .int mfit, .int known, .ref act, .ref wth, .ref facts, .ref pile, .int laid, .int hre, .int opnd, .int bad, .int usg, .ref trc, .int trcd, .int isP])), (errs, .inl (xI G, 7, .inl errs_f)), (bitsOf, .inl (xI G, 4, .inl bitsOf_f)), (sizeOf, .inl (xI G, 4, .inl sizeOf_f)), (cels, .inl (xI G, 96, .inl (upd v28_1 ((((24 : Int32) * sj) + j) + v28_0).toNatClampNeg (v28_1 ((((24 : Int32) * si) + i) + v28_0).toNatClampNeg))))] H := hP
        have hD : va_D A [(t, .inr (8, [.ref row, .ref kpt, .int images, .ref errs, .ref bitsOf, .ref sizeOf, .ref cels, .ref broken, .ref isFit, .ref breaks, .int mfit, .int known, .ref act, .ref wth, .ref facts, .ref pile, .int laid, .int hre, .int opnd, .int bad, .int usg, .ref trc, .int trcd, .int isP])), (errs, .inl (xI G, 7, .inl errs_f)), (bitsOf, .inl (xI G, 4, .inl bitsOf_f)), (sizeOf, .inl (xI G, 4, .inl sizeOf_f)), (cels, .inl (xI G, 96, .inl (upd v28_1 ((((24 : Int32) * sj) + j) + v28_0).toNatClampNeg (v28_1 ((((24 : Int32) * si) + i) + v28_0).toNatClampNeg))))] := hD
        refine lv_iinc (v := (v28_0 + (1 : Int32))) (lv' := [(7, .int (v28_0 + (1 : Int32))), (8, .int v28_0), (0, .ref t), (1, .int si), (2, .int i), (3, .int sj), (4, .int j), (5, .int k), (6, .int u1)]) hx hb dX8_move_84 hl (k := 8) rfl (xInc_1 _) (by decide) rfl (fun ls hl => ?_)
        refine lv_goto (tgt := 28) hx hb dX8_move_87 (by decide) ?_
        exact ih28 (v28_0 + (1 : Int32)) (upd v28_1 ((((24 : Int32) * sj) + j) + v28_0).toNatClampNeg (v28_1 ((((24 : Int32) * si) + i) + v28_0).toNatClampNeg)) H locs ls ⟨hP, hD, hS, lv_sub hl [2, 3, 4, 5, 6, 7, 8, 0] rfl⟩ hF
      · have hF := itN c38 hF
        refine lv_iload hx hb dX8_move_41 (lv_at hl 5 rfl) ?_
        refine lv_iconst (v := 1) hx hb dX8_move_43 (by decide) ?_
        refine lv_isub hx hb dX8_move_44 ?_
        refine lv_iload hx hb dX8_move_45 (lv_at hl 7 rfl) ?_
        refine lv_isub hx hb dX8_move_47 ?_
        refine lv_goto (tgt := 53) hx hb dX8_move_48 (by decide) ?_
        refine lv_istore (lv' := [(8, .int ((k - (1 : Int32)) - v28_0)), (0, .ref t), (1, .int si), (2, .int i), (3, .int sj), (4, .int j), (5, .int k), (6, .int u1), (7, .int v28_0)]) hx hb dX8_move_53 hl (by decide) rfl (fun ls hl => ?_)
        refine lv_aload_n hx hb dX8_move_55 rfl (lv_at hl 1 rfl) ?_
        refine va_get (ci := 8) (v := .ref cels) (C := RX8) (T := TX8) (N := 24) hx hb hts (fun w h => tcons w (xin8 w h)) hown hK hP 0 rfl rfl 6 (by decide) (hts _ (tcons _ m142)) (fun _ h9 => h9) rfl dX8_move_56 ?_
        refine lv_bipush (v := 24) hx hb dX8_move_59 (by decide) ?_
        refine lv_iload_n hx hb dX8_move_61 rfl (lv_at hl 4 rfl) ?_
        refine lv_imul hx hb dX8_move_62 ?_
        refine lv_iload hx hb dX8_move_63 (lv_at hl 5 rfl) ?_
        refine lv_iadd hx hb dX8_move_65 ?_
        refine lv_iload hx hb dX8_move_66 (lv_at hl 0 rfl) ?_
        refine lv_iadd hx hb dX8_move_68 ?_
        refine lv_aload_n hx hb dX8_move_69 rfl (lv_at hl 1 rfl) ?_
        refine va_get (ci := 8) (v := .ref cels) (C := RX8) (T := TX8) (N := 24) hx hb hts (fun w h => tcons w (xin8 w h)) hown hK hP 0 rfl rfl 6 (by decide) (hts _ (tcons _ m142)) (fun _ h9 => h9) rfl dX8_move_70 ?_
        refine lv_bipush (v := 24) hx hb dX8_move_73 (by decide) ?_
        refine lv_iload_n hx hb dX8_move_75 rfl (lv_at hl 2 rfl) ?_
        refine lv_imul hx hb dX8_move_76 ?_
        refine lv_iload_n hx hb dX8_move_77 rfl (lv_at hl 3 rfl) ?_
        refine lv_iadd hx hb dX8_move_78 ?_
        refine lv_iload hx hb dX8_move_79 (lv_at hl 0 rfl) ?_
        refine lv_iadd hx hb dX8_move_81 ?_
        obtain ⟨g82, hF⟩ := gdS hF
        refine va_iald hx hb hK hP 4 0 rfl rfl g82 dX8_move_82 ?_
        obtain ⟨g83, hF⟩ := gdS hF
        refine va_iast hx hb hK hP hD hS 4 0 rfl rfl g83 dX8_move_83 (fun H locs hP hD hS => ?_)
        have hP : va_P G.1 vwCl [(t, .inr (8, [.ref row, .ref kpt, .int images, .ref errs, .ref bitsOf, .ref sizeOf, .ref cels, .ref broken, .ref isFit, .ref breaks, .int mfit, .int known, .ref act, .ref wth, .ref facts, .ref pile, .int laid, .int hre, .int opnd, .int bad, .int usg, .ref trc, .int trcd, .int isP])), (errs, .inl (xI G, 7, .inl errs_f)), (bitsOf, .inl (xI G, 4, .inl bitsOf_f)), (sizeOf, .inl (xI G, 4, .inl sizeOf_f)), (cels, .inl (xI G, 96, .inl (upd v28_1 ((((24 : Int32) * sj) + j) + ((k - (1 : Int32)) - v28_0)).toNatClampNeg (v28_1 ((((24 : Int32) * si) + i) + ((k - (1 : Int32)) - v28_0)).toNatClampNeg))))] H := hP
        have hD : va_D A [(t, .inr (8, [.ref row, .ref kpt, .int images, .ref errs, .ref bitsOf, .ref sizeOf, .ref cels, .ref broken, .ref isFit, .ref breaks, .int mfit, .int known, .ref act, .ref wth, .ref facts, .ref pile, .int laid, .int hre, .int opnd, .int bad, .int usg, .ref trc, .int trcd, .int isP])), (errs, .inl (xI G, 7, .inl errs_f)), (bitsOf, .inl (xI G, 4, .inl bitsOf_f)), (sizeOf, .inl (xI G, 4, .inl sizeOf_f)), (cels, .inl (xI G, 96, .inl (upd v28_1 ((((24 : Int32) * sj) + j) + ((k - (1 : Int32)) - v28_0)).toNatClampNeg (v28_1 ((((24 : Int32) * si) + i) + ((k - (1 : Int32)) - v28_0)).toNatClampNeg))))] := hD
        refine lv_iinc (v := (v28_0 + (1 : Int32))) (lv' := [(7, .int (v28_0 + (1 : Int32))), (8, .int ((k - (1 : Int32)) - v28_0)), (0, .ref t), (1, .int si), (2, .int i), (3, .int sj), (4, .int j), (5, .int k), (6, .int u1)]) hx hb dX8_move_84 hl (k := 8) rfl (xInc_1 _) (by decide) rfl (fun ls hl => ?_)
        refine lv_goto (tgt := 28) hx hb dX8_move_87 (by decide) ?_
        exact ih28 (v28_0 + (1 : Int32)) (upd v28_1 ((((24 : Int32) * sj) + j) + ((k - (1 : Int32)) - v28_0)).toNatClampNeg (v28_1 ((((24 : Int32) * si) + i) + ((k - (1 : Int32)) - v28_0)).toNatClampNeg)) H locs ls ⟨hP, hD, hS, lv_sub hl [2, 3, 4, 5, 6, 7, 8, 0] rfl⟩ hF
  · have hF := itN c15 hF
    refine lv_aload_n hx hb dX8_move_18 rfl (lv_at hl 1 rfl) ?_
    refine lv_iload hx hb dX8_move_19 (lv_at hl 0 rfl) ?_
    obtain ⟨u2, e2, hF⟩ := bdS hF
    refine xEndI (xRunV (As := [.int u1]) (rest := []) hZ (c_X8_error G t row kpt errs bitsOf sizeOf cels broken isFit breaks act wth facts pile trc images mfit known laid hre opnd bad usg trcd isP errs_f u1 u2 e2 l H.size) m193 m194 m195 m5 m196 1 ⟨rfl, hdX8_error⟩ ⟨Nat.le_of_ble_eq_true rfl, Nat.le_of_ble_eq_true rfl⟩ ⟨rfl, rfl⟩ hP hD hS 0 8 rfl rfl rfl [0, 1] rfl rfl rfl hl.1 rfl (Nat.le_of_ble_eq_true rfl) dX8_move_21 ⟨Nat.zero_le _, Nat.zero_le _⟩) hP hD hS hA [0, 1] rfl rfl rfl (fun H locs n2 hP hD hS => ?_)
    have hP : va_P G.1 vwCl [(t, .inr (8, [.ref row, .ref kpt, .int images, .ref errs, .ref bitsOf, .ref sizeOf, .ref cels, .ref broken, .ref isFit, .ref breaks, .int mfit, .int known, .ref act, .ref wth, .ref facts, .ref pile, .int laid, .int hre, .int opnd, .int bad, .int usg, .ref trc, .int trcd, .int isP])), (errs, .inl (xI G, 7, .inl u2.2)), (bitsOf, .inl (xI G, 4, .inl bitsOf_f)), (sizeOf, .inl (xI G, 4, .inl sizeOf_f)), (cels, .inl (xI G, 96, .inl cels_f))] H := hP
    have hD : va_D A [(t, .inr (8, [.ref row, .ref kpt, .int images, .ref errs, .ref bitsOf, .ref sizeOf, .ref cels, .ref broken, .ref isFit, .ref breaks, .int mfit, .int known, .ref act, .ref wth, .ref facts, .ref pile, .int laid, .int hre, .int opnd, .int bad, .int usg, .ref trc, .int trcd, .int isP])), (errs, .inl (xI G, 7, .inl u2.2)), (bitsOf, .inl (xI G, 4, .inl bitsOf_f)), (sizeOf, .inl (xI G, 4, .inl sizeOf_f)), (cels, .inl (xI G, 96, .inl cels_f))] := hD
    obtain rfl := Option.some.inj hF
    rw [← hQ]
    exact W.iret (v := u2.1) hx hb hr (fun t ht hW => ⟨⟨_, (), rfl, ⟨rfl, rfl⟩, xLf hP ht⟩, hS.F ht⟩) hS.2.2 dX8_move_24
def B_X8_signs_18 (errs_f : Nat → Int32) (sizeOf_f : Nat → Int32) (cels_f : Nat → Int32) (broken_f : Nat → Int64) (si : Int32) (k18 : (Int32 × Int32 × (Nat → Int32)) → Option (Int32 × Int32 × (Nat → Int32) × (Nat → Int32))) (v18 : (Int32 × Int32 × (Nat → Int32))) : Option (Int32 × Int32 × (Nat → Int32) × (Nat → Int32)) := if (si < 0 ∨ 4 ≤ si.toNatClampNeg) then none else (if (sizeOf_f si.toNatClampNeg) ≤ v18.1 then (some (v18.1, v18.2.1, v18.2.2, errs_f)) else (if (24 : Int32) ≤ (v18.2.2 (3 : Int32).toNatClampNeg) then (some (v18.1, v18.2.1, v18.2.2, errs_f)) else (if ((((24 : Int32) * si) + v18.1) < 0 ∨ 96 ≤ (((24 : Int32) * si) + v18.1).toNatClampNeg) then none else (bd (F_X8_isSaying (cels_f (((24 : Int32) * si) + v18.1).toNatClampNeg)) (fun (u2 : Int32) => if u2 = 0 then (some (v18.1, v18.2.1, v18.2.2, errs_f)) else (if ((((24 : Int32) * si) + v18.1) < 0 ∨ 96 ≤ (((24 : Int32) * si) + v18.1).toNatClampNeg) then none else (bd (F_X8_doesBreak broken_f (v18.2.2 (5 : Int32).toNatClampNeg) (cels_f (((24 : Int32) * si) + v18.1).toNatClampNeg)) (fun (u3 : Int32) => if u3 = 0 then (bd (F_X8_comes v18.2.2 (cels_f (((24 : Int32) * si) + v18.1).toNatClampNeg) (0 : Int32)) (fun (u4 : (Int32 × (Nat → Int32))) => k18 ((v18.1 + (1 : Int32)), u4.1, u4.2))) else (bd (F_X8_comes v18.2.2 (cels_f (((24 : Int32) * si) + v18.1).toNatClampNeg) (1 : Int32)) (fun (u4 : (Int32 × (Nat → Int32))) => k18 ((v18.1 + (1 : Int32)), u4.1, u4.2)))))))))))
def F_X8_signs (known : Int32) (row_f : Nat → Int32) (errs_f : Nat → Int32) (bitsOf_f : Nat → Int32) (sizeOf_f : Nat → Int32) (cels_f : Nat → Int32) (broken_f : Nat → Int64) (si : Int32) : Option (Int32 × Int32 × (Nat → Int32) × (Nat → Int32)) := bd (F_X8_notThere bitsOf_f si) (fun (u1 : Int32) => if u1 = 0 then (lp (B_X8_signs_18 errs_f sizeOf_f cels_f broken_f si) fuelC ((0 : Int32), known, row_f)) else (bd (F_X8_error errs_f u1) (fun (u2 : (Int32 × (Nat → Int32))) => some (u2.1, known, row_f, u2.2))))
theorem hdX8_signs : yX8_signs.cls ≠ "java/lang/invoke/MethodHandle" ∧ yX8_signs.cls ≠ "java/lang/invoke/VarHandle" ∧ (parseMethodDescriptor yX8_signs.desc).map (fun d => d.parameters.length) = some 1 := by decide +kernel
set_option maxHeartbeats 4000000 in
set_option maxRecDepth 100000 in
theorem c_X8_signs (G : xG) (t : Nat) (row : Nat) (kpt : Nat) (errs : Nat) (bitsOf : Nat) (sizeOf : Nat) (cels : Nat) (broken : Nat) (isFit : Nat) (breaks : Nat) (act : Nat) (wth : Nat) (facts : Nat) (pile : Nat) (trc : Nat) (images : Int32) (mfit : Int32) (known : Int32) (laid : Int32) (hre : Int32) (opnd : Int32) (bad : Int32) (usg : Int32) (trcd : Int32) (isP : Int32) (row_f : Nat → Int32) (errs_f : Nat → Int32) (bitsOf_f : Nat → Int32) (sizeOf_f : Nat → Int32) (cels_f : Nat → Int32) (broken_f : Nat → Int64) (si : Int32)  (u : (Int32 × Int32 × (Nat → Int32) × (Nat → Int32))) (hF : F_X8_signs known row_f errs_f bitsOf_f sizeOf_f cels_f broken_f si = some u) : Ki G .int yX8_signs (Cond.code yX8_signs cX8_signs 5 (some .int) :: TBL) { frames := 3, cells := 0, slots := 0, locals := 63 } [.ref t, .int si] [(t, .inr (8, [.ref row, .ref kpt, .int images, .ref errs, .ref bitsOf, .ref sizeOf, .ref cels, .ref broken, .ref isFit, .ref breaks, .int mfit, .int known, .ref act, .ref wth, .ref facts, .ref pile, .int laid, .int hre, .int opnd, .int bad, .int usg, .ref trc, .int trcd, .int isP])), (row, .inl (xI G, 400, .inl row_f)), (errs, .inl (xI G, 7, .inl errs_f)), (bitsOf, .inl (xI G, 4, .inl bitsOf_f)), (sizeOf, .inl (xI G, 4, .inl sizeOf_f)), (cels, .inl (xI G, 96, .inl cels_f)), (broken, .inl (xJ G, 729, .inr (.inl broken_f)))] [(t, .inr (8, [.ref row, .ref kpt, .int images, .ref errs, .ref bitsOf, .ref sizeOf, .ref cels, .ref broken, .ref isFit, .ref breaks, .int mfit, .int u.2.1, .ref act, .ref wth, .ref facts, .ref pile, .int laid, .int hre, .int opnd, .int bad, .int usg, .ref trc, .int trcd, .int isP])), (row, .inl (xI G, 400, .inl u.2.2.1)), (errs, .inl (xI G, 7, .inl u.2.2.2)), (bitsOf, .inl (xI G, 4, .inl bitsOf_f)), (sizeOf, .inl (xI G, 4, .inl sizeOf_f)), (cels, .inl (xI G, 96, .inl cels_f)), (broken, .inl (xJ G, 729, .inr (.inl broken_f)))] u.1 := by
  intro l sz
  refine Met.ofW (cc := cX8_signs) (maxL := 5) (ret := (some .int)) (by decide) rfl ?_
  intro p e s m args below meth c s₁ B hml hv
  obtain ⟨rfl, hsz, hP, hD0, hm⟩ := hv
  have hx := B.exec
  have hb := B.bytes
  have hr := B.returns
  have hts := atoms_spec (ws := Cond.code yX8_signs cX8_signs 5 (some .int) :: TBL) B.pre
  have hown : s.vm.findClass RX8 = some m.cls := findClass_of_methodNamed B.named
  have hlocks := B.notSynchronized
  subst hsz
  have hD := hD0.self (sz := s.heap.size)
  generalize hAe : va_A [(t, .inr (8, [.ref row, .ref kpt, .int images, .ref errs, .ref bitsOf, .ref sizeOf, .ref cels, .ref broken, .ref isFit, .ref breaks, .int mfit, .int known, .ref act, .ref wth, .ref facts, .ref pile, .int laid, .int hre, .int opnd, .int bad, .int usg, .ref trc, .int trcd, .int isP])), (row, .inl (xI G, 400, .inl row_f)), (errs, .inl (xI G, 7, .inl errs_f)), (bitsOf, .inl (xI G, 4, .inl bitsOf_f)), (sizeOf, .inl (xI G, 4, .inl sizeOf_f)), (cels, .inl (xI G, 96, .inl cels_f)), (broken, .inl (xJ G, 729, .inr (.inl broken_f)))] s.heap.size = A at hD hm ⊢
  have hA : ∀ q : Nat, s.heap.size ≤ q → A q := fun q h => by rw [← hAe]; exact Or.inr h
  have hK := hm.1
  have hZ : xAnd p m c cX8_signs 5 s _ (Cond.code yX8_signs cX8_signs 5 (some .int) :: TBL) RX8 G A := ⟨⟨hx, hb, hml, hown, hts⟩, tcons, hA, hm⟩
  have hP : va_P G.1 vwCl [(t, .inr (8, [.ref row, .ref kpt, .int images, .ref errs, .ref bitsOf, .ref sizeOf, .ref cels, .ref broken, .ref isFit, .ref breaks, .int mfit, .int known, .ref act, .ref wth, .ref facts, .ref pile, .int laid, .int hre, .int opnd, .int bad, .int usg, .ref trc, .int trcd, .int isP])), (row, .inl (xI G, 400, .inl row_f)), (errs, .inl (xI G, 7, .inl errs_f)), (bitsOf, .inl (xI G, 4, .inl bitsOf_f)), (sizeOf, .inl (xI G, 4, .inl sizeOf_f)), (cels, .inl (xI G, 96, .inl cels_f)), (broken, .inl (xJ G, 729, .inr (.inl broken_f)))] s.heap := hP
  have hl := lv_entry ([.ref t, .int si]) (n := 5) (Nat.le_of_ble_eq_true rfl)
  rw [lg_entry_eq]
  generalize (lg_sl ([.ref t, .int si]) ++ List.replicate (5 - (lg_sl ([.ref t, .int si])).length) Slot.unset).toArray = ls at hl ⊢
  have hl : lv_has ls 5 [(0, .ref t), (1, .int si)] := hl
  generalize hQ : MQ below _ _ s _ _ _ = Q
  refine xGo (A := A) hP (fun H locs hP hS => ?_)
  unfold F_X8_signs at hF
  refine lv_aload_n hx hb dX8_signs_0 rfl (lv_at hl 0 rfl) ?_
  refine lv_iload_n hx hb dX8_signs_1 rfl (lv_at hl 1 rfl) ?_
  obtain ⟨u1, e1, hF⟩ := bdS hF
  refine xEndI (xRunV (As := [.int si]) (rest := []) hZ (c_X8_notThere G t row kpt errs bitsOf sizeOf cels broken isFit breaks act wth facts pile trc images mfit known laid hre opnd bad usg trcd isP bitsOf_f si u1 e1 l H.size) m1024 m1025 m1026 m5 m1027 1 ⟨rfl, hdX8_notThere⟩ ⟨Nat.le_of_ble_eq_true rfl, Nat.le_of_ble_eq_true rfl⟩ ⟨rfl, rfl⟩ hP hD hS 0 8 rfl rfl rfl [0, 3] rfl rfl rfl hl.1 rfl (Nat.le_of_ble_eq_true rfl) dX8_signs_2 ⟨Nat.zero_le _, Nat.zero_le _⟩) hP hD hS hA [0, 3] rfl rfl rfl (fun H locs n1 hP hD hS => ?_)
  have hP : va_P G.1 vwCl [(t, .inr (8, [.ref row, .ref kpt, .int images, .ref errs, .ref bitsOf, .ref sizeOf, .ref cels, .ref broken, .ref isFit, .ref breaks, .int mfit, .int known, .ref act, .ref wth, .ref facts, .ref pile, .int laid, .int hre, .int opnd, .int bad, .int usg, .ref trc, .int trcd, .int isP])), (row, .inl (xI G, 400, .inl row_f)), (errs, .inl (xI G, 7, .inl errs_f)), (bitsOf, .inl (xI G, 4, .inl bitsOf_f)), (sizeOf, .inl (xI G, 4, .inl sizeOf_f)), (cels, .inl (xI G, 96, .inl cels_f)), (broken, .inl (xJ G, 729, .inr (.inl broken_f)))] H := hP
  have hD : va_D A [(t, .inr (8, [.ref row, .ref kpt, .int images, .ref errs, .ref bitsOf, .ref sizeOf, .ref cels, .ref broken, .ref isFit, .ref breaks, .int mfit, .int known, .ref act, .ref wth, .ref facts, .ref pile, .int laid, .int hre, .int opnd, .int bad, .int usg, .ref trc, .int trcd, .int isP])), (row, .inl (xI G, 400, .inl row_f)), (errs, .inl (xI G, 7, .inl errs_f)), (bitsOf, .inl (xI G, 4, .inl bitsOf_f)), (sizeOf, .inl (xI G, 4, .inl sizeOf_f)), (cels, .inl (xI G, 96, .inl cels_f)), (broken, .inl (xJ G, 729, .inr (.inl broken_f)))] := hD
  refine lv_istore_n (lv' := [(2, .int u1), (0, .ref t), (1, .int si)]) hx hb dX8_signs_5 rfl hl (by decide) rfl (fun ls hl => ?_)
  refine lv_iload_n hx hb dX8_signs_6 rfl (lv_at hl 0 rfl) ?_
  refine lv_if_eq (tgt := 16) hx hb dX8_signs_7 (by decide) (fun c7 => ?_) (fun c7 => ?_)
  · have hF := itP c7 hF
    refine lv_iconst (v := 0) hx hb dX8_signs_16 (by decide) ?_
    refine lv_istore_n (lv' := [(3, .int (0 : Int32)), (2, .int u1), (0, .ref t), (1, .int si)]) hx hb dX8_signs_17 rfl hl (by decide) rfl (fun ls hl => ?_)
    refine xLoop3 (body := (B_X8_signs_18 errs_f sizeOf_f cels_f broken_f si)) (fun (v18_0 : Int32) (v18_1 : Int32) (v18_2 : Nat → Int32) H locs ls => va_P G.1 vwCl [(t, .inr (8, [.ref row, .ref kpt, .int images, .ref errs, .ref bitsOf, .ref sizeOf, .ref cels, .ref broken, .ref isFit, .ref breaks, .int mfit, .int v18_1, .ref act, .ref wth, .ref facts, .ref pile, .int laid, .int hre, .int opnd, .int bad, .int usg, .ref trc, .int trcd, .int isP])), (row, .inl (xI G, 400, .inl v18_2)), (errs, .inl (xI G, 7, .inl errs_f)), (bitsOf, .inl (xI G, 4, .inl bitsOf_f)), (sizeOf, .inl (xI G, 4, .inl sizeOf_f)), (cels, .inl (xI G, 96, .inl cels_f)), (broken, .inl (xJ G, 729, .inr (.inl broken_f)))] H ∧ va_D A [(t, .inr (8, [.ref row, .ref kpt, .int images, .ref errs, .ref bitsOf, .ref sizeOf, .ref cels, .ref broken, .ref isFit, .ref breaks, .int mfit, .int v18_1, .ref act, .ref wth, .ref facts, .ref pile, .int laid, .int hre, .int opnd, .int bad, .int usg, .ref trc, .int trcd, .int isP])), (row, .inl (xI G, 400, .inl v18_2)), (errs, .inl (xI G, 7, .inl errs_f)), (bitsOf, .inl (xI G, 4, .inl bitsOf_f)), (sizeOf, .inl (xI G, 4, .inl sizeOf_f)), (cels, .inl (xI G, 96, .inl cels_f)), (broken, .inl (xJ G, 729, .inr (.inl broken_f)))] ∧ va_S A s.heap H locs ∧ lv_has ls 5 [(0, .ref t), (1, .int si), (2, .int u1), (3, .int v18_0)]) (fun N18 v18_0 v18_1 v18_2 ih18 H locs ls hI hF => ?_) fuelC (0 : Int32) known row_f H locs ls ⟨hP, hD, hS, lv_sub hl [2, 3, 1, 0] rfl⟩ hF
    obtain ⟨hP, hD, hS, hl⟩ := hI
    unfold B_X8_signs_18 at hF
    refine lv_iload_n hx hb dX8_signs_18 rfl (lv_at hl 3 rfl) ?_
    refine lv_aload_n hx hb dX8_signs_19 rfl (lv_at hl 0 rfl) ?_
    refine va_get (ci := 8) (v := .ref sizeOf) (C := RX8) (T := TX8) (N := 24) hx hb hts (fun w h => tcons w (xin8 w h)) hown hK hP 0 rfl rfl 5 (by decide) (hts _ (tcons _ m141)) (fun _ h9 => h9) rfl dX8_signs_20 ?_
    refine lv_iload_n hx hb dX8_signs_23 rfl (lv_at hl 1 rfl) ?_
    obtain ⟨g24, hF⟩ := gdS hF
    refine va_iald hx hb hK hP 4 0 rfl rfl g24 dX8_signs_24 ?_
    refine lv_icmp_ge (tgt := 101) hx hb dX8_signs_25 (by decide) (fun c25 => ?_) (fun c25 => ?_)
    · have hF := itP c25 hF
      refine lv_iload_n hx hb dX8_signs_101 rfl (lv_at hl 3 rfl) ?_
      obtain rfl := Option.some.inj hF
      rw [← hQ]
      exact W.iret (v := v18_0) hx hb hr (fun t ht hW => ⟨⟨_, (), rfl, ⟨rfl, rfl⟩, xLf hP ht⟩, hS.F ht⟩) hS.2.2 dX8_signs_102
    · have hF := itN c25 hF
      refine lv_aload_n hx hb dX8_signs_28 rfl (lv_at hl 0 rfl) ?_
      refine va_get (ci := 8) (v := .ref row) (C := RX8) (T := TX8) (N := 24) hx hb hts (fun w h => tcons w (xin8 w h)) hown hK hP 0 rfl rfl 0 (by decide) (hts _ (tcons _ m137)) (fun _ h9 => h9) rfl dX8_signs_29 ?_
      refine lv_iconst (v := 3) hx hb dX8_signs_32 (by decide) ?_
      refine va_iald hx hb hK hP 1 0 rfl rfl (by unfold vp_in; decide) dX8_signs_33 ?_
      refine lv_bipush (v := 24) hx hb dX8_signs_34 (by decide) ?_
      refine lv_icmp_ge (tgt := 101) hx hb dX8_signs_36 (by decide) (fun c36 => ?_) (fun c36 => ?_)
      · have hF := itP c36 hF
        refine lv_iload_n hx hb dX8_signs_101 rfl (lv_at hl 3 rfl) ?_
        obtain rfl := Option.some.inj hF
        rw [← hQ]
        exact W.iret (v := v18_0) hx hb hr (fun t ht hW => ⟨⟨_, (), rfl, ⟨rfl, rfl⟩, xLf hP ht⟩, hS.F ht⟩) hS.2.2 dX8_signs_102
      · have hF := itN c36 hF
        refine lv_aload_n hx hb dX8_signs_39 rfl (lv_at hl 0 rfl) ?_
        refine va_get (ci := 8) (v := .ref cels) (C := RX8) (T := TX8) (N := 24) hx hb hts (fun w h => tcons w (xin8 w h)) hown hK hP 0 rfl rfl 6 (by decide) (hts _ (tcons _ m142)) (fun _ h9 => h9) rfl dX8_signs_40 ?_
        refine lv_bipush (v := 24) hx hb dX8_signs_43 (by decide) ?_
        refine lv_iload_n hx hb dX8_signs_45 rfl (lv_at hl 1 rfl) ?_
        refine lv_imul hx hb dX8_signs_46 ?_
        refine lv_iload_n hx hb dX8_signs_47 rfl (lv_at hl 3 rfl) ?_
        refine lv_iadd hx hb dX8_signs_48 ?_
        obtain ⟨g49, hF⟩ := gdS hF
        refine va_iald hx hb hK hP 5 0 rfl rfl g49 dX8_signs_49 ?_
        obtain ⟨u2, e2, hF⟩ := bdS hF
        refine xEndI (xRunS (As := [.int (cels_f (((24 : Int32) * si) + v18_0).toNatClampNeg)]) (rest := []) hZ (c_X8_isSaying G (cels_f (((24 : Int32) * si) + v18_0).toNatClampNeg) u2 e2 l H.size) m380 m381 m5 m382 1 hdX8_isSaying ⟨Nat.le_of_ble_eq_true rfl, Nat.le_of_ble_eq_true rfl⟩ ⟨rfl, rfl⟩ hP hD hS [] rfl rfl rfl hl.1 rfl (Nat.le_of_ble_eq_true rfl) dX8_signs_50 ⟨Nat.zero_le _, Nat.zero_le _⟩) hP hD hS hA [] rfl rfl rfl (fun H locs n2 hP hD hS => ?_)
        have hP : va_P G.1 vwCl [(t, .inr (8, [.ref row, .ref kpt, .int images, .ref errs, .ref bitsOf, .ref sizeOf, .ref cels, .ref broken, .ref isFit, .ref breaks, .int mfit, .int v18_1, .ref act, .ref wth, .ref facts, .ref pile, .int laid, .int hre, .int opnd, .int bad, .int usg, .ref trc, .int trcd, .int isP])), (row, .inl (xI G, 400, .inl v18_2)), (errs, .inl (xI G, 7, .inl errs_f)), (bitsOf, .inl (xI G, 4, .inl bitsOf_f)), (sizeOf, .inl (xI G, 4, .inl sizeOf_f)), (cels, .inl (xI G, 96, .inl cels_f)), (broken, .inl (xJ G, 729, .inr (.inl broken_f)))] H := hP
        have hD : va_D A [(t, .inr (8, [.ref row, .ref kpt, .int images, .ref errs, .ref bitsOf, .ref sizeOf, .ref cels, .ref broken, .ref isFit, .ref breaks, .int mfit, .int v18_1, .ref act, .ref wth, .ref facts, .ref pile, .int laid, .int hre, .int opnd, .int bad, .int usg, .ref trc, .int trcd, .int isP])), (row, .inl (xI G, 400, .inl v18_2)), (errs, .inl (xI G, 7, .inl errs_f)), (bitsOf, .inl (xI G, 4, .inl bitsOf_f)), (sizeOf, .inl (xI G, 4, .inl sizeOf_f)), (cels, .inl (xI G, 96, .inl cels_f)), (broken, .inl (xJ G, 729, .inr (.inl broken_f)))] := hD
        refine lv_if_eq (tgt := 101) hx hb dX8_signs_53 (by decide) (fun c53 => ?_) (fun c53 => ?_)
        · have hF := itP c53 hF
          refine lv_iload_n hx hb dX8_signs_101 rfl (lv_at hl 3 rfl) ?_
          obtain rfl := Option.some.inj hF
          rw [← hQ]
          exact W.iret (v := v18_0) hx hb hr (fun t ht hW => ⟨⟨_, (), rfl, ⟨rfl, rfl⟩, xLf hP ht⟩, hS.F ht⟩) hS.2.2 dX8_signs_102
        · have hF := itN c53 hF
          refine lv_aload_n hx hb dX8_signs_56 rfl (lv_at hl 0 rfl) ?_
          refine va_get (ci := 8) (v := .ref cels) (C := RX8) (T := TX8) (N := 24) hx hb hts (fun w h => tcons w (xin8 w h)) hown hK hP 0 rfl rfl 6 (by decide) (hts _ (tcons _ m142)) (fun _ h9 => h9) rfl dX8_signs_57 ?_
          refine lv_bipush (v := 24) hx hb dX8_signs_60 (by decide) ?_
          refine lv_iload_n hx hb dX8_signs_62 rfl (lv_at hl 1 rfl) ?_
          refine lv_imul hx hb dX8_signs_63 ?_
          refine lv_iload_n hx hb dX8_signs_64 rfl (lv_at hl 3 rfl) ?_
          refine lv_iadd hx hb dX8_signs_65 ?_
          obtain ⟨g66, hF⟩ := gdS hF
          refine va_iald hx hb hK hP 5 0 rfl rfl g66 dX8_signs_66 ?_
          refine lv_istore (lv' := [(4, .int (cels_f (((24 : Int32) * si) + v18_0).toNatClampNeg)), (0, .ref t), (1, .int si), (2, .int u1), (3, .int v18_0)]) hx hb dX8_signs_67 hl (by decide) rfl (fun ls hl => ?_)
          refine lv_aload_n hx hb dX8_signs_69 rfl (lv_at hl 1 rfl) ?_
          refine lv_iload hx hb dX8_signs_70 (lv_at hl 0 rfl) ?_
          refine lv_aload_n hx hb dX8_signs_72 rfl (lv_at hl 1 rfl) ?_
          refine lv_aload_n hx hb dX8_signs_73 rfl (lv_at hl 1 rfl) ?_
          refine va_get (ci := 8) (v := .ref row) (C := RX8) (T := TX8) (N := 24) hx hb hts (fun w h => tcons w (xin8 w h)) hown hK hP 0 rfl rfl 0 (by decide) (hts _ (tcons _ m137)) (fun _ h9 => h9) rfl dX8_signs_74 ?_
          refine lv_iconst (v := 5) hx hb dX8_signs_77 (by decide) ?_
          refine va_iald hx hb hK hP 1 0 rfl rfl (by unfold vp_in; decide) dX8_signs_78 ?_
          refine lv_iload hx hb dX8_signs_79 (lv_at hl 0 rfl) ?_
          obtain ⟨u3, e3, hF⟩ := bdS hF
          refine xEndI (xRunV (As := [.int (v18_2 (5 : Int32).toNatClampNeg), .int (cels_f (((24 : Int32) * si) + v18_0).toNatClampNeg)]) (rest := [.int (cels_f (((24 : Int32) * si) + v18_0).toNatClampNeg), .ref t]) hZ (c_X8_doesBreak G t row kpt errs bitsOf sizeOf cels broken isFit breaks act wth facts pile trc images mfit v18_1 laid hre opnd bad usg trcd isP broken_f (v18_2 (5 : Int32).toNatClampNeg) (cels_f (((24 : Int32) * si) + v18_0).toNatClampNeg) u3 e3 l H.size) m321 m322 m323 m5 m324 2 ⟨rfl, hdX8_doesBreak⟩ ⟨Nat.le_of_ble_eq_true rfl, Nat.le_of_ble_eq_true rfl⟩ ⟨rfl, rfl⟩ hP hD hS 0 8 rfl rfl rfl [0, 6] rfl rfl rfl hl.1 rfl (Nat.le_of_ble_eq_true rfl) dX8_signs_81 ⟨Nat.zero_le _, Nat.zero_le _⟩) hP hD hS hA [0, 6] rfl rfl rfl (fun H locs n3 hP hD hS => ?_)
          have hP : va_P G.1 vwCl [(t, .inr (8, [.ref row, .ref kpt, .int images, .ref errs, .ref bitsOf, .ref sizeOf, .ref cels, .ref broken, .ref isFit, .ref breaks, .int mfit, .int v18_1, .ref act, .ref wth, .ref facts, .ref pile, .int laid, .int hre, .int opnd, .int bad, .int usg, .ref trc, .int trcd, .int isP])), (row, .inl (xI G, 400, .inl v18_2)), (errs, .inl (xI G, 7, .inl errs_f)), (bitsOf, .inl (xI G, 4, .inl bitsOf_f)), (sizeOf, .inl (xI G, 4, .inl sizeOf_f)), (cels, .inl (xI G, 96, .inl cels_f)), (broken, .inl (xJ G, 729, .inr (.inl broken_f)))] H := hP
          have hD : va_D A [(t, .inr (8, [.ref row, .ref kpt, .int images, .ref errs, .ref bitsOf, .ref sizeOf, .ref cels, .ref broken, .ref isFit, .ref breaks, .int mfit, .int v18_1, .ref act, .ref wth, .ref facts, .ref pile, .int laid, .int hre, .int opnd, .int bad, .int usg, .ref trc, .int trcd, .int isP])), (row, .inl (xI G, 400, .inl v18_2)), (errs, .inl (xI G, 7, .inl errs_f)), (bitsOf, .inl (xI G, 4, .inl bitsOf_f)), (sizeOf, .inl (xI G, 4, .inl sizeOf_f)), (cels, .inl (xI G, 96, .inl cels_f)), (broken, .inl (xJ G, 729, .inr (.inl broken_f)))] := hD
          refine lv_if_eq (tgt := 91) hx hb dX8_signs_84 (by decide) (fun c84 => ?_) (fun c84 => ?_)
          · have hF := itP c84 hF
            refine lv_iconst (v := 0) hx hb dX8_signs_91 (by decide) ?_
            obtain ⟨u4, e4, hF⟩ := bdS hF
            refine xEndV (xRunV (As := [.int (cels_f (((24 : Int32) * si) + v18_0).toNatClampNeg), .int (0 : Int32)]) (rest := []) hZ (c_X8_comes G t row kpt errs bitsOf sizeOf cels broken isFit breaks act wth facts pile trc images mfit v18_1 laid hre opnd bad usg trcd isP v18_2 (cels_f (((24 : Int32) * si) + v18_0).toNatClampNeg) (0 : Int32) u4 e4 l H.size) m439 m440 m441 m5 m442 2 ⟨rfl, hdX8_comes⟩ ⟨Nat.le_of_ble_eq_true rfl, Nat.le_of_ble_eq_true rfl⟩ ⟨rfl, rfl⟩ hP hD hS 0 8 rfl rfl rfl [0, 1] rfl rfl rfl hl.1 rfl (Nat.le_of_ble_eq_true rfl) dX8_signs_92 ⟨Nat.zero_le _, Nat.zero_le _⟩) hP hD hS hA [0, 1] rfl rfl rfl (fun H locs hP hD hS => ?_)
            have hP : va_P G.1 vwCl [(t, .inr (8, [.ref row, .ref kpt, .int images, .ref errs, .ref bitsOf, .ref sizeOf, .ref cels, .ref broken, .ref isFit, .ref breaks, .int mfit, .int u4.1, .ref act, .ref wth, .ref facts, .ref pile, .int laid, .int hre, .int opnd, .int bad, .int usg, .ref trc, .int trcd, .int isP])), (row, .inl (xI G, 400, .inl u4.2)), (errs, .inl (xI G, 7, .inl errs_f)), (bitsOf, .inl (xI G, 4, .inl bitsOf_f)), (sizeOf, .inl (xI G, 4, .inl sizeOf_f)), (cels, .inl (xI G, 96, .inl cels_f)), (broken, .inl (xJ G, 729, .inr (.inl broken_f)))] H := hP
            have hD : va_D A [(t, .inr (8, [.ref row, .ref kpt, .int images, .ref errs, .ref bitsOf, .ref sizeOf, .ref cels, .ref broken, .ref isFit, .ref breaks, .int mfit, .int u4.1, .ref act, .ref wth, .ref facts, .ref pile, .int laid, .int hre, .int opnd, .int bad, .int usg, .ref trc, .int trcd, .int isP])), (row, .inl (xI G, 400, .inl u4.2)), (errs, .inl (xI G, 7, .inl errs_f)), (bitsOf, .inl (xI G, 4, .inl bitsOf_f)), (sizeOf, .inl (xI G, 4, .inl sizeOf_f)), (cels, .inl (xI G, 96, .inl cels_f)), (broken, .inl (xJ G, 729, .inr (.inl broken_f)))] := hD
            refine lv_iinc (v := (v18_0 + (1 : Int32))) (lv' := [(3, .int (v18_0 + (1 : Int32))), (4, .int (cels_f (((24 : Int32) * si) + v18_0).toNatClampNeg)), (0, .ref t), (1, .int si), (2, .int u1)]) hx hb dX8_signs_95 hl (k := 4) rfl (xInc_1 _) (by decide) rfl (fun ls hl => ?_)
            refine lv_goto (tgt := 18) hx hb dX8_signs_98 (by decide) ?_
            exact ih18 (v18_0 + (1 : Int32)) u4.1 u4.2 H locs ls ⟨hP, hD, hS, lv_sub hl [2, 3, 4, 0] rfl⟩ hF
          · have hF := itN c84 hF
            refine lv_iconst (v := 1) hx hb dX8_signs_87 (by decide) ?_
            refine lv_goto (tgt := 92) hx hb dX8_signs_88 (by decide) ?_
            obtain ⟨u4, e4, hF⟩ := bdS hF
            refine xEndV (xRunV (As := [.int (cels_f (((24 : Int32) * si) + v18_0).toNatClampNeg), .int (1 : Int32)]) (rest := []) hZ (c_X8_comes G t row kpt errs bitsOf sizeOf cels broken isFit breaks act wth facts pile trc images mfit v18_1 laid hre opnd bad usg trcd isP v18_2 (cels_f (((24 : Int32) * si) + v18_0).toNatClampNeg) (1 : Int32) u4 e4 l H.size) m439 m440 m441 m5 m442 2 ⟨rfl, hdX8_comes⟩ ⟨Nat.le_of_ble_eq_true rfl, Nat.le_of_ble_eq_true rfl⟩ ⟨rfl, rfl⟩ hP hD hS 0 8 rfl rfl rfl [0, 1] rfl rfl rfl hl.1 rfl (Nat.le_of_ble_eq_true rfl) dX8_signs_92 ⟨Nat.zero_le _, Nat.zero_le _⟩) hP hD hS hA [0, 1] rfl rfl rfl (fun H locs hP hD hS => ?_)
            have hP : va_P G.1 vwCl [(t, .inr (8, [.ref row, .ref kpt, .int images, .ref errs, .ref bitsOf, .ref sizeOf, .ref cels, .ref broken, .ref isFit, .ref breaks, .int mfit, .int u4.1, .ref act, .ref wth, .ref facts, .ref pile, .int laid, .int hre, .int opnd, .int bad, .int usg, .ref trc, .int trcd, .int isP])), (row, .inl (xI G, 400, .inl u4.2)), (errs, .inl (xI G, 7, .inl errs_f)), (bitsOf, .inl (xI G, 4, .inl bitsOf_f)), (sizeOf, .inl (xI G, 4, .inl sizeOf_f)), (cels, .inl (xI G, 96, .inl cels_f)), (broken, .inl (xJ G, 729, .inr (.inl broken_f)))] H := hP
            have hD : va_D A [(t, .inr (8, [.ref row, .ref kpt, .int images, .ref errs, .ref bitsOf, .ref sizeOf, .ref cels, .ref broken, .ref isFit, .ref breaks, .int mfit, .int u4.1, .ref act, .ref wth, .ref facts, .ref pile, .int laid, .int hre, .int opnd, .int bad, .int usg, .ref trc, .int trcd, .int isP])), (row, .inl (xI G, 400, .inl u4.2)), (errs, .inl (xI G, 7, .inl errs_f)), (bitsOf, .inl (xI G, 4, .inl bitsOf_f)), (sizeOf, .inl (xI G, 4, .inl sizeOf_f)), (cels, .inl (xI G, 96, .inl cels_f)), (broken, .inl (xJ G, 729, .inr (.inl broken_f)))] := hD
            refine lv_iinc (v := (v18_0 + (1 : Int32))) (lv' := [(3, .int (v18_0 + (1 : Int32))), (4, .int (cels_f (((24 : Int32) * si) + v18_0).toNatClampNeg)), (0, .ref t), (1, .int si), (2, .int u1)]) hx hb dX8_signs_95 hl (k := 4) rfl (xInc_1 _) (by decide) rfl (fun ls hl => ?_)
            refine lv_goto (tgt := 18) hx hb dX8_signs_98 (by decide) ?_
            exact ih18 (v18_0 + (1 : Int32)) u4.1 u4.2 H locs ls ⟨hP, hD, hS, lv_sub hl [2, 3, 4, 0] rfl⟩ hF
  · have hF := itN c7 hF
    refine lv_aload_n hx hb dX8_signs_10 rfl (lv_at hl 1 rfl) ?_
    refine lv_iload_n hx hb dX8_signs_11 rfl (lv_at hl 0 rfl) ?_
    obtain ⟨u2, e2, hF⟩ := bdS hF
    refine xEndI (xRunV (As := [.int u1]) (rest := []) hZ (c_X8_error G t row kpt errs bitsOf sizeOf cels broken isFit breaks act wth facts pile trc images mfit known laid hre opnd bad usg trcd isP errs_f u1 u2 e2 l H.size) m193 m194 m195 m5 m196 1 ⟨rfl, hdX8_error⟩ ⟨Nat.le_of_ble_eq_true rfl, Nat.le_of_ble_eq_true rfl⟩ ⟨rfl, rfl⟩ hP hD hS 0 8 rfl rfl rfl [0, 2] rfl rfl rfl hl.1 rfl (Nat.le_of_ble_eq_true rfl) dX8_signs_12 ⟨Nat.zero_le _, Nat.zero_le _⟩) hP hD hS hA [0, 2] rfl rfl rfl (fun H locs n2 hP hD hS => ?_)
    have hP : va_P G.1 vwCl [(t, .inr (8, [.ref row, .ref kpt, .int images, .ref errs, .ref bitsOf, .ref sizeOf, .ref cels, .ref broken, .ref isFit, .ref breaks, .int mfit, .int known, .ref act, .ref wth, .ref facts, .ref pile, .int laid, .int hre, .int opnd, .int bad, .int usg, .ref trc, .int trcd, .int isP])), (row, .inl (xI G, 400, .inl row_f)), (errs, .inl (xI G, 7, .inl u2.2)), (bitsOf, .inl (xI G, 4, .inl bitsOf_f)), (sizeOf, .inl (xI G, 4, .inl sizeOf_f)), (cels, .inl (xI G, 96, .inl cels_f)), (broken, .inl (xJ G, 729, .inr (.inl broken_f)))] H := hP
    have hD : va_D A [(t, .inr (8, [.ref row, .ref kpt, .int images, .ref errs, .ref bitsOf, .ref sizeOf, .ref cels, .ref broken, .ref isFit, .ref breaks, .int mfit, .int known, .ref act, .ref wth, .ref facts, .ref pile, .int laid, .int hre, .int opnd, .int bad, .int usg, .ref trc, .int trcd, .int isP])), (row, .inl (xI G, 400, .inl row_f)), (errs, .inl (xI G, 7, .inl u2.2)), (bitsOf, .inl (xI G, 4, .inl bitsOf_f)), (sizeOf, .inl (xI G, 4, .inl sizeOf_f)), (cels, .inl (xI G, 96, .inl cels_f)), (broken, .inl (xJ G, 729, .inr (.inl broken_f)))] := hD
    obtain rfl := Option.some.inj hF
    rw [← hQ]
    exact W.iret (v := u2.1) hx hb hr (fun t ht hW => ⟨⟨_, (), rfl, ⟨rfl, rfl⟩, xLf hP ht⟩, hS.F ht⟩) hS.2.2 dX8_signs_15
def B_X8_judge_18 (row_f : Nat → Int32) (errs_f : Nat → Int32) (sizeOf_f : Nat → Int32) (cels_f : Nat → Int32) (broken_f : Nat → Int64) (si : Int32) (k18 : (Int32 × Int32 × Int32 × (Nat → Int32) × (Nat → Int32)) → Option (Int32 × Int32 × Int32 × (Nat → Int32) × (Nat → Int32) × (Nat → Int32))) (v18 : (Int32 × Int32 × Int32 × (Nat → Int32) × (Nat → Int32))) : Option (Int32 × Int32 × Int32 × (Nat → Int32) × (Nat → Int32) × (Nat → Int32)) := if (si < 0 ∨ 4 ≤ si.toNatClampNeg) then none else (if (sizeOf_f si.toNatClampNeg) ≤ v18.1 then (some (v18.1, v18.2.1, v18.2.2.1, errs_f, v18.2.2.2.1, v18.2.2.2.2)) else (if ((((24 : Int32) * si) + v18.1) < 0 ∨ 96 ≤ (((24 : Int32) * si) + v18.1).toNatClampNeg) then none else (bd (F_X8_breaksBy v18.2.1 v18.2.2.1 row_f broken_f v18.2.2.2.1 v18.2.2.2.2 v18.1) (fun (u2 : (Int32 × Int32 × Int32 × (Nat → Int32) × (Nat → Int32))) => if (cels_f (((24 : Int32) * si) + v18.1).toNatClampNeg) = u2.1 then (k18 ((v18.1 + (1 : Int32)), u2.2.1, u2.2.2.1, u2.2.2.2.1, u2.2.2.2.2)) else (some (v18.1, u2.2.1, u2.2.2.1, errs_f, u2.2.2.2.1, u2.2.2.2.2))))))
def F_X8_judge (mfit : Int32) (known : Int32) (row_f : Nat → Int32) (errs_f : Nat → Int32) (bitsOf_f : Nat → Int32) (sizeOf_f : Nat → Int32) (cels_f : Nat → Int32) (broken_f : Nat → Int64) (isFit_f : Nat → Int32) (breaks_f : Nat → Int32) (si : Int32) : Option (Int32 × Int32 × Int32 × (Nat → Int32) × (Nat → Int32) × (Nat → Int32)) := bd (F_X8_notThere bitsOf_f si) (fun (u1 : Int32) => if u1 = 0 then (lp (B_X8_judge_18 row_f errs_f sizeOf_f cels_f broken_f si) fuelC ((0 : Int32), mfit, known, isFit_f, breaks_f)) else (bd (F_X8_error errs_f u1) (fun (u2 : (Int32 × (Nat → Int32))) => some (u2.1, mfit, known, u2.2, isFit_f, breaks_f))))
theorem hdX8_judge : yX8_judge.cls ≠ "java/lang/invoke/MethodHandle" ∧ yX8_judge.cls ≠ "java/lang/invoke/VarHandle" ∧ (parseMethodDescriptor yX8_judge.desc).map (fun d => d.parameters.length) = some 1 := by decide +kernel
set_option maxHeartbeats 4000000 in
set_option maxRecDepth 100000 in
theorem c_X8_judge (G : xG) (t : Nat) (row : Nat) (kpt : Nat) (errs : Nat) (bitsOf : Nat) (sizeOf : Nat) (cels : Nat) (broken : Nat) (isFit : Nat) (breaks : Nat) (act : Nat) (wth : Nat) (facts : Nat) (pile : Nat) (trc : Nat) (images : Int32) (mfit : Int32) (known : Int32) (laid : Int32) (hre : Int32) (opnd : Int32) (bad : Int32) (usg : Int32) (trcd : Int32) (isP : Int32) (row_f : Nat → Int32) (errs_f : Nat → Int32) (bitsOf_f : Nat → Int32) (sizeOf_f : Nat → Int32) (cels_f : Nat → Int32) (broken_f : Nat → Int64) (isFit_f : Nat → Int32) (breaks_f : Nat → Int32) (si : Int32)  (u : (Int32 × Int32 × Int32 × (Nat → Int32) × (Nat → Int32) × (Nat → Int32))) (hF : F_X8_judge mfit known row_f errs_f bitsOf_f sizeOf_f cels_f broken_f isFit_f breaks_f si = some u) : Ki G .int yX8_judge (Cond.code yX8_judge cX8_judge 4 (some .int) :: TBL) { frames := 4, cells := 0, slots := 0, locals := 88 } [.ref t, .int si] [(t, .inr (8, [.ref row, .ref kpt, .int images, .ref errs, .ref bitsOf, .ref sizeOf, .ref cels, .ref broken, .ref isFit, .ref breaks, .int mfit, .int known, .ref act, .ref wth, .ref facts, .ref pile, .int laid, .int hre, .int opnd, .int bad, .int usg, .ref trc, .int trcd, .int isP])), (row, .inl (xI G, 400, .inl row_f)), (errs, .inl (xI G, 7, .inl errs_f)), (bitsOf, .inl (xI G, 4, .inl bitsOf_f)), (sizeOf, .inl (xI G, 4, .inl sizeOf_f)), (cels, .inl (xI G, 96, .inl cels_f)), (broken, .inl (xJ G, 729, .inr (.inl broken_f))), (isFit, .inl (xZ G, 729, .inl isFit_f)), (breaks, .inl (xI G, 64, .inl breaks_f))] [(t, .inr (8, [.ref row, .ref kpt, .int images, .ref errs, .ref bitsOf, .ref sizeOf, .ref cels, .ref broken, .ref isFit, .ref breaks, .int u.2.1, .int u.2.2.1, .ref act, .ref wth, .ref facts, .ref pile, .int laid, .int hre, .int opnd, .int bad, .int usg, .ref trc, .int trcd, .int isP])), (row, .inl (xI G, 400, .inl row_f)), (errs, .inl (xI G, 7, .inl u.2.2.2.1)), (bitsOf, .inl (xI G, 4, .inl bitsOf_f)), (sizeOf, .inl (xI G, 4, .inl sizeOf_f)), (cels, .inl (xI G, 96, .inl cels_f)), (broken, .inl (xJ G, 729, .inr (.inl broken_f))), (isFit, .inl (xZ G, 729, .inl u.2.2.2.2.1)), (breaks, .inl (xI G, 64, .inl u.2.2.2.2.2))] u.1 := by
  intro l sz
  refine Met.ofW (cc := cX8_judge) (maxL := 4) (ret := (some .int)) (by decide) rfl ?_
  intro p e s m args below meth c s₁ B hml hv
  obtain ⟨rfl, hsz, hP, hD0, hm⟩ := hv
  have hx := B.exec
  have hb := B.bytes
  have hr := B.returns
  have hts := atoms_spec (ws := Cond.code yX8_judge cX8_judge 4 (some .int) :: TBL) B.pre
  have hown : s.vm.findClass RX8 = some m.cls := findClass_of_methodNamed B.named
  have hlocks := B.notSynchronized
  subst hsz
  have hD := hD0.self (sz := s.heap.size)
  generalize hAe : va_A [(t, .inr (8, [.ref row, .ref kpt, .int images, .ref errs, .ref bitsOf, .ref sizeOf, .ref cels, .ref broken, .ref isFit, .ref breaks, .int mfit, .int known, .ref act, .ref wth, .ref facts, .ref pile, .int laid, .int hre, .int opnd, .int bad, .int usg, .ref trc, .int trcd, .int isP])), (row, .inl (xI G, 400, .inl row_f)), (errs, .inl (xI G, 7, .inl errs_f)), (bitsOf, .inl (xI G, 4, .inl bitsOf_f)), (sizeOf, .inl (xI G, 4, .inl sizeOf_f)), (cels, .inl (xI G, 96, .inl cels_f)), (broken, .inl (xJ G, 729, .inr (.inl broken_f))), (isFit, .inl (xZ G, 729, .inl isFit_f)), (breaks, .inl (xI G, 64, .inl breaks_f))] s.heap.size = A at hD hm ⊢
  have hA : ∀ q : Nat, s.heap.size ≤ q → A q := fun q h => by rw [← hAe]; exact Or.inr h
  have hK := hm.1
  have hZ : xAnd p m c cX8_judge 4 s _ (Cond.code yX8_judge cX8_judge 4 (some .int) :: TBL) RX8 G A := ⟨⟨hx, hb, hml, hown, hts⟩, tcons, hA, hm⟩
  have hP : va_P G.1 vwCl [(t, .inr (8, [.ref row, .ref kpt, .int images, .ref errs, .ref bitsOf, .ref sizeOf, .ref cels, .ref broken, .ref isFit, .ref breaks, .int mfit, .int known, .ref act, .ref wth, .ref facts, .ref pile, .int laid, .int hre, .int opnd, .int bad, .int usg, .ref trc, .int trcd, .int isP])), (row, .inl (xI G, 400, .inl row_f)), (errs, .inl (xI G, 7, .inl errs_f)), (bitsOf, .inl (xI G, 4, .inl bitsOf_f)), (sizeOf, .inl (xI G, 4, .inl sizeOf_f)), (cels, .inl (xI G, 96, .inl cels_f)), (broken, .inl (xJ G, 729, .inr (.inl broken_f))), (isFit, .inl (xZ G, 729, .inl isFit_f)), (breaks, .inl (xI G, 64, .inl breaks_f))] s.heap := hP
  have hl := lv_entry ([.ref t, .int si]) (n := 4) (Nat.le_of_ble_eq_true rfl)
  rw [lg_entry_eq]
  generalize (lg_sl ([.ref t, .int si]) ++ List.replicate (4 - (lg_sl ([.ref t, .int si])).length) Slot.unset).toArray = ls at hl ⊢
  have hl : lv_has ls 4 [(0, .ref t), (1, .int si)] := hl
  generalize hQ : MQ below _ _ s _ _ _ = Q
  refine xGo (A := A) hP (fun H locs hP hS => ?_)
  unfold F_X8_judge at hF
  refine lv_aload_n hx hb dX8_judge_0 rfl (lv_at hl 0 rfl) ?_
  refine lv_iload_n hx hb dX8_judge_1 rfl (lv_at hl 1 rfl) ?_
  obtain ⟨u1, e1, hF⟩ := bdS hF
  refine xEndI (xRunV (As := [.int si]) (rest := []) hZ (c_X8_notThere G t row kpt errs bitsOf sizeOf cels broken isFit breaks act wth facts pile trc images mfit known laid hre opnd bad usg trcd isP bitsOf_f si u1 e1 l H.size) m1024 m1025 m1026 m5 m1027 1 ⟨rfl, hdX8_notThere⟩ ⟨Nat.le_of_ble_eq_true rfl, Nat.le_of_ble_eq_true rfl⟩ ⟨rfl, rfl⟩ hP hD hS 0 8 rfl rfl rfl [0, 3] rfl rfl rfl hl.1 rfl (Nat.le_of_ble_eq_true rfl) dX8_judge_2 ⟨Nat.zero_le _, Nat.zero_le _⟩) hP hD hS hA [0, 3] rfl rfl rfl (fun H locs n1 hP hD hS => ?_)
  have hP : va_P G.1 vwCl [(t, .inr (8, [.ref row, .ref kpt, .int images, .ref errs, .ref bitsOf, .ref sizeOf, .ref cels, .ref broken, .ref isFit, .ref breaks, .int mfit, .int known, .ref act, .ref wth, .ref facts, .ref pile, .int laid, .int hre, .int opnd, .int bad, .int usg, .ref trc, .int trcd, .int isP])), (row, .inl (xI G, 400, .inl row_f)), (errs, .inl (xI G, 7, .inl errs_f)), (bitsOf, .inl (xI G, 4, .inl bitsOf_f)), (sizeOf, .inl (xI G, 4, .inl sizeOf_f)), (cels, .inl (xI G, 96, .inl cels_f)), (broken, .inl (xJ G, 729, .inr (.inl broken_f))), (isFit, .inl (xZ G, 729, .inl isFit_f)), (breaks, .inl (xI G, 64, .inl breaks_f))] H := hP
  have hD : va_D A [(t, .inr (8, [.ref row, .ref kpt, .int images, .ref errs, .ref bitsOf, .ref sizeOf, .ref cels, .ref broken, .ref isFit, .ref breaks, .int mfit, .int known, .ref act, .ref wth, .ref facts, .ref pile, .int laid, .int hre, .int opnd, .int bad, .int usg, .ref trc, .int trcd, .int isP])), (row, .inl (xI G, 400, .inl row_f)), (errs, .inl (xI G, 7, .inl errs_f)), (bitsOf, .inl (xI G, 4, .inl bitsOf_f)), (sizeOf, .inl (xI G, 4, .inl sizeOf_f)), (cels, .inl (xI G, 96, .inl cels_f)), (broken, .inl (xJ G, 729, .inr (.inl broken_f))), (isFit, .inl (xZ G, 729, .inl isFit_f)), (breaks, .inl (xI G, 64, .inl breaks_f))] := hD
  refine lv_istore_n (lv' := [(2, .int u1), (0, .ref t), (1, .int si)]) hx hb dX8_judge_5 rfl hl (by decide) rfl (fun ls hl => ?_)
  refine lv_iload_n hx hb dX8_judge_6 rfl (lv_at hl 0 rfl) ?_
  refine lv_if_eq (tgt := 16) hx hb dX8_judge_7 (by decide) (fun c7 => ?_) (fun c7 => ?_)
  · have hF := itP c7 hF
    refine lv_iconst (v := 0) hx hb dX8_judge_16 (by decide) ?_
    refine lv_istore_n (lv' := [(3, .int (0 : Int32)), (2, .int u1), (0, .ref t), (1, .int si)]) hx hb dX8_judge_17 rfl hl (by decide) rfl (fun ls hl => ?_)
    refine xLoop5 (body := (B_X8_judge_18 row_f errs_f sizeOf_f cels_f broken_f si)) (fun (v18_0 : Int32) (v18_1 : Int32) (v18_2 : Int32) (v18_3 : Nat → Int32) (v18_4 : Nat → Int32) H locs ls => va_P G.1 vwCl [(t, .inr (8, [.ref row, .ref kpt, .int images, .ref errs, .ref bitsOf, .ref sizeOf, .ref cels, .ref broken, .ref isFit, .ref breaks, .int v18_1, .int v18_2, .ref act, .ref wth, .ref facts, .ref pile, .int laid, .int hre, .int opnd, .int bad, .int usg, .ref trc, .int trcd, .int isP])), (row, .inl (xI G, 400, .inl row_f)), (errs, .inl (xI G, 7, .inl errs_f)), (bitsOf, .inl (xI G, 4, .inl bitsOf_f)), (sizeOf, .inl (xI G, 4, .inl sizeOf_f)), (cels, .inl (xI G, 96, .inl cels_f)), (broken, .inl (xJ G, 729, .inr (.inl broken_f))), (isFit, .inl (xZ G, 729, .inl v18_3)), (breaks, .inl (xI G, 64, .inl v18_4))] H ∧ va_D A [(t, .inr (8, [.ref row, .ref kpt, .int images, .ref errs, .ref bitsOf, .ref sizeOf, .ref cels, .ref broken, .ref isFit, .ref breaks, .int v18_1, .int v18_2, .ref act, .ref wth, .ref facts, .ref pile, .int laid, .int hre, .int opnd, .int bad, .int usg, .ref trc, .int trcd, .int isP])), (row, .inl (xI G, 400, .inl row_f)), (errs, .inl (xI G, 7, .inl errs_f)), (bitsOf, .inl (xI G, 4, .inl bitsOf_f)), (sizeOf, .inl (xI G, 4, .inl sizeOf_f)), (cels, .inl (xI G, 96, .inl cels_f)), (broken, .inl (xJ G, 729, .inr (.inl broken_f))), (isFit, .inl (xZ G, 729, .inl v18_3)), (breaks, .inl (xI G, 64, .inl v18_4))] ∧ va_S A s.heap H locs ∧ lv_has ls 4 [(0, .ref t), (1, .int si), (2, .int u1), (3, .int v18_0)]) (fun N18 v18_0 v18_1 v18_2 v18_3 v18_4 ih18 H locs ls hI hF => ?_) fuelC (0 : Int32) mfit known isFit_f breaks_f H locs ls ⟨hP, hD, hS, lv_sub hl [2, 3, 1, 0] rfl⟩ hF
    obtain ⟨hP, hD, hS, hl⟩ := hI
    unfold B_X8_judge_18 at hF
    refine lv_iload_n hx hb dX8_judge_18 rfl (lv_at hl 3 rfl) ?_
    refine lv_aload_n hx hb dX8_judge_19 rfl (lv_at hl 0 rfl) ?_
    refine va_get (ci := 8) (v := .ref sizeOf) (C := RX8) (T := TX8) (N := 24) hx hb hts (fun w h => tcons w (xin8 w h)) hown hK hP 0 rfl rfl 5 (by decide) (hts _ (tcons _ m141)) (fun _ h9 => h9) rfl dX8_judge_20 ?_
    refine lv_iload_n hx hb dX8_judge_23 rfl (lv_at hl 1 rfl) ?_
    obtain ⟨g24, hF⟩ := gdS hF
    refine va_iald hx hb hK hP 4 0 rfl rfl g24 dX8_judge_24 ?_
    refine lv_icmp_ge (tgt := 53) hx hb dX8_judge_25 (by decide) (fun c25 => ?_) (fun c25 => ?_)
    · have hF := itP c25 hF
      refine lv_iload_n hx hb dX8_judge_53 rfl (lv_at hl 3 rfl) ?_
      obtain rfl := Option.some.inj hF
      rw [← hQ]
      exact W.iret (v := v18_0) hx hb hr (fun t ht hW => ⟨⟨_, (), rfl, ⟨rfl, rfl⟩, xLf hP ht⟩, hS.F ht⟩) hS.2.2 dX8_judge_54
    · have hF := itN c25 hF
      refine lv_aload_n hx hb dX8_judge_28 rfl (lv_at hl 0 rfl) ?_
      refine va_get (ci := 8) (v := .ref cels) (C := RX8) (T := TX8) (N := 24) hx hb hts (fun w h => tcons w (xin8 w h)) hown hK hP 0 rfl rfl 6 (by decide) (hts _ (tcons _ m142)) (fun _ h9 => h9) rfl dX8_judge_29 ?_
      refine lv_bipush (v := 24) hx hb dX8_judge_32 (by decide) ?_
      refine lv_iload_n hx hb dX8_judge_34 rfl (lv_at hl 1 rfl) ?_
      refine lv_imul hx hb dX8_judge_35 ?_
      refine lv_iload_n hx hb dX8_judge_36 rfl (lv_at hl 3 rfl) ?_
      refine lv_iadd hx hb dX8_judge_37 ?_
      obtain ⟨g38, hF⟩ := gdS hF
      refine va_iald hx hb hK hP 5 0 rfl rfl g38 dX8_judge_38 ?_
      refine lv_aload_n hx hb dX8_judge_39 rfl (lv_at hl 0 rfl) ?_
      refine lv_iload_n hx hb dX8_judge_40 rfl (lv_at hl 3 rfl) ?_
      obtain ⟨u2, e2, hF⟩ := bdS hF
      refine xEndI (xRunV (As := [.int v18_0]) (rest := [.int (cels_f (((24 : Int32) * si) + v18_0).toNatClampNeg)]) hZ (c_X8_breaksBy G t row kpt errs bitsOf sizeOf cels broken isFit breaks act wth facts pile trc images v18_1 v18_2 laid hre opnd bad usg trcd isP row_f broken_f v18_3 v18_4 v18_0 u2 e2 l H.size) m308 m309 m310 m5 m311 1 ⟨rfl, hdX8_breaksBy⟩ ⟨Nat.le_of_ble_eq_true rfl, Nat.le_of_ble_eq_true rfl⟩ ⟨rfl, rfl⟩ hP hD hS 0 8 rfl rfl rfl [0, 1, 6, 7, 8] rfl rfl rfl hl.1 rfl (Nat.le_of_ble_eq_true rfl) dX8_judge_41 ⟨Nat.zero_le _, Nat.zero_le _⟩) hP hD hS hA [0, 1, 6, 7, 8] rfl rfl rfl (fun H locs n2 hP hD hS => ?_)
      have hP : va_P G.1 vwCl [(t, .inr (8, [.ref row, .ref kpt, .int images, .ref errs, .ref bitsOf, .ref sizeOf, .ref cels, .ref broken, .ref isFit, .ref breaks, .int u2.2.1, .int u2.2.2.1, .ref act, .ref wth, .ref facts, .ref pile, .int laid, .int hre, .int opnd, .int bad, .int usg, .ref trc, .int trcd, .int isP])), (row, .inl (xI G, 400, .inl row_f)), (errs, .inl (xI G, 7, .inl errs_f)), (bitsOf, .inl (xI G, 4, .inl bitsOf_f)), (sizeOf, .inl (xI G, 4, .inl sizeOf_f)), (cels, .inl (xI G, 96, .inl cels_f)), (broken, .inl (xJ G, 729, .inr (.inl broken_f))), (isFit, .inl (xZ G, 729, .inl u2.2.2.2.1)), (breaks, .inl (xI G, 64, .inl u2.2.2.2.2))] H := hP
      have hD : va_D A [(t, .inr (8, [.ref row, .ref kpt, .int images, .ref errs, .ref bitsOf, .ref sizeOf, .ref cels, .ref broken, .ref isFit, .ref breaks, .int u2.2.1, .int u2.2.2.1, .ref act, .ref wth, .ref facts, .ref pile, .int laid, .int hre, .int opnd, .int bad, .int usg, .ref trc, .int trcd, .int isP])), (row, .inl (xI G, 400, .inl row_f)), (errs, .inl (xI G, 7, .inl errs_f)), (bitsOf, .inl (xI G, 4, .inl bitsOf_f)), (sizeOf, .inl (xI G, 4, .inl sizeOf_f)), (cels, .inl (xI G, 96, .inl cels_f)), (broken, .inl (xJ G, 729, .inr (.inl broken_f))), (isFit, .inl (xZ G, 729, .inl u2.2.2.2.1)), (breaks, .inl (xI G, 64, .inl u2.2.2.2.2))] := hD
      refine lv_icmp_ne (tgt := 53) hx hb dX8_judge_44 (by decide) (fun c44 => ?_) (fun c44 => ?_)
      · have hF := itN c44 hF
        refine lv_iload_n hx hb dX8_judge_53 rfl (lv_at hl 3 rfl) ?_
        obtain rfl := Option.some.inj hF
        rw [← hQ]
        exact W.iret (v := v18_0) hx hb hr (fun t ht hW => ⟨⟨_, (), rfl, ⟨rfl, rfl⟩, xLf hP ht⟩, hS.F ht⟩) hS.2.2 dX8_judge_54
      · have hF := itP c44 hF
        refine lv_iinc (v := (v18_0 + (1 : Int32))) (lv' := [(3, .int (v18_0 + (1 : Int32))), (0, .ref t), (1, .int si), (2, .int u1)]) hx hb dX8_judge_47 hl (k := 3) rfl (xInc_1 _) (by decide) rfl (fun ls hl => ?_)
        refine lv_goto (tgt := 18) hx hb dX8_judge_50 (by decide) ?_
        exact ih18 (v18_0 + (1 : Int32)) u2.2.1 u2.2.2.1 u2.2.2.2.1 u2.2.2.2.2 H locs ls ⟨hP, hD, hS, lv_sub hl [1, 2, 3, 0] rfl⟩ hF
  · have hF := itN c7 hF
    refine lv_aload_n hx hb dX8_judge_10 rfl (lv_at hl 1 rfl) ?_
    refine lv_iload_n hx hb dX8_judge_11 rfl (lv_at hl 0 rfl) ?_
    obtain ⟨u2, e2, hF⟩ := bdS hF
    refine xEndI (xRunV (As := [.int u1]) (rest := []) hZ (c_X8_error G t row kpt errs bitsOf sizeOf cels broken isFit breaks act wth facts pile trc images mfit known laid hre opnd bad usg trcd isP errs_f u1 u2 e2 l H.size) m193 m194 m195 m5 m196 1 ⟨rfl, hdX8_error⟩ ⟨Nat.le_of_ble_eq_true rfl, Nat.le_of_ble_eq_true rfl⟩ ⟨rfl, rfl⟩ hP hD hS 0 8 rfl rfl rfl [0, 2] rfl rfl rfl hl.1 rfl (Nat.le_of_ble_eq_true rfl) dX8_judge_12 ⟨Nat.zero_le _, Nat.zero_le _⟩) hP hD hS hA [0, 2] rfl rfl rfl (fun H locs n2 hP hD hS => ?_)
    have hP : va_P G.1 vwCl [(t, .inr (8, [.ref row, .ref kpt, .int images, .ref errs, .ref bitsOf, .ref sizeOf, .ref cels, .ref broken, .ref isFit, .ref breaks, .int mfit, .int known, .ref act, .ref wth, .ref facts, .ref pile, .int laid, .int hre, .int opnd, .int bad, .int usg, .ref trc, .int trcd, .int isP])), (row, .inl (xI G, 400, .inl row_f)), (errs, .inl (xI G, 7, .inl u2.2)), (bitsOf, .inl (xI G, 4, .inl bitsOf_f)), (sizeOf, .inl (xI G, 4, .inl sizeOf_f)), (cels, .inl (xI G, 96, .inl cels_f)), (broken, .inl (xJ G, 729, .inr (.inl broken_f))), (isFit, .inl (xZ G, 729, .inl isFit_f)), (breaks, .inl (xI G, 64, .inl breaks_f))] H := hP
    have hD : va_D A [(t, .inr (8, [.ref row, .ref kpt, .int images, .ref errs, .ref bitsOf, .ref sizeOf, .ref cels, .ref broken, .ref isFit, .ref breaks, .int mfit, .int known, .ref act, .ref wth, .ref facts, .ref pile, .int laid, .int hre, .int opnd, .int bad, .int usg, .ref trc, .int trcd, .int isP])), (row, .inl (xI G, 400, .inl row_f)), (errs, .inl (xI G, 7, .inl u2.2)), (bitsOf, .inl (xI G, 4, .inl bitsOf_f)), (sizeOf, .inl (xI G, 4, .inl sizeOf_f)), (cels, .inl (xI G, 96, .inl cels_f)), (broken, .inl (xJ G, 729, .inr (.inl broken_f))), (isFit, .inl (xZ G, 729, .inl isFit_f)), (breaks, .inl (xI G, 64, .inl breaks_f))] := hD
    obtain rfl := Option.some.inj hF
    rw [← hQ]
    exact W.iret (v := u2.1) hx hb hr (fun t ht hW => ⟨⟨_, (), rfl, ⟨rfl, rfl⟩, xLf hP ht⟩, hS.F ht⟩) hS.2.2 dX8_judge_15
