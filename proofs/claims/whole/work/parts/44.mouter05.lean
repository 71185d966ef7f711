def F_X8_voice (trcd : Int32) (isP : Int32) (row_f : Nat → Int32) (errs_f : Nat → Int32) (trc_f : Nat → Int32) (br : Int32) (vo : Int32) (xx : Int32) : Option (Int32 × Int32 × Int32 × (Nat → Int32) × (Nat → Int32)) := bd (F_X8_isBrother row_f br) (fun (u1 : Int32) => if u1 = 0 then (bd (F_X8_error errs_f (-1000000001 : Int32)) (fun (u2 : (Int32 × (Nat → Int32))) => some (u2.1, trcd, isP, u2.2, trc_f))) else (bd (F_X8_in vo (0 : Int32) (3 : Int32)) (fun (u2 : Int32) => if u2 = 0 then (bd (F_X8_error errs_f (-1000000001 : Int32)) (fun (u3 : (Int32 × (Nat → Int32))) => some (u3.1, trcd, isP, u3.2, trc_f))) else (if vo = 0 then (bd (F_X8_coughs (0 : Int32) row_f trc_f br xx) (fun (u3 : (Int32 × Int32 × (Nat → Int32))) => some (u3.1, u3.2.1, (0 : Int32), errs_f, u3.2.2))) else (if vo = (1 : Int32) then (bd (F_X8_talks (0 : Int32) row_f trc_f br xx) (fun (u3 : (Int32 × Int32 × (Nat → Int32))) => some (u3.1, u3.2.1, (0 : Int32), errs_f, u3.2.2))) else (if vo = (2 : Int32) then (bd (F_X8_hushes (0 : Int32) row_f trc_f br xx) (fun (u3 : (Int32 × Int32 × (Nat → Int32))) => some (u3.1, u3.2.1, (0 : Int32), errs_f, u3.2.2))) else (bd (F_X8_partsBy (0 : Int32) row_f trc_f br xx) (fun (u3 : (Int32 × Int32 × Int32 × (Nat → Int32))) => if u3.2.2.1 = 0 then (some (u3.1, u3.2.1, u3.2.2.1, errs_f, u3.2.2.2)) else (bd (F_X8_error errs_f (-1000000006 : Int32)) (fun (u4 : (Int32 × (Nat → Int32))) => some (u4.1, u3.2.1, u3.2.2.1, u4.2, u3.2.2.2)))))))))))
theorem hdX8_voice : yX8_voice.cls ≠ "java/lang/invoke/MethodHandle" ∧ yX8_voice.cls ≠ "java/lang/invoke/VarHandle" ∧ (parseMethodDescriptor yX8_voice.desc).map (fun d => d.parameters.length) = some 3 := by decide +kernel
set_option maxHeartbeats 4000000 in
set_option maxRecDepth 100000 in
theorem c_X8_voice (G : xG) (t : Nat) (row : Nat) (kpt : Nat) (errs : Nat) (bitsOf : Nat) (sizeOf : Nat) (cels : Nat) (broken : Nat) (isFit : Nat) (breaks : Nat) (act : Nat) (wth : Nat) (facts : Nat) (pile : Nat) (trc : Nat) (images : Int32) (mfit : Int32) (known : Int32) (laid : Int32) (hre : Int32) (opnd : Int32) (bad : Int32) (usg : Int32) (trcd : Int32) (isP : Int32) (row_f : Nat → Int32) (errs_f : Nat → Int32) (trc_f : Nat → Int32) (br : Int32) (vo : Int32) (xx : Int32)  (u : (Int32 × Int32 × Int32 × (Nat → Int32) × (Nat → Int32))) (hF : F_X8_voice trcd isP row_f errs_f trc_f br vo xx = some u) : Ki G .int yX8_voice (Cond.code yX8_voice cX8_voice 5 (some .int) :: TBL) { frames := 9, cells := 0, slots := 0, locals := 197 } [.ref t, .int br, .int vo, .int xx] [(t, .inr (8, [.ref row, .ref kpt, .int images, .ref errs, .ref bitsOf, .ref sizeOf, .ref cels, .ref broken, .ref isFit, .ref breaks, .int mfit, .int known, .ref act, .ref wth, .ref facts, .ref pile, .int laid, .int hre, .int opnd, .int bad, .int usg, .ref trc, .int trcd, .int isP])), (row, .inl (xI G, 400, .inl row_f)), (errs, .inl (xI G, 7, .inl errs_f)), (trc, .inl (xI G, 30, .inl trc_f))] [(t, .inr (8, [.ref row, .ref kpt, .int images, .ref errs, .ref bitsOf, .ref sizeOf, .ref cels, .ref broken, .ref isFit, .ref breaks, .int mfit, .int known, .ref act, .ref wth, .ref facts, .ref pile, .int laid, .int hre, .int opnd, .int bad, .int usg, .ref trc, .int u.2.1, .int u.2.2.1])), (row, .inl (xI G, 400, .inl row_f)), (errs, .inl (xI G, 7, .inl u.2.2.2.1)), (trc, .inl (xI G, 30, .inl u.2.2.2.2))] u.1 := by
  intro l sz
  refine Met.ofW (cc := cX8_voice) (maxL := 5) (ret := (some .int)) (by decide) rfl ?_
  intro p e s m args below meth c s₁ B hml hv
  obtain ⟨rfl, hsz, hP, hD0, hm⟩ := hv
  have hx := B.exec
  have hb := B.bytes
  have hr := B.returns
  have hts := atoms_spec (ws := Cond.code yX8_voice cX8_voice 5 (some .int) :: TBL) B.pre
  have hown : s.vm.findClass RX8 = some m.cls := findClass_of_methodNamed B.named
  have hlocks := B.notSynchronized
  subst hsz
  have hD := hD0.self (sz := s.heap.size)
  generalize hAe : va_A [(t, .inr (8, [.ref row, .ref kpt, .int images, .ref errs, .ref bitsOf, .ref sizeOf, .ref cels, .ref broken, .ref isFit, .ref breaks, .int mfit, .int known, .ref act, .ref wth, .ref facts, .ref pile, .int laid, .int hre, .int opnd, .int bad, .int usg, .ref trc, .int trcd, .int isP])), (row, .inl (xI G, 400, .inl row_f)), (errs, .inl (xI G, 7, .inl errs_f)), (trc, .inl (xI G, 30, .inl trc_f))] s.heap.size = A at hD hm ⊢
  have hA : ∀ q : Nat, s.heap.size ≤ q → A q := fun q h => by rw [← hAe]; exact Or.inr h
  have hK := hm.1
  have hZ : xAnd p m c cX8_voice 5 s _ (Cond.code yX8_voice cX8_voice 5 (some .int) :: TBL) RX8 G A := ⟨⟨hx, hb, hml, hown, hts⟩, tcons, hA, hm⟩
  have hP : va_P G.1 vwCl [(t, .inr (8, [.ref row, .ref kpt, .int images, .ref errs, .ref bitsOf, .ref sizeOf, .ref cels, .ref broken, .ref isFit, .ref breaks, .int mfit, .int known, .ref act, .ref wth, .ref facts, .ref pile, .int laid, .int hre, .int opnd, .int bad, .int usg, .ref trc, .int trcd, .int isP])), (row, .inl (xI G, 400, .inl row_f)), (errs, .inl (xI G, 7, .inl errs_f)), (trc, .inl (xI G, 30, .inl trc_f))] s.heap := hP
  have hl := lv_entry ([.ref t, .int br, .int vo, .int xx]) (n := 5) (Nat.le_of_ble_eq_true rfl)
  rw [lg_entry_eq]
  generalize (lg_sl ([.ref t, .int br, .int vo, .int xx]) ++ List.replicate (5 - (lg_sl ([.ref t, .int br, .int vo, .int xx])).length) Slot.unset).toArray = ls at hl ⊢
  have hl : lv_has ls 5 [(0, .ref t), (1, .int br), (2, .int vo), (3, .int xx)] := hl
  generalize hQ : MQ below _ _ s _ _ _ = Q
  refine xGo (A := A) hP (fun H locs hP hS => ?_)
  unfold F_X8_voice at hF
  refine lv_aload_n hx hb dX8_voice_0 rfl (lv_at hl 0 rfl) ?_
  refine lv_iload_n hx hb dX8_voice_1 rfl (lv_at hl 1 rfl) ?_
  obtain ⟨u1, e1, hF⟩ := bdS hF
  refine xEndI (xRunV (As := [.int br]) (rest := []) hZ (c_X8_isBrother G t row kpt errs bitsOf sizeOf cels broken isFit breaks act wth facts pile trc images mfit known laid hre opnd bad usg trcd isP row_f br u1 e1 l H.size) m287 m288 m289 m5 m290 1 ⟨rfl, hdX8_isBrother⟩ ⟨Nat.le_of_ble_eq_true rfl, Nat.le_of_ble_eq_true rfl⟩ ⟨rfl, rfl⟩ hP hD hS 0 8 rfl rfl rfl [0, 1] rfl rfl rfl hl.1 rfl (Nat.le_of_ble_eq_true rfl) dX8_voice_2 ⟨Nat.zero_le _, Nat.zero_le _⟩) hP hD hS hA [0, 1] rfl rfl rfl (fun H locs n1 hP hD hS => ?_)
  have hP : va_P G.1 vwCl [(t, .inr (8, [.ref row, .ref kpt, .int images, .ref errs, .ref bitsOf, .ref sizeOf, .ref cels, .ref broken, .ref isFit, .ref breaks, .int mfit, .int known, .ref act, .ref wth, .ref facts, .ref pile, .int laid, .int hre, .int opnd, .int bad, .int usg, .ref trc, .int trcd, .int isP])), (row, .inl (xI G, 400, .inl row_f)), (errs, .inl (xI G, 7, .inl errs_f)), (trc, .inl (xI G, 30, .inl trc_f))] H := hP
  have hD : va_D A [(t, .inr (8, [.ref row, .ref kpt, .int images, .ref errs, .ref bitsOf, .ref sizeOf, .ref cels, .ref broken, .ref isFit, .ref breaks, .int mfit, .int known, .ref act, .ref wth, .ref facts, .ref pile, .int laid, .int hre, .int opnd, .int bad, .int usg, .ref trc, .int trcd, .int isP])), (row, .inl (xI G, 400, .inl row_f)), (errs, .inl (xI G, 7, .inl errs_f)), (trc, .inl (xI G, 30, .inl trc_f))] := hD
  refine lv_if_eq (tgt := 17) hx hb dX8_voice_5 (by decide) (fun c5 => ?_) (fun c5 => ?_)
  · have hF := itP c5 hF
    refine lv_aload_n hx hb dX8_voice_17 rfl (lv_at hl 0 rfl) ?_
    refine lv_ldc (v := -1000000001) hx hb hown (hts _ (tcons _ m185)) dX8_voice_18 ?_
    obtain ⟨u2, e2, hF⟩ := bdS hF
    refine xEndI (xRunV (As := [.int (-1000000001 : Int32)]) (rest := []) hZ (c_X8_error G t row kpt errs bitsOf sizeOf cels broken isFit breaks act wth facts pile trc images mfit known laid hre opnd bad usg trcd isP errs_f (-1000000001 : Int32) u2 e2 l H.size) m193 m194 m195 m5 m196 1 ⟨rfl, hdX8_error⟩ ⟨Nat.le_of_ble_eq_true rfl, Nat.le_of_ble_eq_true rfl⟩ ⟨rfl, rfl⟩ hP hD hS 0 8 rfl rfl rfl [0, 2] rfl rfl rfl hl.1 rfl (Nat.le_of_ble_eq_true rfl) dX8_voice_20 ⟨Nat.zero_le _, Nat.zero_le _⟩) hP hD hS hA [0, 2] rfl rfl rfl (fun H locs n2 hP hD hS => ?_)
    have hP : va_P G.1 vwCl [(t, .inr (8, [.ref row, .ref kpt, .int images, .ref errs, .ref bitsOf, .ref sizeOf, .ref cels, .ref broken, .ref isFit, .ref breaks, .int mfit, .int known, .ref act, .ref wth, .ref facts, .ref pile, .int laid, .int hre, .int opnd, .int bad, .int usg, .ref trc, .int trcd, .int isP])), (row, .inl (xI G, 400, .inl row_f)), (errs, .inl (xI G, 7, .inl u2.2)), (trc, .inl (xI G, 30, .inl trc_f))] H := hP
    have hD : va_D A [(t, .inr (8, [.ref row, .ref kpt, .int images, .ref errs, .ref bitsOf, .ref sizeOf, .ref cels, .ref broken, .ref isFit, .ref breaks, .int mfit, .int known, .ref act, .ref wth, .ref facts, .ref pile, .int laid, .int hre, .int opnd, .int bad, .int usg, .ref trc, .int trcd, .int isP])), (row, .inl (xI G, 400, .inl row_f)), (errs, .inl (xI G, 7, .inl u2.2)), (trc, .inl (xI G, 30, .inl trc_f))] := hD
    obtain rfl := Option.some.inj hF
    rw [← hQ]
    exact W.iret (v := u2.1) hx hb hr (fun t ht hW => ⟨⟨_, (), rfl, ⟨rfl, rfl⟩, xLf hP ht⟩, hS.F ht⟩) hS.2.2 dX8_voice_23
  · have hF := itN c5 hF
    refine lv_iload_n hx hb dX8_voice_8 rfl (lv_at hl 2 rfl) ?_
    refine lv_iconst (v := 0) hx hb dX8_voice_9 (by decide) ?_
    refine lv_iconst (v := 3) hx hb dX8_voice_10 (by decide) ?_
    obtain ⟨u2, e2, hF⟩ := bdS hF
    refine xEndI (xRunS (As := [.int vo, .int (0 : Int32), .int (3 : Int32)]) (rest := []) hZ (c_X8_in G vo (0 : Int32) (3 : Int32) u2 e2 l H.size) m190 m191 m5 m192 3 hdX8_in ⟨Nat.le_of_ble_eq_true rfl, Nat.le_of_ble_eq_true rfl⟩ ⟨rfl, rfl⟩ hP hD hS [] rfl rfl rfl hl.1 rfl (Nat.le_of_ble_eq_true rfl) dX8_voice_11 ⟨Nat.zero_le _, Nat.zero_le _⟩) hP hD hS hA [] rfl rfl rfl (fun H locs n2 hP hD hS => ?_)
    have hP : va_P G.1 vwCl [(t, .inr (8, [.ref row, .ref kpt, .int images, .ref errs, .ref bitsOf, .ref sizeOf, .ref cels, .ref broken, .ref isFit, .ref breaks, .int mfit, .int known, .ref act, .ref wth, .ref facts, .ref pile, .int laid, .int hre, .int opnd, .int bad, .int usg, .ref trc, .int trcd, .int isP])), (row, .inl (xI G, 400, .inl row_f)), (errs, .inl (xI G, 7, .inl errs_f)), (trc, .inl (xI G, 30, .inl trc_f))] H := hP
    have hD : va_D A [(t, .inr (8, [.ref row, .ref kpt, .int images, .ref errs, .ref bitsOf, .ref sizeOf, .ref cels, .ref broken, .ref isFit, .ref breaks, .int mfit, .int known, .ref act, .ref wth, .ref facts, .ref pile, .int laid, .int hre, .int opnd, .int bad, .int usg, .ref trc, .int trcd, .int isP])), (row, .inl (xI G, 400, .inl row_f)), (errs, .inl (xI G, 7, .inl errs_f)), (trc, .inl (xI G, 30, .inl trc_f))] := hD
    refine lv_if_ne (tgt := 24) hx hb dX8_voice_14 (by decide) (fun c14 => ?_) (fun c14 => ?_)
    · have hF := itN c14 hF
      refine lv_aload_n hx hb dX8_voice_24 rfl (lv_at hl 0 rfl) ?_
      refine lv_iconst (v := 0) hx hb dX8_voice_25 (by decide) ?_
      refine va_put (ci := 8) (v := .int (0 : Int32)) (ty := .int) (C := RX8) (T := TX8) (N := 24) hx hb hts (fun w h => tcons w (xin8 w h)) tyX8 tyX8_ok nmX8 hown hK hP hD hS 0 rfl rfl 22 (by decide) (hts _ (tcons _ m936)) (fun _ h9 => h9) rfl (by decide +kernel) rfl rfl (Nat.le_of_ble_eq_true rfl) dX8_voice_26 (fun H locs hP hD hS => ?_)
      have hP : va_P G.1 vwCl [(t, .inr (8, [.ref row, .ref kpt, .int images, .ref errs, .ref bitsOf, .ref sizeOf, .ref cels, .ref broken, .ref isFit, .ref breaks, .int mfit, .int known, .ref act, .ref wth, .ref facts, .ref pile, .int laid, .int hre, .int opnd, .int bad, .int usg, .ref trc, .int (0 : Int32), .int isP])), (row, .inl (xI G, 400, .inl row_f)), (errs, .inl (xI G, 7, .inl errs_f)), (trc, .inl (xI G, 30, .inl trc_f))] H := hP
      have hD : va_D A [(t, .inr (8, [.ref row, .ref kpt, .int images, .ref errs, .ref bitsOf, .ref sizeOf, .ref cels, .ref broken, .ref isFit, .ref breaks, .int mfit, .int known, .ref act, .ref wth, .ref facts, .ref pile, .int laid, .int hre, .int opnd, .int bad, .int usg, .ref trc, .int (0 : Int32), .int isP])), (row, .inl (xI G, 400, .inl row_f)), (errs, .inl (xI G, 7, .inl errs_f)), (trc, .inl (xI G, 30, .inl trc_f))] := hD
      refine lv_aload_n hx hb dX8_voice_29 rfl (lv_at hl 0 rfl) ?_
      refine lv_iconst (v := 0) hx hb dX8_voice_30 (by decide) ?_
      refine va_put (ci := 8) (v := .int (0 : Int32)) (ty := .boolean) (C := RX8) (T := TX8) (N := 24) hx hb hts (fun w h => tcons w (xin8 w h)) tyX8 tyX8_ok nmX8 hown hK hP hD hS 0 rfl rfl 23 (by decide) (hts _ (tcons _ m937)) (fun _ h9 => h9) rfl (by decide +kernel) (by decide) (by decide) (Nat.le_of_ble_eq_true rfl) dX8_voice_31 (fun H locs hP hD hS => ?_)
      have hP : va_P G.1 vwCl [(t, .inr (8, [.ref row, .ref kpt, .int images, .ref errs, .ref bitsOf, .ref sizeOf, .ref cels, .ref broken, .ref isFit, .ref breaks, .int mfit, .int known, .ref act, .ref wth, .ref facts, .ref pile, .int laid, .int hre, .int opnd, .int bad, .int usg, .ref trc, .int (0 : Int32), .int (0 : Int32)])), (row, .inl (xI G, 400, .inl row_f)), (errs, .inl (xI G, 7, .inl errs_f)), (trc, .inl (xI G, 30, .inl trc_f))] H := hP
      have hD : va_D A [(t, .inr (8, [.ref row, .ref kpt, .int images, .ref errs, .ref bitsOf, .ref sizeOf, .ref cels, .ref broken, .ref isFit, .ref breaks, .int mfit, .int known, .ref act, .ref wth, .ref facts, .ref pile, .int laid, .int hre, .int opnd, .int bad, .int usg, .ref trc, .int (0 : Int32), .int (0 : Int32)])), (row, .inl (xI G, 400, .inl row_f)), (errs, .inl (xI G, 7, .inl errs_f)), (trc, .inl (xI G, 30, .inl trc_f))] := hD
      refine lv_iload_n hx hb dX8_voice_34 rfl (lv_at hl 2 rfl) ?_
      refine lv_if_ne (tgt := 47) hx hb dX8_voice_35 (by decide) (fun c35 => ?_) (fun c35 => ?_)
      · have hF := itN c35 hF
        refine lv_iload_n hx hb dX8_voice_47 rfl (lv_at hl 2 rfl) ?_
        refine lv_iconst (v := 1) hx hb dX8_voice_48 (by decide) ?_
        refine lv_icmp_ne (tgt := 61) hx hb dX8_voice_49 (by decide) (fun c49 => ?_) (fun c49 => ?_)
        · have hF := itN c49 hF
          refine lv_iload_n hx hb dX8_voice_61 rfl (lv_at hl 2 rfl) ?_
          refine lv_iconst (v := 2) hx hb dX8_voice_62 (by decide) ?_
          refine lv_icmp_ne (tgt := 75) hx hb dX8_voice_63 (by decide) (fun c63 => ?_) (fun c63 => ?_)
          · have hF := itN c63 hF
            refine lv_aload_n hx hb dX8_voice_75 rfl (lv_at hl 0 rfl) ?_
            refine lv_iload_n hx hb dX8_voice_76 rfl (lv_at hl 1 rfl) ?_
            refine lv_iload_n hx hb dX8_voice_77 rfl (lv_at hl 3 rfl) ?_
            obtain ⟨u3, e3, hF⟩ := bdS hF
            refine xEndI (xRunV (As := [.int br, .int xx]) (rest := []) hZ (c_X8_partsBy G t row kpt errs bitsOf sizeOf cels broken isFit breaks act wth facts pile trc images mfit known laid hre opnd bad usg (0 : Int32) (0 : Int32) row_f trc_f br xx u3 e3 l H.size) m975 m976 m977 m5 m978 2 ⟨rfl, hdX8_partsBy⟩ ⟨Nat.le_of_ble_eq_true rfl, Nat.le_of_ble_eq_true rfl⟩ ⟨rfl, rfl⟩ hP hD hS 0 8 rfl rfl rfl [0, 1, 3] rfl rfl rfl hl.1 rfl (Nat.le_of_ble_eq_true rfl) dX8_voice_78 ⟨Nat.zero_le _, Nat.zero_le _⟩) hP hD hS hA [0, 1, 3] rfl rfl rfl (fun H locs n3 hP hD hS => ?_)
            have hP : va_P G.1 vwCl [(t, .inr (8, [.ref row, .ref kpt, .int images, .ref errs, .ref bitsOf, .ref sizeOf, .ref cels, .ref broken, .ref isFit, .ref breaks, .int mfit, .int known, .ref act, .ref wth, .ref facts, .ref pile, .int laid, .int hre, .int opnd, .int bad, .int usg, .ref trc, .int u3.2.1, .int u3.2.2.1])), (row, .inl (xI G, 400, .inl row_f)), (errs, .inl (xI G, 7, .inl errs_f)), (trc, .inl (xI G, 30, .inl u3.2.2.2))] H := hP
            have hD : va_D A [(t, .inr (8, [.ref row, .ref kpt, .int images, .ref errs, .ref bitsOf, .ref sizeOf, .ref cels, .ref broken, .ref isFit, .ref breaks, .int mfit, .int known, .ref act, .ref wth, .ref facts, .ref pile, .int laid, .int hre, .int opnd, .int bad, .int usg, .ref trc, .int u3.2.1, .int u3.2.2.1])), (row, .inl (xI G, 400, .inl row_f)), (errs, .inl (xI G, 7, .inl errs_f)), (trc, .inl (xI G, 30, .inl u3.2.2.2))] := hD
            refine lv_istore (lv' := [(4, .int u3.1), (0, .ref t), (1, .int br), (2, .int vo), (3, .int xx)]) hx hb dX8_voice_81 hl (by decide) rfl (fun ls hl => ?_)
            refine lv_aload_n hx hb dX8_voice_83 rfl (lv_at hl 1 rfl) ?_
            refine va_get (ci := 8) (v := .int u3.2.2.1) (C := RX8) (T := TX8) (N := 24) hx hb hts (fun w h => tcons w (xin8 w h)) hown hK hP 0 rfl rfl 23 (by decide) (hts _ (tcons _ m937)) (fun _ h9 => h9) rfl dX8_voice_84 ?_
            refine lv_if_eq (tgt := 100) hx hb dX8_voice_87 (by decide) (fun c87 => ?_) (fun c87 => ?_)
            · have hF := itP c87 hF
              refine lv_iload hx hb dX8_voice_100 (lv_at hl 0 rfl) ?_
              obtain rfl := Option.some.inj hF
              rw [← hQ]
              exact W.iret (v := u3.1) hx hb hr (fun t ht hW => ⟨⟨_, (), rfl, ⟨rfl, rfl⟩, xLf hP ht⟩, hS.F ht⟩) hS.2.2 dX8_voice_102
            · have hF := itN c87 hF
              refine lv_aload_n hx hb dX8_voice_90 rfl (lv_at hl 1 rfl) ?_
              refine lv_ldcw (v := -1000000006) hx hb hown (hts _ (tcons _ m938)) dX8_voice_91 ?_
              obtain ⟨u4, e4, hF⟩ := bdS hF
              refine xEndI (xRunV (As := [.int (-1000000006 : Int32)]) (rest := []) hZ (c_X8_error G t row kpt errs bitsOf sizeOf cels broken isFit breaks act wth facts pile trc images mfit known laid hre opnd bad usg u3.2.1 u3.2.2.1 errs_f (-1000000006 : Int32) u4 e4 l H.size) m193 m194 m195 m5 m196 1 ⟨rfl, hdX8_error⟩ ⟨Nat.le_of_ble_eq_true rfl, Nat.le_of_ble_eq_true rfl⟩ ⟨rfl, rfl⟩ hP hD hS 0 8 rfl rfl rfl [0, 2] rfl rfl rfl hl.1 rfl (Nat.le_of_ble_eq_true rfl) dX8_voice_94 ⟨Nat.zero_le _, Nat.zero_le _⟩) hP hD hS hA [0, 2] rfl rfl rfl (fun H locs n4 hP hD hS => ?_)
              have hP : va_P G.1 vwCl [(t, .inr (8, [.ref row, .ref kpt, .int images, .ref errs, .ref bitsOf, .ref sizeOf, .ref cels, .ref broken, .ref isFit, .ref breaks, .int mfit, .int known, .ref act, .ref wth, .ref facts, .ref pile, .int laid, .int hre, .int opnd, .int bad, .int usg, .ref trc, .int u3.2.1, .int u3.2.2.1])), (row, .inl (xI G, 400, .inl row_f)), (errs, .inl (xI G, 7, .inl u4.2)), (trc, .inl (xI G, 30, .inl u3.2.2.2))] H := hP
              have hD : va_D A [(t, .inr (8, [.ref row, .ref kpt, .int images, .ref errs, .ref bitsOf, .ref sizeOf, .ref cels, .ref broken, .ref isFit, .ref breaks, .int mfit, .int known, .ref act, .ref wth, .ref facts, .ref pile, .int laid, .int hre, .int opnd, .int bad, .int usg, .ref trc, .int u3.2.1, .int u3.2.2.1])), (row, .inl (xI G, 400, .inl row_f)), (errs, .inl (xI G, 7, .inl u4.2)), (trc, .inl (xI G, 30, .inl u3.2.2.2))] := hD
              refine lv_goto (tgt := 102) hx hb dX8_voice_97 (by decide) ?_
              obtain rfl := Option.some.inj hF
              rw [← hQ]
              exact W.iret (v := u4.1) hx hb hr (fun t ht hW => ⟨⟨_, (), rfl, ⟨rfl, rfl⟩, xLf hP ht⟩, hS.F ht⟩) hS.2.2 dX8_voice_102
          · have hF := itP c63 hF
            refine lv_aload_n hx hb dX8_voice_66 rfl (lv_at hl 0 rfl) ?_
            refine lv_iload_n hx hb dX8_voice_67 rfl (lv_at hl 1 rfl) ?_
            refine lv_iload_n hx hb dX8_voice_68 rfl (lv_at hl 3 rfl) ?_
            obtain ⟨u3, e3, hF⟩ := bdS hF
            refine xEndI (xRunV (As := [.int br, .int xx]) (rest := []) hZ (c_X8_hushes G t row kpt errs bitsOf sizeOf cels broken isFit breaks act wth facts pile trc images mfit known laid hre opnd bad usg (0 : Int32) (0 : Int32) row_f trc_f br xx u3 e3 l H.size) m967 m968 m969 m5 m970 2 ⟨rfl, hdX8_hushes⟩ ⟨Nat.le_of_ble_eq_true rfl, Nat.le_of_ble_eq_true rfl⟩ ⟨rfl, rfl⟩ hP hD hS 0 8 rfl rfl rfl [0, 1, 3] rfl rfl rfl hl.1 rfl (Nat.le_of_ble_eq_true rfl) dX8_voice_69 ⟨Nat.zero_le _, Nat.zero_le _⟩) hP hD hS hA [0, 1, 3] rfl rfl rfl (fun H locs n3 hP hD hS => ?_)
            have hP : va_P G.1 vwCl [(t, .inr (8, [.ref row, .ref kpt, .int images, .ref errs, .ref bitsOf, .ref sizeOf, .ref cels, .ref broken, .ref isFit, .ref breaks, .int mfit, .int known, .ref act, .ref wth, .ref facts, .ref pile, .int laid, .int hre, .int opnd, .int bad, .int usg, .ref trc, .int u3.2.1, .int (0 : Int32)])), (row, .inl (xI G, 400, .inl row_f)), (errs, .inl (xI G, 7, .inl errs_f)), (trc, .inl (xI G, 30, .inl u3.2.2))] H := hP
            have hD : va_D A [(t, .inr (8, [.ref row, .ref kpt, .int images, .ref errs, .ref bitsOf, .ref sizeOf, .ref cels, .ref broken, .ref isFit, .ref breaks, .int mfit, .int known, .ref act, .ref wth, .ref facts, .ref pile, .int laid, .int hre, .int opnd, .int bad, .int usg, .ref trc, .int u3.2.1, .int (0 : Int32)])), (row, .inl (xI G, 400, .inl row_f)), (errs, .inl (xI G, 7, .inl errs_f)), (trc, .inl (xI G, 30, .inl u3.2.2))] := hD
            refine lv_goto (tgt := 81) hx hb dX8_voice_72 (by decide) ?_
            refine lv_istore (lv' := [(4, .int u3.1), (0, .ref t), (1, .int br), (2, .int vo), (3, .int xx)]) hx hb dX8_voice_81 hl (by decide) rfl (fun ls hl => ?_)
            refine lv_aload_n hx hb dX8_voice_83 rfl (lv_at hl 1 rfl) ?_
            refine va_get (ci := 8) (v := .int (0 : Int32)) (C := RX8) (T := TX8) (N := 24) hx hb hts (fun w h => tcons w (xin8 w h)) hown hK hP 0 rfl rfl 23 (by decide) (hts _ (tcons _ m937)) (fun _ h9 => h9) rfl dX8_voice_84 ?_
            refine lv_if_eq (tgt := 100) hx hb dX8_voice_87 (by decide) (fun c87 => ?_) (fun c87 => absurd (by decide) c87)
            refine lv_iload hx hb dX8_voice_100 (lv_at hl 0 rfl) ?_
            obtain rfl := Option.some.inj hF
            rw [← hQ]
            exact W.iret (v := u3.1) hx hb hr (fun t ht hW => ⟨⟨_, (), rfl, ⟨rfl, rfl⟩, xLf hP ht⟩, hS.F ht⟩) hS.2.2 dX8_voice_102
        · have hF := itP c49 hF
          refine lv_aload_n hx hb dX8_voice_52 rfl (lv_at hl 0 rfl) ?_
          refine lv_iload_n hx hb dX8_voice_53 rfl (lv_at hl 1 rfl) ?_
          refine lv_iload_n hx hb dX8_voice_54 rfl (lv_at hl 3 rfl) ?_
          obtain ⟨u3, e3, hF⟩ := bdS hF
          refine xEndI (xRunV (As := [.int br, .int xx]) (rest := []) hZ (c_X8_talks G t row kpt errs bitsOf sizeOf cels broken isFit breaks act wth facts pile trc images mfit known laid hre opnd bad usg (0 : Int32) (0 : Int32) row_f trc_f br xx u3 e3 l H.size) m955 m956 m957 m5 m958 2 ⟨rfl, hdX8_talks⟩ ⟨Nat.le_of_ble_eq_true rfl, Nat.le_of_ble_eq_true rfl⟩ ⟨rfl, rfl⟩ hP hD hS 0 8 rfl rfl rfl [0, 1, 3] rfl rfl rfl hl.1 rfl (Nat.le_of_ble_eq_true rfl) dX8_voice_55 ⟨Nat.zero_le _, Nat.zero_le _⟩) hP hD hS hA [0, 1, 3] rfl rfl rfl (fun H locs n3 hP hD hS => ?_)
          have hP : va_P G.1 vwCl [(t, .inr (8, [.ref row, .ref kpt, .int images, .ref errs, .ref bitsOf, .ref sizeOf, .ref cels, .ref broken, .ref isFit, .ref breaks, .int mfit, .int known, .ref act, .ref wth, .ref facts, .ref pile, .int laid, .int hre, .int opnd, .int bad, .int usg, .ref trc, .int u3.2.1, .int (0 : Int32)])), (row, .inl (xI G, 400, .inl row_f)), (errs, .inl (xI G, 7, .inl errs_f)), (trc, .inl (xI G, 30, .inl u3.2.2))] H := hP
          have hD : va_D A [(t, .inr (8, [.ref row, .ref kpt, .int images, .ref errs, .ref bitsOf, .ref sizeOf, .ref cels, .ref broken, .ref isFit, .ref breaks, .int mfit, .int known, .ref act, .ref wth, .ref facts, .ref pile, .int laid, .int hre, .int opnd, .int bad, .int usg, .ref trc, .int u3.2.1, .int (0 : Int32)])), (row, .inl (xI G, 400, .inl row_f)), (errs, .inl (xI G, 7, .inl errs_f)), (trc, .inl (xI G, 30, .inl u3.2.2))] := hD
          refine lv_goto (tgt := 81) hx hb dX8_voice_58 (by decide) ?_
          refine lv_istore (lv' := [(4, .int u3.1), (0, .ref t), (1, .int br), (2, .int vo), (3, .int xx)]) hx hb dX8_voice_81 hl (by decide) rfl (fun ls hl => ?_)
          refine lv_aload_n hx hb dX8_voice_83 rfl (lv_at hl 1 rfl) ?_
          refine va_get (ci := 8) (v := .int (0 : Int32)) (C := RX8) (T := TX8) (N := 24) hx hb hts (fun w h => tcons w (xin8 w h)) hown hK hP 0 rfl rfl 23 (by decide) (hts _ (tcons _ m937)) (fun _ h9 => h9) rfl dX8_voice_84 ?_
          refine lv_if_eq (tgt := 100) hx hb dX8_voice_87 (by decide) (fun c87 => ?_) (fun c87 => absurd (by decide) c87)
          refine lv_iload hx hb dX8_voice_100 (lv_at hl 0 rfl) ?_
          obtain rfl := Option.some.inj hF
          rw [← hQ]
          exact W.iret (v := u3.1) hx hb hr (fun t ht hW => ⟨⟨_, (), rfl, ⟨rfl, rfl⟩, xLf hP ht⟩, hS.F ht⟩) hS.2.2 dX8_voice_102
      · have hF := itP c35 hF
        refine lv_aload_n hx hb dX8_voice_38 rfl (lv_at hl 0 rfl) ?_
        refine lv_iload_n hx hb dX8_voice_39 rfl (lv_at hl 1 rfl) ?_
        refine lv_iload_n hx hb dX8_voice_40 rfl (lv_at hl 3 rfl) ?_
        obtain ⟨u3, e3, hF⟩ := bdS hF
        refine xEndI (xRunV (As := [.int br, .int xx]) (rest := []) hZ (c_X8_coughs G t row kpt errs bitsOf sizeOf cels broken isFit breaks act wth facts pile trc images mfit known laid hre opnd bad usg (0 : Int32) (0 : Int32) row_f trc_f br xx u3 e3 l H.size) m939 m940 m941 m5 m942 2 ⟨rfl, hdX8_coughs⟩ ⟨Nat.le_of_ble_eq_true rfl, Nat.le_of_ble_eq_true rfl⟩ ⟨rfl, rfl⟩ hP hD hS 0 8 rfl rfl rfl [0, 1, 3] rfl rfl rfl hl.1 rfl (Nat.le_of_ble_eq_true rfl) dX8_voice_41 ⟨Nat.zero_le _, Nat.zero_le _⟩) hP hD hS hA [0, 1, 3] rfl rfl rfl (fun H locs n3 hP hD hS => ?_)
        have hP : va_P G.1 vwCl [(t, .inr (8, [.ref row, .ref kpt, .int images, .ref errs, .ref bitsOf, .ref sizeOf, .ref cels, .ref broken, .ref isFit, .ref breaks, .int mfit, .int known, .ref act, .ref wth, .ref facts, .ref pile, .int laid, .int hre, .int opnd, .int bad, .int usg, .ref trc, .int u3.2.1, .int (0 : Int32)])), (row, .inl (xI G, 400, .inl row_f)), (errs, .inl (xI G, 7, .inl errs_f)), (trc, .inl (xI G, 30, .inl u3.2.2))] H := hP
        have hD : va_D A [(t, .inr (8, [.ref row, .ref kpt, .int images, .ref errs, .ref bitsOf, .ref sizeOf, .ref cels, .ref broken, .ref isFit, .ref breaks, .int mfit, .int known, .ref act, .ref wth, .ref facts, .ref pile, .int laid, .int hre, .int opnd, .int bad, .int usg, .ref trc, .int u3.2.1, .int (0 : Int32)])), (row, .inl (xI G, 400, .inl row_f)), (errs, .inl (xI G, 7, .inl errs_f)), (trc, .inl (xI G, 30, .inl u3.2.2))] := hD
        refine lv_goto (tgt := 81) hx hb dX8_voice_44 (by decide) ?_
        refine lv_istore (lv' := [(4, .int u3.1), (0, .ref t), (1, .int br), (2, .int vo), (3, .int xx)]) hx hb dX8_voice_81 hl (by decide) rfl (fun ls hl => ?_)
        refine lv_aload_n hx hb dX8_voice_83 rfl (lv_at hl 1 rfl) ?_
        refine va_get (ci := 8) (v := .int (0 : Int32)) (C := RX8) (T := TX8) (N := 24) hx hb hts (fun w h => tcons w (xin8 w h)) hown hK hP 0 rfl rfl 23 (by decide) (hts _ (tcons _ m937)) (fun _ h9 => h9) rfl dX8_voice_84 ?_
        refine lv_if_eq (tgt := 100) hx hb dX8_voice_87 (by decide) (fun c87 => ?_) (fun c87 => absurd (by decide) c87)
        refine lv_iload hx hb dX8_voice_100 (lv_at hl 0 rfl) ?_
        obtain rfl := Option.some.inj hF
        rw [← hQ]
        exact W.iret (v := u3.1) hx hb hr (fun t ht hW => ⟨⟨_, (), rfl, ⟨rfl, rfl⟩, xLf hP ht⟩, hS.F ht⟩) hS.2.2 dX8_voice_102
    · have hF := itP c14 hF
      refine lv_aload_n hx hb dX8_voice_17 rfl (lv_at hl 0 rfl) ?_
      refine lv_ldc (v := -1000000001) hx hb hown (hts _ (tcons _ m185)) dX8_voice_18 ?_
      obtain ⟨u3, e3, hF⟩ := bdS hF
      refine xEndI (xRunV (As := [.int (-1000000001 : Int32)]) (rest := []) hZ (c_X8_error G t row kpt errs bitsOf sizeOf cels broken isFit breaks act wth facts pile trc images mfit known laid hre opnd bad usg trcd isP errs_f (-1000000001 : Int32) u3 e3 l H.size) m193 m194 m195 m5 m196 1 ⟨rfl, hdX8_error⟩ ⟨Nat.le_of_ble_eq_true rfl, Nat.le_of_ble_eq_true rfl⟩ ⟨rfl, rfl⟩ hP hD hS 0 8 rfl rfl rfl [0, 2] rfl rfl rfl hl.1 rfl (Nat.le_of_ble_eq_true rfl) dX8_voice_20 ⟨Nat.zero_le _, Nat.zero_le _⟩) hP hD hS hA [0, 2] rfl rfl rfl (fun H locs n3 hP hD hS => ?_)
      have hP : va_P G.1 vwCl [(t, .inr (8, [.ref row, .ref kpt, .int images, .ref errs, .ref bitsOf, .ref sizeOf, .ref cels, .ref broken, .ref isFit, .ref breaks, .int mfit, .int known, .ref act, .ref wth, .ref facts, .ref pile, .int laid, .int hre, .int opnd, .int bad, .int usg, .ref trc, .int trcd, .int isP])), (row, .inl (xI G, 400, .inl row_f)), (errs, .inl (xI G, 7, .inl u3.2)), (trc, .inl (xI G, 30, .inl trc_f))] H := hP
      have hD : va_D A [(t, .inr (8, [.ref row, .ref kpt, .int images, .ref errs, .ref bitsOf, .ref sizeOf, .ref cels, .ref broken, .ref isFit, .ref breaks, .int mfit, .int known, .ref act, .ref wth, .ref facts, .ref pile, .int laid, .int hre, .int opnd, .int bad, .int usg, .ref trc, .int trcd, .int isP])), (row, .inl (xI G, 400, .inl row_f)), (errs, .inl (xI G, 7, .inl u3.2)), (trc, .inl (xI G, 30, .inl trc_f))] := hD
      obtain rfl := Option.some.inj hF
      rw [← hQ]
      exact W.iret (v := u3.1) hx hb hr (fun t ht hW => ⟨⟨_, (), rfl, ⟨rfl, rfl⟩, xLf hP ht⟩, hS.F ht⟩) hS.2.2 dX8_voice_23
def F_X8_body (trcd : Int32) (errs_f : Nat → Int32) (trc_f : Nat → Int32) (i : Int32) : Option (Int32 × (Nat → Int32)) := bd (F_X8_in i (0 : Int32) (trcd - (1 : Int32))) (fun (u1 : Int32) => if u1 = 0 then (bd (F_X8_error errs_f (-1000000002 : Int32)) (fun (u2 : (Int32 × (Nat → Int32))) => some (u2.1, u2.2))) else (if (i < 0 ∨ 30 ≤ i.toNatClampNeg) then none else (some ((trc_f i.toNatClampNeg), errs_f))))
theorem hdX8_body : yX8_body.cls ≠ "java/lang/invoke/MethodHandle" ∧ yX8_body.cls ≠ "java/lang/invoke/VarHandle" ∧ (parseMethodDescriptor yX8_body.desc).map (fun d => d.parameters.length) = some 1 := by decide +kernel
set_option maxHeartbeats 4000000 in
set_option maxRecDepth 100000 in
theorem c_X8_body (G : xG) (t : Nat) (row : Nat) (kpt : Nat) (errs : Nat) (bitsOf : Nat) (sizeOf : Nat) (cels : Nat) (broken : Nat) (isFit : Nat) (breaks : Nat) (act : Nat) (wth : Nat) (facts : Nat) (pile : Nat) (trc : Nat) (images : Int32) (mfit : Int32) (known : Int32) (laid : Int32) (hre : Int32) (opnd : Int32) (bad : Int32) (usg : Int32) (trcd : Int32) (isP : Int32) (errs_f : Nat → Int32) (trc_f : Nat → Int32) (i : Int32)  (u : (Int32 × (Nat → Int32))) (hF : F_X8_body trcd errs_f trc_f i = some u) : Ki G .int yX8_body (Cond.code yX8_body cX8_body 2 (some .int) :: TBL) { frames := 1, cells := 0, slots := 0, locals := 22 } [.ref t, .int i] [(t, .inr (8, [.ref row, .ref kpt, .int images, .ref errs, .ref bitsOf, .ref sizeOf, .ref cels, .ref broken, .ref isFit, .ref breaks, .int mfit, .int known, .ref act, .ref wth, .ref facts, .ref pile, .int laid, .int hre, .int opnd, .int bad, .int usg, .ref trc, .int trcd, .int isP])), (errs, .inl (xI G, 7, .inl errs_f)), (trc, .inl (xI G, 30, .inl trc_f))] [(t, .inr (8, [.ref row, .ref kpt, .int images, .ref errs, .ref bitsOf, .ref sizeOf, .ref cels, .ref broken, .ref isFit, .ref breaks, .int mfit, .int known, .ref act, .ref wth, .ref facts, .ref pile, .int laid, .int hre, .int opnd, .int bad, .int usg, .ref trc, .int trcd, .int isP])), (errs, .inl (xI G, 7, .inl u.2)), (trc, .inl (xI G, 30, .inl trc_f))] u.1 := by
  intro l sz
  refine Met.ofW (cc := cX8_body) (maxL := 2) (ret := (some .int)) (by decide) rfl ?_
  intro p e s m args below meth c s₁ B hml hv
  obtain ⟨rfl, hsz, hP, hD0, hm⟩ := hv
  have hx := B.exec
  have hb := B.bytes
  have hr := B.returns
  have hts := atoms_spec (ws := Cond.code yX8_body cX8_body 2 (some .int) :: TBL) B.pre
  have hown : s.vm.findClass RX8 = some m.cls := findClass_of_methodNamed B.named
  have hlocks := B.notSynchronized
  subst hsz
  have hD := hD0.self (sz := s.heap.size)
  generalize hAe : va_A [(t, .inr (8, [.ref row, .ref kpt, .int images, .ref errs, .ref bitsOf, .ref sizeOf, .ref cels, .ref broken, .ref isFit, .ref breaks, .int mfit, .int known, .ref act, .ref wth, .ref facts, .ref pile, .int laid, .int hre, .int opnd, .int bad, .int usg, .ref trc, .int trcd, .int isP])), (errs, .inl (xI G, 7, .inl errs_f)), (trc, .inl (xI G, 30, .inl trc_f))] s.heap.size = A at hD hm ⊢
  have hA : ∀ q : Nat, s.heap.size ≤ q → A q := fun q h => by rw [← hAe]; exact Or.inr h
  have hK := hm.1
  have hZ : xAnd p m c cX8_body 2 s _ (Cond.code yX8_body cX8_body 2 (some .int) :: TBL) RX8 G A := ⟨⟨hx, hb, hml, hown, hts⟩, tcons, hA, hm⟩
  have hP : va_P G.1 vwCl [(t, .inr (8, [.ref row, .ref kpt, .int images, .ref errs, .ref bitsOf, .ref sizeOf, .ref cels, .ref broken, .ref isFit, .ref breaks, .int mfit, .int known, .ref act, .ref wth, .ref facts, .ref pile, .int laid, .int hre, .int opnd, .int bad, .int usg, .ref trc, .int trcd, .int isP])), (errs, .inl (xI G, 7, .inl errs_f)), (trc, .inl (xI G, 30, .inl trc_f))] s.heap := hP
  have hl := lv_entry ([.ref t, .int i]) (n := 2) (Nat.le_of_ble_eq_true rfl)
  rw [lg_entry_eq]
  generalize (lg_sl ([.ref t, .int i]) ++ List.replicate (2 - (lg_sl ([.ref t, .int i])).length) Slot.unset).toArray = ls at hl ⊢
  have hl : lv_has ls 2 [(0, .ref t), (1, .int i)] := hl
  generalize hQ : MQ below _ _ s _ _ _ = Q
  refine xGo (A := A) hP (fun H locs hP hS => ?_)
  unfold F_X8_body at hF
  refine lv_iload_n hx hb dX8_body_0 rfl (lv_at hl 1 rfl) ?_
  refine lv_iconst (v := 0) hx hb dX8_body_1 (by decide) ?_
  refine lv_aload_n hx hb dX8_body_2 rfl (lv_at hl 0 rfl) ?_
  refine va_get (ci := 8) (v := .int trcd) (C := RX8) (T := TX8) (N := 24) hx hb hts (fun w h => tcons w (xin8 w h)) hown hK hP 0 rfl rfl 22 (by decide) (hts _ (tcons _ m936)) (fun _ h9 => h9) rfl dX8_body_3 ?_
  refine lv_iconst (v := 1) hx hb dX8_body_6 (by decide) ?_
  refine lv_isub hx hb dX8_body_7 ?_
  obtain ⟨u1, e1, hF⟩ := bdS hF
  refine xEndI (xRunS (As := [.int i, .int (0 : Int32), .int (trcd - (1 : Int32))]) (rest := []) hZ (c_X8_in G i (0 : Int32) (trcd - (1 : Int32)) u1 e1 l H.size) m190 m191 m5 m192 3 hdX8_in ⟨Nat.le_of_ble_eq_true rfl, Nat.le_of_ble_eq_true rfl⟩ ⟨rfl, rfl⟩ hP hD hS [] rfl rfl rfl hl.1 rfl (Nat.le_of_ble_eq_true rfl) dX8_body_8 ⟨Nat.zero_le _, Nat.zero_le _⟩) hP hD hS hA [] rfl rfl rfl (fun H locs n1 hP hD hS => ?_)
  have hP : va_P G.1 vwCl [(t, .inr (8, [.ref row, .ref kpt, .int images, .ref errs, .ref bitsOf, .ref sizeOf, .ref cels, .ref broken, .ref isFit, .ref breaks, .int mfit, .int known, .ref act, .ref wth, .ref facts, .ref pile, .int laid, .int hre, .int opnd, .int bad, .int usg, .ref trc, .int trcd, .int isP])), (errs, .inl (xI G, 7, .inl errs_f)), (trc, .inl (xI G, 30, .inl trc_f))] H := hP
  have hD : va_D A [(t, .inr (8, [.ref row, .ref kpt, .int images, .ref errs, .ref bitsOf, .ref sizeOf, .ref cels, .ref broken, .ref isFit, .ref breaks, .int mfit, .int known, .ref act, .ref wth, .ref facts, .ref pile, .int laid, .int hre, .int opnd, .int bad, .int usg, .ref trc, .int trcd, .int isP])), (errs, .inl (xI G, 7, .inl errs_f)), (trc, .inl (xI G, 30, .inl trc_f))] := hD
  refine lv_if_eq (tgt := 23) hx hb dX8_body_11 (by decide) (fun c11 => ?_) (fun c11 => ?_)
  · have hF := itP c11 hF
    refine lv_aload_n hx hb dX8_body_23 rfl (lv_at hl 0 rfl) ?_
    refine lv_ldc (v := -1000000002) hx hb hown (hts _ (tcons _ m805)) dX8_body_24 ?_
    obtain ⟨u2, e2, hF⟩ := bdS hF
    refine xEndI (xRunV (As := [.int (-1000000002 : Int32)]) (rest := []) hZ (c_X8_error G t row kpt errs bitsOf sizeOf cels broken isFit breaks act wth facts pile trc images mfit known laid hre opnd bad usg trcd isP errs_f (-1000000002 : Int32) u2 e2 l H.size) m193 m194 m195 m5 m196 1 ⟨rfl, hdX8_error⟩ ⟨Nat.le_of_ble_eq_true rfl, Nat.le_of_ble_eq_true rfl⟩ ⟨rfl, rfl⟩ hP hD hS 0 8 rfl rfl rfl [0, 1] rfl rfl rfl hl.1 rfl (Nat.le_of_ble_eq_true rfl) dX8_body_26 ⟨Nat.zero_le _, Nat.zero_le _⟩) hP hD hS hA [0, 1] rfl rfl rfl (fun H locs n2 hP hD hS => ?_)
    have hP : va_P G.1 vwCl [(t, .inr (8, [.ref row, .ref kpt, .int images, .ref errs, .ref bitsOf, .ref sizeOf, .ref cels, .ref broken, .ref isFit, .ref breaks, .int mfit, .int known, .ref act, .ref wth, .ref facts, .ref pile, .int laid, .int hre, .int opnd, .int bad, .int usg, .ref trc, .int trcd, .int isP])), (errs, .inl (xI G, 7, .inl u2.2)), (trc, .inl (xI G, 30, .inl trc_f))] H := hP
    have hD : va_D A [(t, .inr (8, [.ref row, .ref kpt, .int images, .ref errs, .ref bitsOf, .ref sizeOf, .ref cels, .ref broken, .ref isFit, .ref breaks, .int mfit, .int known, .ref act, .ref wth, .ref facts, .ref pile, .int laid, .int hre, .int opnd, .int bad, .int usg, .ref trc, .int trcd, .int isP])), (errs, .inl (xI G, 7, .inl u2.2)), (trc, .inl (xI G, 30, .inl trc_f))] := hD
    obtain rfl := Option.some.inj hF
    rw [← hQ]
    exact W.iret (v := u2.1) hx hb hr (fun t ht hW => ⟨⟨_, (), rfl, ⟨rfl, rfl⟩, xLf hP ht⟩, hS.F ht⟩) hS.2.2 dX8_body_29
  · have hF := itN c11 hF
    refine lv_aload_n hx hb dX8_body_14 rfl (lv_at hl 0 rfl) ?_
    refine va_get (ci := 8) (v := .ref trc) (C := RX8) (T := TX8) (N := 24) hx hb hts (fun w h => tcons w (xin8 w h)) hown hK hP 0 rfl rfl 21 (by decide) (hts _ (tcons _ m150)) (fun _ h9 => h9) rfl dX8_body_15 ?_
    refine lv_iload_n hx hb dX8_body_18 rfl (lv_at hl 1 rfl) ?_
    obtain ⟨g19, hF⟩ := gdS hF
    refine va_iald hx hb hK hP 2 0 rfl rfl g19 dX8_body_19 ?_
    refine lv_goto (tgt := 29) hx hb dX8_body_20 (by decide) ?_
    obtain rfl := Option.some.inj hF
    rw [← hQ]
    exact W.iret (v := (trc_f i.toNatClampNeg)) hx hb hr (fun t ht hW => ⟨⟨_, (), rfl, ⟨rfl, rfl⟩, xLf hP ht⟩, hS.F ht⟩) hS.2.2 dX8_body_29
def B_X8_sheet_93 (errs_f : Nat → Int32) (bitsOf_f : Nat → Int32) (sizeOf_f : Nat → Int32) (si : Int32) (wi : Int32) (k : Int32) (k93 : (Int32 × (Nat → Int32)) → Option (Int32 × (Nat → Int32) × (Nat → Int32) × (Nat → Int32) × (Nat → Int32))) (v93 : (Int32 × (Nat → Int32))) : Option (Int32 × (Nat → Int32) × (Nat → Int32) × (Nat → Int32) × (Nat → Int32)) := if (24 : Int32) ≤ v93.1 then (some ((1 : Int32), errs_f, (upd bitsOf_f si.toNatClampNeg wi), (upd sizeOf_f si.toNatClampNeg k), v93.2)) else (if ((((24 : Int32) * si) + v93.1) < 0 ∨ 96 ≤ (((24 : Int32) * si) + v93.1).toNatClampNeg) then none else (k93 ((v93.1 + (1 : Int32)), (upd v93.2 (((24 : Int32) * si) + v93.1).toNatClampNeg (0 : Int32)))))
def B_X8_sheet_93b (errs_f : Nat → Int32) (bitsOf_f : Nat → Int32) (sizeOf_f : Nat → Int32) (si : Int32) (wi : Int32) (k93 : (Int32 × (Nat → Int32)) → Option (Int32 × (Nat → Int32) × (Nat → Int32) × (Nat → Int32) × (Nat → Int32))) (v93 : (Int32 × (Nat → Int32))) : Option (Int32 × (Nat → Int32) × (Nat → Int32) × (Nat → Int32) × (Nat → Int32)) := if (24 : Int32) ≤ v93.1 then (some ((1 : Int32), errs_f, (upd bitsOf_f si.toNatClampNeg wi), (upd sizeOf_f si.toNatClampNeg (0 : Int32)), v93.2)) else (if ((((24 : Int32) * si) + v93.1) < 0 ∨ 96 ≤ (((24 : Int32) * si) + v93.1).toNatClampNeg) then none else (k93 ((v93.1 + (1 : Int32)), (upd v93.2 (((24 : Int32) * si) + v93.1).toNatClampNeg (0 : Int32)))))
def B_X8_sheet_93bb (errs_f : Nat → Int32) (bitsOf_f : Nat → Int32) (sizeOf_f : Nat → Int32) (si : Int32) (wi : Int32) (k93 : (Int32 × (Nat → Int32)) → Option (Int32 × (Nat → Int32) × (Nat → Int32) × (Nat → Int32) × (Nat → Int32))) (v93 : (Int32 × (Nat → Int32))) : Option (Int32 × (Nat → Int32) × (Nat → Int32) × (Nat → Int32) × (Nat → Int32)) := if (24 : Int32) ≤ v93.1 then (some ((1 : Int32), errs_f, (upd bitsOf_f si.toNatClampNeg wi), (upd sizeOf_f si.toNatClampNeg (0 : Int32)), v93.2)) else (if ((((24 : Int32) * si) + v93.1) < 0 ∨ 96 ≤ (((24 : Int32) * si) + v93.1).toNatClampNeg) then none else (k93 ((v93.1 + (1 : Int32)), (upd v93.2 (((24 : Int32) * si) + v93.1).toNatClampNeg (0 : Int32)))))
def B_X8_sheet_93bbb (errs_f : Nat → Int32) (bitsOf_f : Nat → Int32) (sizeOf_f : Nat → Int32) (si : Int32) (wi : Int32) (k93 : (Int32 × (Nat → Int32)) → Option (Int32 × (Nat → Int32) × (Nat → Int32) × (Nat → Int32) × (Nat → Int32))) (v93 : (Int32 × (Nat → Int32))) : Option (Int32 × (Nat → Int32) × (Nat → Int32) × (Nat → Int32) × (Nat → Int32)) := if (24 : Int32) ≤ v93.1 then (some ((1 : Int32), errs_f, (upd bitsOf_f si.toNatClampNeg wi), (upd sizeOf_f si.toNatClampNeg (0 : Int32)), v93.2)) else (if ((((24 : Int32) * si) + v93.1) < 0 ∨ 96 ≤ (((24 : Int32) * si) + v93.1).toNatClampNeg) then none else (k93 ((v93.1 + (1 : Int32)), (upd v93.2 (((24 : Int32) * si) + v93.1).toNatClampNeg (0 : Int32)))))
def B_X8_sheet_93bbbb (errs_f : Nat → Int32) (bitsOf_f : Nat → Int32) (sizeOf_f : Nat → Int32) (si : Int32) (wi : Int32) (k93 : (Int32 × (Nat → Int32)) → Option (Int32 × (Nat → Int32) × (Nat → Int32) × (Nat → Int32) × (Nat → Int32))) (v93 : (Int32 × (Nat → Int32))) : Option (Int32 × (Nat → Int32) × (Nat → Int32) × (Nat → Int32) × (Nat → Int32)) := if (24 : Int32) ≤ v93.1 then (some ((1 : Int32), errs_f, (upd bitsOf_f si.toNatClampNeg wi), (upd sizeOf_f si.toNatClampNeg (0 : Int32)), v93.2)) else (if ((((24 : Int32) * si) + v93.1) < 0 ∨ 96 ≤ (((24 : Int32) * si) + v93.1).toNatClampNeg) then none else (k93 ((v93.1 + (1 : Int32)), (upd v93.2 (((24 : Int32) * si) + v93.1).toNatClampNeg (0 : Int32)))))
def B_X8_sheet_93bbbbb (errs_f : Nat → Int32) (bitsOf_f : Nat → Int32) (sizeOf_f : Nat → Int32) (si : Int32) (wi : Int32) (k93 : (Int32 × (Nat → Int32)) → Option (Int32 × (Nat → Int32) × (Nat → Int32) × (Nat → Int32) × (Nat → Int32))) (v93 : (Int32 × (Nat → Int32))) : Option (Int32 × (Nat → Int32) × (Nat → Int32) × (Nat → Int32) × (Nat → Int32)) := if (24 : Int32) ≤ v93.1 then (some ((1 : Int32), errs_f, (upd bitsOf_f si.toNatClampNeg wi), (upd sizeOf_f si.toNatClampNeg (0 : Int32)), v93.2)) else (if ((((24 : Int32) * si) + v93.1) < 0 ∨ 96 ≤ (((24 : Int32) * si) + v93.1).toNatClampNeg) then none else (k93 ((v93.1 + (1 : Int32)), (upd v93.2 (((24 : Int32) * si) + v93.1).toNatClampNeg (0 : Int32)))))
def B_X8_sheet_93bbbbbb (errs_f : Nat → Int32) (bitsOf_f : Nat → Int32) (sizeOf_f : Nat → Int32) (si : Int32) (wi : Int32) (k93 : (Int32 × (Nat → Int32)) → Option (Int32 × (Nat → Int32) × (Nat → Int32) × (Nat → Int32) × (Nat → Int32))) (v93 : (Int32 × (Nat → Int32))) : Option (Int32 × (Nat → Int32) × (Nat → Int32) × (Nat → Int32) × (Nat → Int32)) := if (24 : Int32) ≤ v93.1 then (some ((1 : Int32), errs_f, (upd bitsOf_f si.toNatClampNeg wi), (upd sizeOf_f si.toNatClampNeg (0 : Int32)), v93.2)) else (if ((((24 : Int32) * si) + v93.1) < 0 ∨ 96 ≤ (((24 : Int32) * si) + v93.1).toNatClampNeg) then none else (k93 ((v93.1 + (1 : Int32)), (upd v93.2 (((24 : Int32) * si) + v93.1).toNatClampNeg (0 : Int32)))))
def B_X8_sheet_93bbbbbbb (errs_f : Nat → Int32) (bitsOf_f : Nat → Int32) (sizeOf_f : Nat → Int32) (si : Int32) (wi : Int32) (k93 : (Int32 × (Nat → Int32)) → Option (Int32 × (Nat → Int32) × (Nat → Int32) × (Nat → Int32) × (Nat → Int32))) (v93 : (Int32 × (Nat → Int32))) : Option (Int32 × (Nat → Int32) × (Nat → Int32) × (Nat → Int32) × (Nat → Int32)) := if (24 : Int32) ≤ v93.1 then (some ((1 : Int32), errs_f, (upd bitsOf_f si.toNatClampNeg wi), (upd sizeOf_f si.toNatClampNeg (0 : Int32)), v93.2)) else (if ((((24 : Int32) * si) + v93.1) < 0 ∨ 96 ≤ (((24 : Int32) * si) + v93.1).toNatClampNeg) then none else (k93 ((v93.1 + (1 : Int32)), (upd v93.2 (((24 : Int32) * si) + v93.1).toNatClampNeg (0 : Int32)))))
def B_X8_sheet_93bbbbbbbb (errs_f : Nat → Int32) (bitsOf_f : Nat → Int32) (sizeOf_f : Nat → Int32) (si : Int32) (wi : Int32) (k93 : (Int32 × (Nat → Int32)) → Option (Int32 × (Nat → Int32) × (Nat → Int32) × (Nat → Int32) × (Nat → Int32))) (v93 : (Int32 × (Nat → Int32))) : Option (Int32 × (Nat → Int32) × (Nat → Int32) × (Nat → Int32) × (Nat → Int32)) := if (24 : Int32) ≤ v93.1 then (some ((1 : Int32), errs_f, (upd bitsOf_f si.toNatClampNeg wi), (upd sizeOf_f si.toNatClampNeg (0 : Int32)), v93.2)) else (if ((((24 : Int32) * si) + v93.1) < 0 ∨ 96 ≤ (((24 : Int32) * si) + v93.1).toNatClampNeg) then none else (k93 ((v93.1 + (1 : Int32)), (upd v93.2 (((24 : Int32) * si) + v93.1).toNatClampNeg (0 : Int32)))))
def B_X8_sheet_93bbbbbbbbb (errs_f : Nat → Int32) (bitsOf_f : Nat → Int32) (sizeOf_f : Nat → Int32) (si : Int32) (wi : Int32) (k93 : (Int32 × (Nat → Int32)) → Option (Int32 × (Nat → Int32) × (Nat → Int32) × (Nat → Int32) × (Nat → Int32))) (v93 : (Int32 × (Nat → Int32))) : Option (Int32 × (Nat → Int32) × (Nat → Int32) × (Nat → Int32) × (Nat → Int32)) := if (24 : Int32) ≤ v93.1 then (some ((1 : Int32), errs_f, (upd bitsOf_f si.toNatClampNeg wi), (upd sizeOf_f si.toNatClampNeg (0 : Int32)), v93.2)) else (if ((((24 : Int32) * si) + v93.1) < 0 ∨ 96 ≤ (((24 : Int32) * si) + v93.1).toNatClampNeg) then none else (k93 ((v93.1 + (1 : Int32)), (upd v93.2 (((24 : Int32) * si) + v93.1).toNatClampNeg (0 : Int32)))))
def B_X8_sheet_93bbbbbbbbbb (errs_f : Nat → Int32) (bitsOf_f : Nat → Int32) (sizeOf_f : Nat → Int32) (si : Int32) (wi : Int32) (k93 : (Int32 × (Nat → Int32)) → Option (Int32 × (Nat → Int32) × (Nat → Int32) × (Nat → Int32) × (Nat → Int32))) (v93 : (Int32 × (Nat → Int32))) : Option (Int32 × (Nat → Int32) × (Nat → Int32) × (Nat → Int32) × (Nat → Int32)) := if (24 : Int32) ≤ v93.1 then (some ((1 : Int32), errs_f, (upd bitsOf_f si.toNatClampNeg wi), (upd sizeOf_f si.toNatClampNeg (0 : Int32)), v93.2)) else (if ((((24 : Int32) * si) + v93.1) < 0 ∨ 96 ≤ (((24 : Int32) * si) + v93.1).toNatClampNeg) then none else (k93 ((v93.1 + (1 : Int32)), (upd v93.2 (((24 : Int32) * si) + v93.1).toNatClampNeg (0 : Int32)))))
def B_X8_sheet_93bbbbbbbbbbb (errs_f : Nat → Int32) (bitsOf_f : Nat → Int32) (sizeOf_f : Nat → Int32) (si : Int32) (wi : Int32) (k93 : (Int32 × (Nat → Int32)) → Option (Int32 × (Nat → Int32) × (Nat → Int32) × (Nat → Int32) × (Nat → Int32))) (v93 : (Int32 × (Nat → Int32))) : Option (Int32 × (Nat → Int32) × (Nat → Int32) × (Nat → Int32) × (Nat → Int32)) := if (24 : Int32) ≤ v93.1 then (some ((1 : Int32), errs_f, (upd bitsOf_f si.toNatClampNeg wi), (upd sizeOf_f si.toNatClampNeg (0 : Int32)), v93.2)) else (if ((((24 : Int32) * si) + v93.1) < 0 ∨ 96 ≤ (((24 : Int32) * si) + v93.1).toNatClampNeg) then none else (k93 ((v93.1 + (1 : Int32)), (upd v93.2 (((24 : Int32) * si) + v93.1).toNatClampNeg (0 : Int32)))))
def B_X8_sheet_93bbbbbbbbbbbb (errs_f : Nat → Int32) (bitsOf_f : Nat → Int32) (sizeOf_f : Nat → Int32) (si : Int32) (wi : Int32) (k93 : (Int32 × (Nat → Int32)) → Option (Int32 × (Nat → Int32) × (Nat → Int32) × (Nat → Int32) × (Nat → Int32))) (v93 : (Int32 × (Nat → Int32))) : Option (Int32 × (Nat → Int32) × (Nat → Int32) × (Nat → Int32) × (Nat → Int32)) := if (24 : Int32) ≤ v93.1 then (some ((1 : Int32), errs_f, (upd bitsOf_f si.toNatClampNeg wi), (upd sizeOf_f si.toNatClampNeg (0 : Int32)), v93.2)) else (if ((((24 : Int32) * si) + v93.1) < 0 ∨ 96 ≤ (((24 : Int32) * si) + v93.1).toNatClampNeg) then none else (k93 ((v93.1 + (1 : Int32)), (upd v93.2 (((24 : Int32) * si) + v93.1).toNatClampNeg (0 : Int32)))))
def B_X8_sheet_93bbbbbbbbbbbbb (errs_f : Nat → Int32) (bitsOf_f : Nat → Int32) (sizeOf_f : Nat → Int32) (si : Int32) (wi : Int32) (k93 : (Int32 × (Nat → Int32)) → Option (Int32 × (Nat → Int32) × (Nat → Int32) × (Nat → Int32) × (Nat → Int32))) (v93 : (Int32 × (Nat → Int32))) : Option (Int32 × (Nat → Int32) × (Nat → Int32) × (Nat → Int32) × (Nat → Int32)) := if (24 : Int32) ≤ v93.1 then (some ((1 : Int32), errs_f, (upd bitsOf_f si.toNatClampNeg wi), (upd sizeOf_f si.toNatClampNeg (0 : Int32)), v93.2)) else (if ((((24 : Int32) * si) + v93.1) < 0 ∨ 96 ≤ (((24 : Int32) * si) + v93.1).toNatClampNeg) then none else (k93 ((v93.1 + (1 : Int32)), (upd v93.2 (((24 : Int32) * si) + v93.1).toNatClampNeg (0 : Int32)))))
def B_X8_sheet_93bbbbbbbbbbbbbb (errs_f : Nat → Int32) (bitsOf_f : Nat → Int32) (sizeOf_f : Nat → Int32) (si : Int32) (wi : Int32) (k93 : (Int32 × (Nat → Int32)) → Option (Int32 × (Nat → Int32) × (Nat → Int32) × (Nat → Int32) × (Nat → Int32))) (v93 : (Int32 × (Nat → Int32))) : Option (Int32 × (Nat → Int32) × (Nat → Int32) × (Nat → Int32) × (Nat → Int32)) := if (24 : Int32) ≤ v93.1 then (some ((1 : Int32), errs_f, (upd bitsOf_f si.toNatClampNeg wi), (upd sizeOf_f si.toNatClampNeg (0 : Int32)), v93.2)) else (if ((((24 : Int32) * si) + v93.1) < 0 ∨ 96 ≤ (((24 : Int32) * si) + v93.1).toNatClampNeg) then none else (k93 ((v93.1 + (1 : Int32)), (upd v93.2 (((24 : Int32) * si) + v93.1).toNatClampNeg (0 : Int32)))))
def B_X8_sheet_93bbbbbbbbbbbbbbb (errs_f : Nat → Int32) (bitsOf_f : Nat → Int32) (sizeOf_f : Nat → Int32) (si : Int32) (wi : Int32) (k93 : (Int32 × (Nat → Int32)) → Option (Int32 × (Nat → Int32) × (Nat → Int32) × (Nat → Int32) × (Nat → Int32))) (v93 : (Int32 × (Nat → Int32))) : Option (Int32 × (Nat → Int32) × (Nat → Int32) × (Nat → Int32) × (Nat → Int32)) := if (24 : Int32) ≤ v93.1 then (some ((1 : Int32), errs_f, (upd bitsOf_f si.toNatClampNeg wi), (upd sizeOf_f si.toNatClampNeg (0 : Int32)), v93.2)) else (if ((((24 : Int32) * si) + v93.1) < 0 ∨ 96 ≤ (((24 : Int32) * si) + v93.1).toNatClampNeg) then none else (k93 ((v93.1 + (1 : Int32)), (upd v93.2 (((24 : Int32) * si) + v93.1).toNatClampNeg (0 : Int32)))))
def B_X8_sheet_93bbbbbbbbbbbbbbbb (errs_f : Nat → Int32) (bitsOf_f : Nat → Int32) (sizeOf_f : Nat → Int32) (si : Int32) (wi : Int32) (k93 : (Int32 × (Nat → Int32)) → Option (Int32 × (Nat → Int32) × (Nat → Int32) × (Nat → Int32) × (Nat → Int32))) (v93 : (Int32 × (Nat → Int32))) : Option (Int32 × (Nat → Int32) × (Nat → Int32) × (Nat → Int32) × (Nat → Int32)) := if (24 : Int32) ≤ v93.1 then (some ((1 : Int32), errs_f, (upd bitsOf_f si.toNatClampNeg wi), (upd sizeOf_f si.toNatClampNeg (0 : Int32)), v93.2)) else (if ((((24 : Int32) * si) + v93.1) < 0 ∨ 96 ≤ (((24 : Int32) * si) + v93.1).toNatClampNeg) then none else (k93 ((v93.1 + (1 : Int32)), (upd v93.2 (((24 : Int32) * si) + v93.1).toNatClampNeg (0 : Int32)))))
def F_X8_sheet (errs_f : Nat → Int32) (bitsOf_f : Nat → Int32) (sizeOf_f : Nat → Int32) (cels_f : Nat → Int32) (si : Int32) (wi : Int32) (k : Int32) : Option (Int32 × (Nat → Int32) × (Nat → Int32) × (Nat → Int32) × (Nat → Int32)) := bd (F_X8_isSheet si) (fun (u1 : Int32) => if u1 = 0 then (bd (F_X8_error errs_f (-1000000001 : Int32)) (fun (u2 : (Int32 × (Nat → Int32))) => some (u2.1, u2.2, bitsOf_f, sizeOf_f, cels_f))) else (if wi = 0 then (if wi ≤ 0 then (if wi ≤ 0 then (if (si < 0 ∨ 4 ≤ si.toNatClampNeg) then none else (if wi = 0 then (if (si < 0 ∨ 4 ≤ si.toNatClampNeg) then none else (lp (B_X8_sheet_93b errs_f bitsOf_f sizeOf_f si wi) fuelC ((0 : Int32), cels_f))) else (if (si < 0 ∨ 4 ≤ si.toNatClampNeg) then none else (lp (B_X8_sheet_93 errs_f bitsOf_f sizeOf_f si wi k) fuelC ((0 : Int32), cels_f))))) else (if k ≤ (24 : Int32) then (if (si < 0 ∨ 4 ≤ si.toNatClampNeg) then none else (if wi = 0 then (if (si < 0 ∨ 4 ≤ si.toNatClampNeg) then none else (lp (B_X8_sheet_93bb errs_f bitsOf_f sizeOf_f si wi) fuelC ((0 : Int32), cels_f))) else (if (si < 0 ∨ 4 ≤ si.toNatClampNeg) then none else (lp (B_X8_sheet_93 errs_f bitsOf_f sizeOf_f si wi k) fuelC ((0 : Int32), cels_f))))) else (bd (F_X8_error errs_f (-1000000001 : Int32)) (fun (u2 : (Int32 × (Nat → Int32))) => some (u2.1, u2.2, bitsOf_f, sizeOf_f, cels_f))))) else (if 0 ≤ k then (if wi ≤ 0 then (if (si < 0 ∨ 4 ≤ si.toNatClampNeg) then none else (if wi = 0 then (if (si < 0 ∨ 4 ≤ si.toNatClampNeg) then none else (lp (B_X8_sheet_93bbb errs_f bitsOf_f sizeOf_f si wi) fuelC ((0 : Int32), cels_f))) else (if (si < 0 ∨ 4 ≤ si.toNatClampNeg) then none else (lp (B_X8_sheet_93 errs_f bitsOf_f sizeOf_f si wi k) fuelC ((0 : Int32), cels_f))))) else (if k ≤ (24 : Int32) then (if (si < 0 ∨ 4 ≤ si.toNatClampNeg) then none else (if wi = 0 then (if (si < 0 ∨ 4 ≤ si.toNatClampNeg) then none else (lp (B_X8_sheet_93bbbb errs_f bitsOf_f sizeOf_f si wi) fuelC ((0 : Int32), cels_f))) else (if (si < 0 ∨ 4 ≤ si.toNatClampNeg) then none else (lp (B_X8_sheet_93 errs_f bitsOf_f sizeOf_f si wi k) fuelC ((0 : Int32), cels_f))))) else (bd (F_X8_error errs_f (-1000000001 : Int32)) (fun (u2 : (Int32 × (Nat → Int32))) => some (u2.1, u2.2, bitsOf_f, sizeOf_f, cels_f))))) else (bd (F_X8_error errs_f (-1000000003 : Int32)) (fun (u2 : (Int32 × (Nat → Int32))) => some (u2.1, u2.2, bitsOf_f, sizeOf_f, cels_f))))) else (if wi = (8 : Int32) then (if wi ≤ 0 then (if wi ≤ 0 then (if (si < 0 ∨ 4 ≤ si.toNatClampNeg) then none else (if wi = 0 then (if (si < 0 ∨ 4 ≤ si.toNatClampNeg) then none else (lp (B_X8_sheet_93bbbbb errs_f bitsOf_f sizeOf_f si wi) fuelC ((0 : Int32), cels_f))) else (if (si < 0 ∨ 4 ≤ si.toNatClampNeg) then none else (lp (B_X8_sheet_93 errs_f bitsOf_f sizeOf_f si wi k) fuelC ((0 : Int32), cels_f))))) else (if k ≤ (24 : Int32) then (if (si < 0 ∨ 4 ≤ si.toNatClampNeg) then none else (if wi = 0 then (if (si < 0 ∨ 4 ≤ si.toNatClampNeg) then none else (lp (B_X8_sheet_93bbbbbb errs_f bitsOf_f sizeOf_f si wi) fuelC ((0 : Int32), cels_f))) else (if (si < 0 ∨ 4 ≤ si.toNatClampNeg) then none else (lp (B_X8_sheet_93 errs_f bitsOf_f sizeOf_f si wi k) fuelC ((0 : Int32), cels_f))))) else (bd (F_X8_error errs_f (-1000000001 : Int32)) (fun (u2 : (Int32 × (Nat → Int32))) => some (u2.1, u2.2, bitsOf_f, sizeOf_f, cels_f))))) else (if 0 ≤ k then (if wi ≤ 0 then (if (si < 0 ∨ 4 ≤ si.toNatClampNeg) then none else (if wi = 0 then (if (si < 0 ∨ 4 ≤ si.toNatClampNeg) then none else (lp (B_X8_sheet_93bbbbbbb errs_f bitsOf_f sizeOf_f si wi) fuelC ((0 : Int32), cels_f))) else (if (si < 0 ∨ 4 ≤ si.toNatClampNeg) then none else (lp (B_X8_sheet_93 errs_f bitsOf_f sizeOf_f si wi k) fuelC ((0 : Int32), cels_f))))) else (if k ≤ (24 : Int32) then (if (si < 0 ∨ 4 ≤ si.toNatClampNeg) then none else (if wi = 0 then (if (si < 0 ∨ 4 ≤ si.toNatClampNeg) then none else (lp (B_X8_sheet_93bbbbbbbb errs_f bitsOf_f sizeOf_f si wi) fuelC ((0 : Int32), cels_f))) else (if (si < 0 ∨ 4 ≤ si.toNatClampNeg) then none else (lp (B_X8_sheet_93 errs_f bitsOf_f sizeOf_f si wi k) fuelC ((0 : Int32), cels_f))))) else (bd (F_X8_error errs_f (-1000000001 : Int32)) (fun (u2 : (Int32 × (Nat → Int32))) => some (u2.1, u2.2, bitsOf_f, sizeOf_f, cels_f))))) else (bd (F_X8_error errs_f (-1000000003 : Int32)) (fun (u2 : (Int32 × (Nat → Int32))) => some (u2.1, u2.2, bitsOf_f, sizeOf_f, cels_f))))) else (if wi = (16 : Int32) then (if wi ≤ 0 then (if wi ≤ 0 then (if (si < 0 ∨ 4 ≤ si.toNatClampNeg) then none else (if wi = 0 then (if (si < 0 ∨ 4 ≤ si.toNatClampNeg) then none else (lp (B_X8_sheet_93bbbbbbbbb errs_f bitsOf_f sizeOf_f si wi) fuelC ((0 : Int32), cels_f))) else (if (si < 0 ∨ 4 ≤ si.toNatClampNeg) then none else (lp (B_X8_sheet_93 errs_f bitsOf_f sizeOf_f si wi k) fuelC ((0 : Int32), cels_f))))) else (if k ≤ (24 : Int32) then (if (si < 0 ∨ 4 ≤ si.toNatClampNeg) then none else (if wi = 0 then (if (si < 0 ∨ 4 ≤ si.toNatClampNeg) then none else (lp (B_X8_sheet_93bbbbbbbbbb errs_f bitsOf_f sizeOf_f si wi) fuelC ((0 : Int32), cels_f))) else (if (si < 0 ∨ 4 ≤ si.toNatClampNeg) then none else (lp (B_X8_sheet_93 errs_f bitsOf_f sizeOf_f si wi k) fuelC ((0 : Int32), cels_f))))) else (bd (F_X8_error errs_f (-1000000001 : Int32)) (fun (u2 : (Int32 × (Nat → Int32))) => some (u2.1, u2.2, bitsOf_f, sizeOf_f, cels_f))))) else (if 0 ≤ k then (if wi ≤ 0 then (if (si < 0 ∨ 4 ≤ si.toNatClampNeg) then none else (if wi = 0 then (if (si < 0 ∨ 4 ≤ si.toNatClampNeg) then none else (lp (B_X8_sheet_93bbbbbbbbbbb errs_f bitsOf_f sizeOf_f si wi) fuelC ((0 : Int32), cels_f))) else (if (si < 0 ∨ 4 ≤ si.toNatClampNeg) then none else (lp (B_X8_sheet_93 errs_f bitsOf_f sizeOf_f si wi k) fuelC ((0 : Int32), cels_f))))) else (if k ≤ (24 : Int32) then (if (si < 0 ∨ 4 ≤ si.toNatClampNeg) then none else (if wi = 0 then (if (si < 0 ∨ 4 ≤ si.toNatClampNeg) then none else (lp (B_X8_sheet_93bbbbbbbbbbbb errs_f bitsOf_f sizeOf_f si wi) fuelC ((0 : Int32), cels_f))) else (if (si < 0 ∨ 4 ≤ si.toNatClampNeg) then none else (lp (B_X8_sheet_93 errs_f bitsOf_f sizeOf_f si wi k) fuelC ((0 : Int32), cels_f))))) else (bd (F_X8_error errs_f (-1000000001 : Int32)) (fun (u2 : (Int32 × (Nat → Int32))) => some (u2.1, u2.2, bitsOf_f, sizeOf_f, cels_f))))) else (bd (F_X8_error errs_f (-1000000003 : Int32)) (fun (u2 : (Int32 × (Nat → Int32))) => some (u2.1, u2.2, bitsOf_f, sizeOf_f, cels_f))))) else (if wi = (32 : Int32) then (if wi ≤ 0 then (if wi ≤ 0 then (if (si < 0 ∨ 4 ≤ si.toNatClampNeg) then none else (if wi = 0 then (if (si < 0 ∨ 4 ≤ si.toNatClampNeg) then none else (lp (B_X8_sheet_93bbbbbbbbbbbbb errs_f bitsOf_f sizeOf_f si wi) fuelC ((0 : Int32), cels_f))) else (if (si < 0 ∨ 4 ≤ si.toNatClampNeg) then none else (lp (B_X8_sheet_93 errs_f bitsOf_f sizeOf_f si wi k) fuelC ((0 : Int32), cels_f))))) else (if k ≤ (24 : Int32) then (if (si < 0 ∨ 4 ≤ si.toNatClampNeg) then none else (if wi = 0 then (if (si < 0 ∨ 4 ≤ si.toNatClampNeg) then none else (lp (B_X8_sheet_93bbbbbbbbbbbbbb errs_f bitsOf_f sizeOf_f si wi) fuelC ((0 : Int32), cels_f))) else (if (si < 0 ∨ 4 ≤ si.toNatClampNeg) then none else (lp (B_X8_sheet_93 errs_f bitsOf_f sizeOf_f si wi k) fuelC ((0 : Int32), cels_f))))) else (bd (F_X8_error errs_f (-1000000001 : Int32)) (fun (u2 : (Int32 × (Nat → Int32))) => some (u2.1, u2.2, bitsOf_f, sizeOf_f, cels_f))))) else (if 0 ≤ k then (if wi ≤ 0 then (if (si < 0 ∨ 4 ≤ si.toNatClampNeg) then none else (if wi = 0 then (if (si < 0 ∨ 4 ≤ si.toNatClampNeg) then none else (lp (B_X8_sheet_93bbbbbbbbbbbbbbb errs_f bitsOf_f sizeOf_f si wi) fuelC ((0 : Int32), cels_f))) else (if (si < 0 ∨ 4 ≤ si.toNatClampNeg) then none else (lp (B_X8_sheet_93 errs_f bitsOf_f sizeOf_f si wi k) fuelC ((0 : Int32), cels_f))))) else (if k ≤ (24 : Int32) then (if (si < 0 ∨ 4 ≤ si.toNatClampNeg) then none else (if wi = 0 then (if (si < 0 ∨ 4 ≤ si.toNatClampNeg) then none else (lp (B_X8_sheet_93bbbbbbbbbbbbbbbb errs_f bitsOf_f sizeOf_f si wi) fuelC ((0 : Int32), cels_f))) else (if (si < 0 ∨ 4 ≤ si.toNatClampNeg) then none else (lp (B_X8_sheet_93 errs_f bitsOf_f sizeOf_f si wi k) fuelC ((0 : Int32), cels_f))))) else (bd (F_X8_error errs_f (-1000000001 : Int32)) (fun (u2 : (Int32 × (Nat → Int32))) => some (u2.1, u2.2, bitsOf_f, sizeOf_f, cels_f))))) else (bd (F_X8_error errs_f (-1000000003 : Int32)) (fun (u2 : (Int32 × (Nat → Int32))) => some (u2.1, u2.2, bitsOf_f, sizeOf_f, cels_f))))) else (bd (F_X8_error errs_f (-1000000001 : Int32)) (fun (u2 : (Int32 × (Nat → Int32))) => some (u2.1, u2.2, bitsOf_f, sizeOf_f, cels_f))))))))
theorem hdX8_sheet : yX8_sheet.cls ≠ "java/lang/invoke/MethodHandle" ∧ yX8_sheet.cls ≠ "java/lang/invoke/VarHandle" ∧ (parseMethodDescriptor yX8_sheet.desc).map (fun d => d.parameters.length) = some 3 := by decide +kernel
set_option maxHeartbeats 4000000 in
set_option maxRecDepth 100000 in
theorem c_X8_sheet (G : xG) (t : Nat) (row : Nat) (kpt : Nat) (errs : Nat) (bitsOf : Nat) (sizeOf : Nat) (cels : Nat) (broken : Nat) (isFit : Nat) (breaks : Nat) (act : Nat) (wth : Nat) (facts : Nat) (pile : Nat) (trc : Nat) (images : Int32) (mfit : Int32) (known : Int32) (laid : Int32) (hre : Int32) (opnd : Int32) (bad : Int32) (usg : Int32) (trcd : Int32) (isP : Int32) (errs_f : Nat → Int32) (bitsOf_f : Nat → Int32) (sizeOf_f : Nat → Int32) (cels_f : Nat → Int32) (si : Int32) (wi : Int32) (k : Int32)  (u : (Int32 × (Nat → Int32) × (Nat → Int32) × (Nat → Int32) × (Nat → Int32))) (hF : F_X8_sheet errs_f bitsOf_f sizeOf_f cels_f si wi k = some u) : Ki G .int yX8_sheet (Cond.code yX8_sheet cX8_sheet 5 (some .int) :: TBL) { frames := 2, cells := 0, slots := 0, locals := 42 } [.ref t, .int si, .int wi, .int k] [(t, .inr (8, [.ref row, .ref kpt, .int images, .ref errs, .ref bitsOf, .ref sizeOf, .ref cels, .ref broken, .ref isFit, .ref breaks, .int mfit, .int known, .ref act, .ref wth, .ref facts, .ref pile, .int laid, .int hre, .int opnd, .int bad, .int usg, .ref trc, .int trcd, .int isP])), (errs, .inl (xI G, 7, .inl errs_f)), (bitsOf, .inl (xI G, 4, .inl bitsOf_f)), (sizeOf, .inl (xI G, 4, .inl sizeOf_f)), (cels, .inl (xI G, 96, .inl cels_f))] [(t, .inr (8, [.ref row, .ref kpt, .int images, .ref errs, .ref bitsOf, .ref sizeOf, .ref cels, .ref broken, .ref isFit, .ref breaks, .int mfit, .int known, .ref act, .ref wth, .ref facts, .ref pile, .int laid, .int hre, .int opnd, .int bad, .int usg, .ref trc, .int trcd, .int isP])), (errs, .inl (xI G, 7, .inl u.2.1)), (bitsOf, .inl (xI G, 4, .inl u.2.2.1)), (sizeOf, .inl (xI G, 4, .inl u.2.2.2.1)), (cels, .inl (xI G, 96, .inl u.2.2.2.2))] u.1 := by
  intro l sz
  refine Met.ofW (cc := cX8_sheet) (maxL := 5) (ret := (some .int)) (by decide) rfl ?_
  intro p e s m args below meth c s₁ B hml hv
  obtain ⟨rfl, hsz, hP, hD0, hm⟩ := hv
  have hx := B.exec
  have hb := B.bytes
  have hr := B.returns
  have hts := atoms_spec (ws := Cond.code yX8_sheet cX8_sheet 5 (some .int) :: TBL) B.pre
  have hown : s.vm.findClass RX8 = some m.cls := findClass_of_methodNamed B.named
  have hlocks := B.notSynchronized
  subst hsz
  have hD := hD0.self (sz := s.heap.size)
  generalize hAe : va_A [(t, .inr (8, [.ref row, .ref kpt, .int images, .ref errs, .ref bitsOf, .ref sizeOf, .ref cels, .ref broken, .ref isFit, .ref breaks, .int mfit, .int known, .ref act, .ref wth, .ref facts, .ref pile, .int laid, .int hre, .int opnd, .int bad, .int usg, .ref trc, .int trcd, .int isP])), (errs, .inl (xI G, 7, .inl errs_f)), (bitsOf, .inl (xI G, 4, .inl bitsOf_f)), (sizeOf, .inl (xI G, 4, .inl sizeOf_f)), (cels, .inl (xI G, 96, .inl cels_f))] s.heap.size = A at hD hm ⊢
  have hA : ∀ q : Nat, s.heap.size ≤ q → A q := fun q h => by rw [← hAe]; exact Or.inr h
  have hK := hm.1
  have hZ : xAnd p m c cX8_sheet 5 s _ (Cond.code yX8_sheet cX8_sheet 5 (some .int) :: TBL) RX8 G A := ⟨⟨hx, hb, hml, hown, hts⟩, tcons, hA, hm⟩
  have hP : va_P G.1 vwCl [(t, .inr (8, [.ref row, .ref kpt, .int images, .ref errs, .ref bitsOf, .ref sizeOf, .ref cels, .ref broken, .ref isFit, .ref breaks, .int mfit, .int known, .ref act, .ref wth, .ref facts, .ref pile, .int laid, .int hre, .int opnd, .int bad, .int usg, .ref trc, .int trcd, .int isP])), (errs, .inl (xI G, 7, .inl errs_f)), (bitsOf, .inl (xI G, 4, .inl bitsOf_f)), (sizeOf, .inl (xI G, 4, .inl sizeOf_f)), (cels, .inl (xI G, 96, .inl cels_f))] s.heap := hP
  have hl := lv_entry ([.ref t, .int si, .int wi, .int k]) (n := 5) (Nat.le_of_ble_eq_true rfl)
  rw [lg_entry_eq]
  generalize (lg_sl ([.ref t, .int si, .int wi, .int k]) ++ List.replicate (5 - (lg_sl ([.ref t, .int si, .int wi, .int k])).length) Slot.unset).toArray = ls at hl ⊢
  have hl : lv_has ls 5 [(0, .ref t), (1, .int si), (2, .int wi), (3, .int k)] := hl
  generalize hQ : MQ below _ _ s _ _ _ = Q
  refine xGo (A := A) hP (fun H locs hP hS => ?_)
  unfold F_X8_sheet at hF
  refine lv_iload_n hx hb dX8_sheet_0 rfl (lv_at hl 1 rfl) ?_
  obtain ⟨u1, e1, hF⟩ := bdS hF
  refine xEndI (xRunS (As := [.int si]) (rest := []) hZ (c_X8_isSheet G si u1 e1 l H.size) m899 m900 m5 m901 1 hdX8_isSheet ⟨Nat.le_of_ble_eq_true rfl, Nat.le_of_ble_eq_true rfl⟩ ⟨rfl, rfl⟩ hP hD hS [] rfl rfl rfl hl.1 rfl (Nat.le_of_ble_eq_true rfl) dX8_sheet_1 ⟨Nat.zero_le _, Nat.zero_le _⟩) hP hD hS hA [] rfl rfl rfl (fun H locs n1 hP hD hS => ?_)
  have hP : va_P G.1 vwCl [(t, .inr (8, [.ref row, .ref kpt, .int images, .ref errs, .ref bitsOf, .ref sizeOf, .ref cels, .ref broken, .ref isFit, .ref breaks, .int mfit, .int known, .ref act, .ref wth, .ref facts, .ref pile, .int laid, .int hre, .int opnd, .int bad, .int usg, .ref trc, .int trcd, .int isP])), (errs, .inl (xI G, 7, .inl errs_f)), (bitsOf, .inl (xI G, 4, .inl bitsOf_f)), (sizeOf, .inl (xI G, 4, .inl sizeOf_f)), (cels, .inl (xI G, 96, .inl cels_f))] H := hP
  have hD : va_D A [(t, .inr (8, [.ref row, .ref kpt, .int images, .ref errs, .ref bitsOf, .ref sizeOf, .ref cels, .ref broken, .ref isFit, .ref breaks, .int mfit, .int known, .ref act, .ref wth, .ref facts, .ref pile, .int laid, .int hre, .int opnd, .int bad, .int usg, .ref trc, .int trcd, .int isP])), (errs, .inl (xI G, 7, .inl errs_f)), (bitsOf, .inl (xI G, 4, .inl bitsOf_f)), (sizeOf, .inl (xI G, 4, .inl sizeOf_f)), (cels, .inl (xI G, 96, .inl cels_f))] := hD
  refine lv_if_eq (tgt := 29) hx hb dX8_sheet_4 (by decide) (fun c4 => ?_) (fun c4 => ?_)
  · have hF := itP c4 hF
    refine lv_aload_n hx hb dX8_sheet_29 rfl (lv_at hl 0 rfl) ?_
    refine lv_ldc (v := -1000000001) hx hb hown (hts _ (tcons _ m185)) dX8_sheet_30 ?_
    obtain ⟨u2, e2, hF⟩ := bdS hF
    refine xEndI (xRunV (As := [.int (-1000000001 : Int32)]) (rest := []) hZ (c_X8_error G t row kpt errs bitsOf sizeOf cels broken isFit breaks act wth facts pile trc images mfit known laid hre opnd bad usg trcd isP errs_f (-1000000001 : Int32) u2 e2 l H.size) m193 m194 m195 m5 m196 1 ⟨rfl, hdX8_error⟩ ⟨Nat.le_of_ble_eq_true rfl, Nat.le_of_ble_eq_true rfl⟩ ⟨rfl, rfl⟩ hP hD hS 0 8 rfl rfl rfl [0, 1] rfl rfl rfl hl.1 rfl (Nat.le_of_ble_eq_true rfl) dX8_sheet_32 ⟨Nat.zero_le _, Nat.zero_le _⟩) hP hD hS hA [0, 1] rfl rfl rfl (fun H locs n2 hP hD hS => ?_)
    have hP : va_P G.1 vwCl [(t, .inr (8, [.ref row, .ref kpt, .int images, .ref errs, .ref bitsOf, .ref sizeOf, .ref cels, .ref broken, .ref isFit, .ref breaks, .int mfit, .int known, .ref act, .ref wth, .ref facts, .ref pile, .int laid, .int hre, .int opnd, .int bad, .int usg, .ref trc, .int trcd, .int isP])), (errs, .inl (xI G, 7, .inl u2.2)), (bitsOf, .inl (xI G, 4, .inl bitsOf_f)), (sizeOf, .inl (xI G, 4, .inl sizeOf_f)), (cels, .inl (xI G, 96, .inl cels_f))] H := hP
    have hD : va_D A [(t, .inr (8, [.ref row, .ref kpt, .int images, .ref errs, .ref bitsOf, .ref sizeOf, .ref cels, .ref broken, .ref isFit, .ref breaks, .int mfit, .int known, .ref act, .ref wth, .ref facts, .ref pile, .int laid, .int hre, .int opnd, .int bad, .int usg, .ref trc, .int trcd, .int isP])), (errs, .inl (xI G, 7, .inl u2.2)), (bitsOf, .inl (xI G, 4, .inl bitsOf_f)), (sizeOf, .inl (xI G, 4, .inl sizeOf_f)), (cels, .inl (xI G, 96, .inl cels_f))] := hD
    obtain rfl := Option.some.inj hF
    rw [← hQ]
    exact W.iret (v := u2.1) hx hb hr (fun t ht hW => ⟨⟨_, (), rfl, ⟨rfl, rfl⟩, xLf hP ht⟩, hS.F ht⟩) hS.2.2 dX8_sheet_35
  · have hF := itN c4 hF
    refine lv_iload_n hx hb dX8_sheet_7 rfl (lv_at hl 2 rfl) ?_
    refine lv_if_eq (tgt := 36) hx hb dX8_sheet_8 (by decide) (fun c8 => ?_) (fun c8 => ?_)
    · have hF := itP c8 hF
      refine lv_iload_n hx hb dX8_sheet_36 rfl (lv_at hl 2 rfl) ?_
      refine lv_if_le (tgt := 51) hx hb dX8_sheet_37 (by decide) (fun c37 => ?_) (fun c37 => ?_)
      · have hF := itP c37 hF
        refine lv_iload_n hx hb dX8_sheet_51 rfl (lv_at hl 2 rfl) ?_
        refine lv_if_le (tgt := 68) hx hb dX8_sheet_52 (by decide) (fun c52 => ?_) (fun c52 => ?_)
        · have hF := itP c52 hF
          refine lv_aload_n hx hb dX8_sheet_68 rfl (lv_at hl 0 rfl) ?_
          refine va_get (ci := 8) (v := .ref bitsOf) (C := RX8) (T := TX8) (N := 24) hx hb hts (fun w h => tcons w (xin8 w h)) hown hK hP 0 rfl rfl 4 (by decide) (hts _ (tcons _ m140)) (fun _ h9 => h9) rfl dX8_sheet_69 ?_
          refine lv_iload_n hx hb dX8_sheet_72 rfl (lv_at hl 1 rfl) ?_
          refine lv_iload_n hx hb dX8_sheet_73 rfl (lv_at hl 2 rfl) ?_
          obtain ⟨g74, hF⟩ := gdS hF
          refine va_iast hx hb hK hP hD hS 2 0 rfl rfl g74 dX8_sheet_74 (fun H locs hP hD hS => ?_)
          have hP : va_P G.1 vwCl [(t, .inr (8, [.ref row, .ref kpt, .int images, .ref errs, .ref bitsOf, .ref sizeOf, .ref cels, .ref broken, .ref isFit, .ref breaks, .int mfit, .int known, .ref act, .ref wth, .ref facts, .ref pile, .int laid, .int hre, .int opnd, .int bad, .int usg, .ref trc, .int trcd, .int isP])), (errs, .inl (xI G, 7, .inl errs_f)), (bitsOf, .inl (xI G, 4, .inl (upd bitsOf_f si.toNatClampNeg wi))), (sizeOf, .inl (xI G, 4, .inl sizeOf_f)), (cels, .inl (xI G, 96, .inl cels_f))] H := hP
          have hD : va_D A [(t, .inr (8, [.ref row, .ref kpt, .int images, .ref errs, .ref bitsOf, .ref sizeOf, .ref cels, .ref broken, .ref isFit, .ref breaks, .int mfit, .int known, .ref act, .ref wth, .ref facts, .ref pile, .int laid, .int hre, .int opnd, .int bad, .int usg, .ref trc, .int trcd, .int isP])), (errs, .inl (xI G, 7, .inl errs_f)), (bitsOf, .inl (xI G, 4, .inl (upd bitsOf_f si.toNatClampNeg wi))), (sizeOf, .inl (xI G, 4, .inl sizeOf_f)), (cels, .inl (xI G, 96, .inl cels_f))] := hD
          refine lv_aload_n hx hb dX8_sheet_75 rfl (lv_at hl 0 rfl) ?_
          refine va_get (ci := 8) (v := .ref sizeOf) (C := RX8) (T := TX8) (N := 24) hx hb hts (fun w h => tcons w (xin8 w h)) hown hK hP 0 rfl rfl 5 (by decide) (hts _ (tcons _ m141)) (fun _ h9 => h9) rfl dX8_sheet_76 ?_
          refine lv_iload_n hx hb dX8_sheet_79 rfl (lv_at hl 1 rfl) ?_
          refine lv_iload_n hx hb dX8_sheet_80 rfl (lv_at hl 2 rfl) ?_
          refine lv_if_ne (tgt := 88) hx hb dX8_sheet_81 (by decide) (fun c81 => ?_) (fun c81 => ?_)
          · have hF := itN c81 hF
            refine lv_iload_n hx hb dX8_sheet_88 rfl (lv_at hl 3 rfl) ?_
            obtain ⟨g89, hF⟩ := gdS hF
            refine va_iast hx hb hK hP hD hS 3 0 rfl rfl g89 dX8_sheet_89 (fun H locs hP hD hS => ?_)
            have hP : va_P G.1 vwCl [(t, .inr (8, [.ref row, .ref kpt, .int images, .ref errs, .ref bitsOf, .ref sizeOf, .ref cels, .ref broken, .ref isFit, .ref breaks, .int mfit, .int known, .ref act, .ref wth, .ref facts, .ref pile, .int laid, .int hre, .int opnd, .int bad, .int usg, .ref trc, .int trcd, .int isP])), (errs, .inl (xI G, 7, .inl errs_f)), (bitsOf, .inl (xI G, 4, .inl (upd bitsOf_f si.toNatClampNeg wi))), (sizeOf, .inl (xI G, 4, .inl (upd sizeOf_f si.toNatClampNeg k))), (cels, .inl (xI G, 96, .inl cels_f))] H := hP
            have hD : va_D A [(t, .inr (8, [.ref row, .ref kpt, .int images, .ref errs, .ref bitsOf, .ref sizeOf, .ref cels, .ref broken, .ref isFit, .ref breaks, .int mfit, .int known, .ref act, .ref wth, .ref facts, .ref pile, .int laid, .int hre, .int opnd, .int bad, .int usg, .ref trc, .int trcd, .int isP])), (errs, .inl (xI G, 7, .inl errs_f)), (bitsOf, .inl (xI G, 4, .inl (upd bitsOf_f si.toNatClampNeg wi))), (sizeOf, .inl (xI G, 4, .inl (upd sizeOf_f si.toNatClampNeg k))), (cels, .inl (xI G, 96, .inl cels_f))] := hD
            refine lv_iconst (v := 0) hx hb dX8_sheet_90 (by decide) ?_
            refine lv_istore (lv' := [(4, .int (0 : Int32)), (0, .ref t), (1, .int si), (2, .int wi), (3, .int k)]) hx hb dX8_sheet_91 hl (by decide) rfl (fun ls hl => ?_)
            refine xLoop2 (body := (B_X8_sheet_93 errs_f bitsOf_f sizeOf_f si wi k)) (fun (v93_0 : Int32) (v93_1 : Nat → Int32) H locs ls => va_P G.1 vwCl [(t, .inr (8, [.ref row, .ref kpt, .int images, .ref errs, .ref bitsOf, .ref sizeOf, .ref cels, .ref broken, .ref isFit, .ref breaks, .int mfit, .int known, .ref act, .ref wth, .ref facts, .ref pile, .int laid, .int hre, .int opnd, .int bad, .int usg, .ref trc, .int trcd, .int isP])), (errs, .inl (xI G, 7, .inl errs_f)), (bitsOf, .inl (xI G, 4, .inl (upd bitsOf_f si.toNatClampNeg wi))), (sizeOf, .inl (xI G, 4, .inl (upd sizeOf_f si.toNatClampNeg k))), (cels, .inl (xI G, 96, .inl v93_1))] H ∧ va_D A [(t, .inr (8, [.ref row, .ref kpt, .int images, .ref errs, .ref bitsOf, .ref sizeOf, .ref cels, .ref broken, .ref isFit, .ref breaks, .int mfit, .int known, .ref act, .ref wth, .ref facts, .ref pile, .int laid, .int hre, .int opnd, .int bad, .int usg, .ref trc, .int trcd, .int isP])), (errs, .inl (xI G, 7, .inl errs_f)), (bitsOf, .inl (xI G, 4, .inl (upd bitsOf_f si.toNatClampNeg wi))), (sizeOf, .inl (xI G, 4, .inl (upd sizeOf_f si.toNatClampNeg k))), (cels, .inl (xI G, 96, .inl v93_1))] ∧ va_S A s.heap H locs ∧ lv_has ls 5 [(0, .ref t), (1, .int si), (2, .int wi), (3, .int k), (4, .int v93_0)]) (fun N93 v93_0 v93_1 ih93 H locs ls hI hF => ?_) fuelC (0 : Int32) cels_f H locs ls ⟨hP, hD, hS, lv_sub hl [1, 2, 3, 4, 0] rfl⟩ hF
            obtain ⟨hP, hD, hS, hl⟩ := hI
            unfold B_X8_sheet_93 at hF
            refine lv_iload hx hb dX8_sheet_93 (lv_at hl 4 rfl) ?_
            refine lv_bipush (v := 24) hx hb dX8_sheet_95 (by decide) ?_
            refine lv_icmp_ge (tgt := 119) hx hb dX8_sheet_97 (by decide) (fun c97 => ?_) (fun c97 => ?_)
            · have hF := itP c97 hF
              refine lv_iconst (v := 1) hx hb dX8_sheet_119 (by decide) ?_
              obtain rfl := Option.some.inj hF
              rw [← hQ]
              exact W.iret (v := (1 : Int32)) hx hb hr (fun t ht hW => ⟨⟨_, (), rfl, ⟨rfl, rfl⟩, xLf hP ht⟩, hS.F ht⟩) hS.2.2 dX8_sheet_120
            · have hF := itN c97 hF
              refine lv_aload_n hx hb dX8_sheet_100 rfl (lv_at hl 0 rfl) ?_
              refine va_get (ci := 8) (v := .ref cels) (C := RX8) (T := TX8) (N := 24) hx hb hts (fun w h => tcons w (xin8 w h)) hown hK hP 0 rfl rfl 6 (by decide) (hts _ (tcons _ m142)) (fun _ h9 => h9) rfl dX8_sheet_101 ?_
              refine lv_bipush (v := 24) hx hb dX8_sheet_104 (by decide) ?_
              refine lv_iload_n hx hb dX8_sheet_106 rfl (lv_at hl 1 rfl) ?_
              refine lv_imul hx hb dX8_sheet_107 ?_
              refine lv_iload hx hb dX8_sheet_108 (lv_at hl 4 rfl) ?_
              refine lv_iadd hx hb dX8_sheet_110 ?_
              refine lv_iconst (v := 0) hx hb dX8_sheet_111 (by decide) ?_
              obtain ⟨g112, hF⟩ := gdS hF
              refine va_iast hx hb hK hP hD hS 4 0 rfl rfl g112 dX8_sheet_112 (fun H locs hP hD hS => ?_)
              have hP : va_P G.1 vwCl [(t, .inr (8, [.ref row, .ref kpt, .int images, .ref errs, .ref bitsOf, .ref sizeOf, .ref cels, .ref broken, .ref isFit, .ref breaks, .int mfit, .int known, .ref act, .ref wth, .ref facts, .ref pile, .int laid, .int hre, .int opnd, .int bad, .int usg, .ref trc, .int trcd, .int isP])), (errs, .inl (xI G, 7, .inl errs_f)), (bitsOf, .inl (xI G, 4, .inl (upd bitsOf_f si.toNatClampNeg wi))), (sizeOf, .inl (xI G, 4, .inl (upd sizeOf_f si.toNatClampNeg k))), (cels, .inl (xI G, 96, .inl (upd v93_1 (((24 : Int32) * si) + v93_0).toNatClampNeg (0 : Int32))))] H := hP
              have hD : va_D A [(t, .inr (8, [.ref row, .ref kpt, .int images, .ref errs, .ref bitsOf, .ref sizeOf, .ref cels, .ref broken, .ref isFit, .ref breaks, .int mfit, .int known, .ref act, .ref wth, .ref facts, .ref pile, .int laid, .int hre, .int opnd, .int bad, .int usg, .ref trc, .int trcd, .int isP])), (errs, .inl (xI G, 7, .inl errs_f)), (bitsOf, .inl (xI G, 4, .inl (upd bitsOf_f si.toNatClampNeg wi))), (sizeOf, .inl (xI G, 4, .inl (upd sizeOf_f si.toNatClampNeg k))), (cels, .inl (xI G, 96, .inl (upd v93_1 (((24 : Int32) * si) + v93_0).toNatClampNeg (0 : Int32))))] := hD
              refine lv_iinc (v := (v93_0 + (1 : Int32))) (lv' := [(4, .int (v93_0 + (1 : Int32))), (0, .ref t), (1, .int si), (2, .int wi), (3, .int k)]) hx hb dX8_sheet_113 hl (k := 4) rfl (xInc_1 _) (by decide) rfl (fun ls hl => ?_)
              refine lv_goto (tgt := 93) hx hb dX8_sheet_116 (by decide) ?_
              exact ih93 (v93_0 + (1 : Int32)) (upd v93_1 (((24 : Int32) * si) + v93_0).toNatClampNeg (0 : Int32)) H locs ls ⟨hP, hD, hS, lv_sub hl [1, 2, 3, 4, 0] rfl⟩ hF
          · have hF := itP c81 hF
            refine lv_iconst (v := 0) hx hb dX8_sheet_84 (by decide) ?_
            refine lv_goto (tgt := 89) hx hb dX8_sheet_85 (by decide) ?_
            obtain ⟨g89, hF⟩ := gdS hF
            refine va_iast hx hb hK hP hD hS 3 0 rfl rfl g89 dX8_sheet_89 (fun H locs hP hD hS => ?_)
            have hP : va_P G.1 vwCl [(t, .inr (8, [.ref row, .ref kpt, .int images, .ref errs, .ref bitsOf, .ref sizeOf, .ref cels, .ref broken, .ref isFit, .ref breaks, .int mfit, .int known, .ref act, .ref wth, .ref facts, .ref pile, .int laid, .int hre, .int opnd, .int bad, .int usg, .ref trc, .int trcd, .int isP])), (errs, .inl (xI G, 7, .inl errs_f)), (bitsOf, .inl (xI G, 4, .inl (upd bitsOf_f si.toNatClampNeg wi))), (sizeOf, .inl (xI G, 4, .inl (upd sizeOf_f si.toNatClampNeg (0 : Int32)))), (cels, .inl (xI G, 96, .inl cels_f))] H := hP
            have hD : va_D A [(t, .inr (8, [.ref row, .ref kpt, .int images, .ref errs, .ref bitsOf, .ref sizeOf, .ref cels, .ref broken, .ref isFit, .ref breaks, .int mfit, .int known, .ref act, .ref wth, .ref facts, .ref pile, .int laid, .int hre, .int opnd, .int bad, .int usg, .ref trc, .int trcd, .int isP])), (errs, .inl (xI G, 7, .inl errs_f)), (bitsOf, .inl (xI G, 4, .inl (upd bitsOf_f si.toNatClampNeg wi))), (sizeOf, .inl (xI G, 4, .inl (upd sizeOf_f si.toNatClampNeg (0 : Int32)))), (cels, .inl (xI G, 96, .inl cels_f))] := hD
            refine lv_iconst (v := 0) hx hb dX8_sheet_90 (by decide) ?_
            refine lv_istore (lv' := [(4, .int (0 : Int32)), (0, .ref t), (1, .int si), (2, .int wi), (3, .int k)]) hx hb dX8_sheet_91 hl (by decide) rfl (fun ls hl => ?_)
            refine xLoop2 (body := (B_X8_sheet_93b errs_f bitsOf_f sizeOf_f si wi)) (fun (v93_0 : Int32) (v93_1 : Nat → Int32) H locs ls => va_P G.1 vwCl [(t, .inr (8, [.ref row, .ref kpt, .int images, .ref errs, .ref bitsOf, .ref sizeOf, .ref cels, .ref broken, .ref isFit, .ref breaks, .int mfit, .int known, .ref act, .ref wth, .ref facts, .ref pile, .int laid, .int hre, .int opnd, .int bad, .int usg, .ref trc, .int trcd, .int isP])), (errs, .inl (xI G, 7, .inl errs_f)), (bitsOf, .inl (xI G, 4, .inl (upd bitsOf_f si.toNatClampNeg wi))), (sizeOf, .inl (xI G, 4, .inl (upd sizeOf_f si.toNatClampNeg (0 : Int32)))), (cels, .inl (xI G, 96, .inl v93_1))] H ∧ va_D A [(t, .inr (8, [.ref row, .ref kpt, .int images, .ref errs, .ref bitsOf, .ref sizeOf, .ref cels, .ref broken, .ref isFit, .ref breaks, .int mfit, .int known, .ref act, .ref wth, .ref facts, .ref pile, .int laid, .int hre, .int opnd, .int bad, .int usg, .ref trc, .int trcd, .int isP])), (errs, .inl (xI G, 7, .inl errs_f)), (bitsOf, .inl (xI G, 4, .inl (upd bitsOf_f si.toNatClampNeg wi))), (sizeOf, .inl (xI G, 4, .inl (upd sizeOf_f si.toNatClampNeg (0 : Int32)))), (cels, .inl (xI G, 96, .inl v93_1))] ∧ va_S A s.heap H locs ∧ lv_has ls 5 [(0, .ref t), (1, .int si), (2, .int wi), (3, .int k), (4, .int v93_0)]) (fun N93 v93_0 v93_1 ih93 H locs ls hI hF => ?_) fuelC (0 : Int32) cels_f H locs ls ⟨hP, hD, hS, lv_sub hl [1, 2, 3, 4, 0] rfl⟩ hF
            obtain ⟨hP, hD, hS, hl⟩ := hI
            unfold B_X8_sheet_93b at hF
            refine lv_iload hx hb dX8_sheet_93 (lv_at hl 4 rfl) ?_
            refine lv_bipush (v := 24) hx hb dX8_sheet_95 (by decide) ?_
            refine lv_icmp_ge (tgt := 119) hx hb dX8_sheet_97 (by decide) (fun c97 => ?_) (fun c97 => ?_)
            · have hF := itP c97 hF
              refine lv_iconst (v := 1) hx hb dX8_sheet_119 (by decide) ?_
              obtain rfl := Option.some.inj hF
              rw [← hQ]
              exact W.iret (v := (1 : Int32)) hx hb hr (fun t ht hW => ⟨⟨_, (), rfl, ⟨rfl, rfl⟩, xLf hP ht⟩, hS.F ht⟩) hS.2.2 dX8_sheet_120
            · have hF := itN c97 hF
              refine lv_aload_n hx hb dX8_sheet_100 rfl (lv_at hl 0 rfl) ?_
              refine va_get (ci := 8) (v := .ref cels) (C := RX8) (T := TX8) (N := 24) hx hb hts (fun w h => tcons w (xin8 w h)) hown hK hP 0 rfl rfl 6 (by decide) (hts _ (tcons _ m142)) (fun _ h9 => h9) rfl dX8_sheet_101 ?_
              refine lv_bipush (v := 24) hx hb dX8_sheet_104 (by decide) ?_
              refine lv_iload_n hx hb dX8_sheet_106 rfl (lv_at hl 1 rfl) ?_
              refine lv_imul hx hb dX8_sheet_107 ?_
              refine lv_iload hx hb dX8_sheet_108 (lv_at hl 4 rfl) ?_
              refine lv_iadd hx hb dX8_sheet_110 ?_
              refine lv_iconst (v := 0) hx hb dX8_sheet_111 (by decide) ?_
              obtain ⟨g112, hF⟩ := gdS hF
              refine va_iast hx hb hK hP hD hS 4 0 rfl rfl g112 dX8_sheet_112 (fun H locs hP hD hS => ?_)
              have hP : va_P G.1 vwCl [(t, .inr (8, [.ref row, .ref kpt, .int images, .ref errs, .ref bitsOf, .ref sizeOf, .ref cels, .ref broken, .ref isFit, .ref breaks, .int mfit, .int known, .ref act, .ref wth, .ref facts, .ref pile, .int laid, .int hre, .int opnd, .int bad, .int usg, .ref trc, .int trcd, .int isP])), (errs, .inl (xI G, 7, .inl errs_f)), (bitsOf, .inl (xI G, 4, .inl (upd bitsOf_f si.toNatClampNeg wi))), (sizeOf, .inl (xI G, 4, .inl (upd sizeOf_f si.toNatClampNeg (0 : Int32)))), (cels, .inl (xI G, 96, .inl (upd v93_1 (((24 : Int32) * si) + v93_0).toNatClampNeg (0 : Int32))))] H := hP
              have hD : va_D A [(t, .inr (8, [.ref row, .ref kpt, .int images, .ref errs, .ref bitsOf, .ref sizeOf, .ref cels, .ref broken, .ref isFit, .ref breaks, .int mfit, .int known, .ref act, .ref wth, .ref facts, .ref pile, .int laid, .int hre, .int opnd, .int bad, .int usg, .ref trc, .int trcd, .int isP])), (errs, .inl (xI G, 7, .inl errs_f)), (bitsOf, .inl (xI G, 4, .inl (upd bitsOf_f si.toNatClampNeg wi))), (sizeOf, .inl (xI G, 4, .inl (upd sizeOf_f si.toNatClampNeg (0 : Int32)))), (cels, .inl (xI G, 96, .inl (upd v93_1 (((24 : Int32) * si) + v93_0).toNatClampNeg (0 : Int32))))] := hD
              refine lv_iinc (v := (v93_0 + (1 : Int32))) (lv' := [(4, .int (v93_0 + (1 : Int32))), (0, .ref t), (1, .int si), (2, .int wi), (3, .int k)]) hx hb dX8_sheet_113 hl (k := 4) rfl (xInc_1 _) (by decide) rfl (fun ls hl => ?_)
              refine lv_goto (tgt := 93) hx hb dX8_sheet_116 (by decide) ?_
              exact ih93 (v93_0 + (1 : Int32)) (upd v93_1 (((24 : Int32) * si) + v93_0).toNatClampNeg (0 : Int32)) H locs ls ⟨hP, hD, hS, lv_sub hl [1, 2, 3, 4, 0] rfl⟩ hF
        · have hF := itN c52 hF
          refine lv_iload_n hx hb dX8_sheet_55 rfl (lv_at hl 3 rfl) ?_
          refine lv_bipush (v := 24) hx hb dX8_sheet_56 (by decide) ?_
          refine lv_icmp_le (tgt := 68) hx hb dX8_sheet_58 (by decide) (fun c58 => ?_) (fun c58 => ?_)
          · have hF := itP c58 hF
            refine lv_aload_n hx hb dX8_sheet_68 rfl (lv_at hl 0 rfl) ?_
            refine va_get (ci := 8) (v := .ref bitsOf) (C := RX8) (T := TX8) (N := 24) hx hb hts (fun w h => tcons w (xin8 w h)) hown hK hP 0 rfl rfl 4 (by decide) (hts _ (tcons _ m140)) (fun _ h9 => h9) rfl dX8_sheet_69 ?_
            refine lv_iload_n hx hb dX8_sheet_72 rfl (lv_at hl 1 rfl) ?_
            refine lv_iload_n hx hb dX8_sheet_73 rfl (lv_at hl 2 rfl) ?_
            obtain ⟨g74, hF⟩ := gdS hF
            refine va_iast hx hb hK hP hD hS 2 0 rfl rfl g74 dX8_sheet_74 (fun H locs hP hD hS => ?_)
            have hP : va_P G.1 vwCl [(t, .inr (8, [.ref row, .ref kpt, .int images, .ref errs, .ref bitsOf, .ref sizeOf, .ref cels, .ref broken, .ref isFit, .ref breaks, .int mfit, .int known, .ref act, .ref wth, .ref facts, .ref pile, .int laid, .int hre, .int opnd, .int bad, .int usg, .ref trc, .int trcd, .int isP])), (errs, .inl (xI G, 7, .inl errs_f)), (bitsOf, .inl (xI G, 4, .inl (upd bitsOf_f si.toNatClampNeg wi))), (sizeOf, .inl (xI G, 4, .inl sizeOf_f)), (cels, .inl (xI G, 96, .inl cels_f))] H := hP
            have hD : va_D A [(t, .inr (8, [.ref row, .ref kpt, .int images, .ref errs, .ref bitsOf, .ref sizeOf, .ref cels, .ref broken, .ref isFit, .ref breaks, .int mfit, .int known, .ref act, .ref wth, .ref facts, .ref pile, .int laid, .int hre, .int opnd, .int bad, .int usg, .ref trc, .int trcd, .int isP])), (errs, .inl (xI G, 7, .inl errs_f)), (bitsOf, .inl (xI G, 4, .inl (upd bitsOf_f si.toNatClampNeg wi))), (sizeOf, .inl (xI G, 4, .inl sizeOf_f)), (cels, .inl (xI G, 96, .inl cels_f))] := hD
            refine lv_aload_n hx hb dX8_sheet_75 rfl (lv_at hl 0 rfl) ?_
            refine va_get (ci := 8) (v := .ref sizeOf) (C := RX8) (T := TX8) (N := 24) hx hb hts (fun w h => tcons w (xin8 w h)) hown hK hP 0 rfl rfl 5 (by decide) (hts _ (tcons _ m141)) (fun _ h9 => h9) rfl dX8_sheet_76 ?_
            refine lv_iload_n hx hb dX8_sheet_79 rfl (lv_at hl 1 rfl) ?_
            refine lv_iload_n hx hb dX8_sheet_80 rfl (lv_at hl 2 rfl) ?_
            refine lv_if_ne (tgt := 88) hx hb dX8_sheet_81 (by decide) (fun c81 => ?_) (fun c81 => ?_)
            · have hF := itN c81 hF
              refine lv_iload_n hx hb dX8_sheet_88 rfl (lv_at hl 3 rfl) ?_
              obtain ⟨g89, hF⟩ := gdS hF
              refine va_iast hx hb hK hP hD hS 3 0 rfl rfl g89 dX8_sheet_89 (fun H locs hP hD hS => ?_)
              have hP : va_P G.1 vwCl [(t, .inr (8, [.ref row, .ref kpt, .int images, .ref errs, .ref bitsOf, .ref sizeOf, .ref cels, .ref broken, .ref isFit, .ref breaks, .int mfit, .int known, .ref act, .ref wth, .ref facts, .ref pile, .int laid, .int hre, .int opnd, .int bad, .int usg, .ref trc, .int trcd, .int isP])), (errs, .inl (xI G, 7, .inl errs_f)), (bitsOf, .inl (xI G, 4, .inl (upd bitsOf_f si.toNatClampNeg wi))), (sizeOf, .inl (xI G, 4, .inl (upd sizeOf_f si.toNatClampNeg k))), (cels, .inl (xI G, 96, .inl cels_f))] H := hP
              have hD : va_D A [(t, .inr (8, [.ref row, .ref kpt, .int images, .ref errs, .ref bitsOf, .ref sizeOf, .ref cels, .ref broken, .ref isFit, .ref breaks, .int mfit, .int known, .ref act, .ref wth, .ref facts, .ref pile, .int laid, .int hre, .int opnd, .int bad, .int usg, .ref trc, .int trcd, .int isP])), (errs, .inl (xI G, 7, .inl errs_f)), (bitsOf, .inl (xI G, 4, .inl (upd bitsOf_f si.toNatClampNeg wi))), (sizeOf, .inl (xI G, 4, .inl (upd sizeOf_f si.toNatClampNeg k))), (cels, .inl (xI G, 96, .inl cels_f))] := hD
              refine lv_iconst (v := 0) hx hb dX8_sheet_90 (by decide) ?_
              refine lv_istore (lv' := [(4, .int (0 : Int32)), (0, .ref t), (1, .int si), (2, .int wi), (3, .int k)]) hx hb dX8_sheet_91 hl (by decide) rfl (fun ls hl => ?_)
              refine xLoop2 (body := (B_X8_sheet_93 errs_f bitsOf_f sizeOf_f si wi k)) (fun (v93_0 : Int32) (v93_1 : Nat → Int32) H locs ls => va_P G.1 vwCl [(t, .inr (8, [.ref row, .ref kpt, .int images, .ref errs, .ref bitsOf, .ref sizeOf, .ref cels, .ref broken, .ref isFit, .ref breaks, .int mfit, .int known, .ref act, .ref wth, .ref facts, .ref pile, .int laid, .int hre, .int opnd, .int bad, .int usg, .ref trc, .int trcd, .int isP])), (errs, .inl (xI G, 7, .inl errs_f)), (bitsOf, .inl (xI G, 4, .inl (upd bitsOf_f si.toNatClampNeg wi))), (sizeOf, .inl (xI G, 4, .inl (upd sizeOf_f si.toNatClampNeg k))), (cels, .inl (xI G, 96, .inl v93_1))] H ∧ va_D A [(t, .inr (8, [.ref row, .ref kpt, .int images, .ref errs, .ref bitsOf, .ref sizeOf, .ref cels, .ref broken, .ref isFit, .ref breaks, .int mfit, .int known, .ref act, .ref wth, .ref facts, .ref pile, .int laid, .int hre, .int opnd, .int bad, .int usg, .ref trc, .int trcd, .int isP])), (errs, .inl (xI G, 7, .inl errs_f)), (bitsOf, .inl (xI G, 4, .inl (upd bitsOf_f si.toNatClampNeg wi))), (sizeOf, .inl (xI G, 4, .inl (upd sizeOf_f si.toNatClampNeg k))), (cels, .inl (xI G, 96, .inl v93_1))] ∧ va_S A s.heap H locs ∧ lv_has ls 5 [(0, .ref t), (1, .int si), (2, .int wi), (3, .int k), (4, .int v93_0)]) (fun N93 v93_0 v93_1 ih93 H locs ls hI hF => ?_) fuelC (0 : Int32) cels_f H locs ls ⟨hP, hD, hS, lv_sub hl [1, 2, 3, 4, 0] rfl⟩ hF
              obtain ⟨hP, hD, hS, hl⟩ := hI
              unfold B_X8_sheet_93 at hF
              refine lv_iload hx hb dX8_sheet_93 (lv_at hl 4 rfl) ?_
              refine lv_bipush (v := 24) hx hb dX8_sheet_95 (by decide) ?_
              refine lv_icmp_ge (tgt := 119) hx hb dX8_sheet_97 (by decide) (fun c97 => ?_) (fun c97 => ?_)
              · have hF := itP c97 hF
                refine lv_iconst (v := 1) hx hb dX8_sheet_119 (by decide) ?_
                obtain rfl := Option.some.inj hF
                rw [← hQ]
                exact W.iret (v := (1 : Int32)) hx hb hr (fun t ht hW => ⟨⟨_, (), rfl, ⟨rfl, rfl⟩, xLf hP ht⟩, hS.F ht⟩) hS.2.2 dX8_sheet_120
              · have hF := itN c97 hF
                refine lv_aload_n hx hb dX8_sheet_100 rfl (lv_at hl 0 rfl) ?_
                refine va_get (ci := 8) (v := .ref cels) (C := RX8) (T := TX8) (N := 24) hx hb hts (fun w h => tcons w (xin8 w h)) hown hK hP 0 rfl rfl 6 (by decide) (hts _ (tcons _ m142)) (fun _ h9 => h9) rfl dX8_sheet_101 ?_
                refine lv_bipush (v := 24) hx hb dX8_sheet_104 (by decide) ?_
                refine lv_iload_n hx hb dX8_sheet_106 rfl (lv_at hl 1 rfl) ?_
                refine lv_imul hx hb dX8_sheet_107 ?_
                refine lv_iload hx hb dX8_sheet_108 (lv_at hl 4 rfl) ?_
                refine lv_iadd hx hb dX8_sheet_110 ?_
                refine lv_iconst (v := 0) hx hb dX8_sheet_111 (by decide) ?_
                obtain ⟨g112, hF⟩ := gdS hF
                refine va_iast hx hb hK hP hD hS 4 0 rfl rfl g112 dX8_sheet_112 (fun H locs hP hD hS => ?_)
                have hP : va_P G.1 vwCl [(t, .inr (8, [.ref row, .ref kpt, .int images, .ref errs, .ref bitsOf, .ref sizeOf, .ref cels, .ref broken, .ref isFit, .ref breaks, .int mfit, .int known, .ref act, .ref wth, .ref facts, .ref pile, .int laid, .int hre, .int opnd, .int bad, .int usg, .ref trc, .int trcd, .int isP])), (errs, .inl (xI G, 7, .inl errs_f)), (bitsOf, .inl (xI G, 4, .inl (upd bitsOf_f si.toNatClampNeg wi))), (sizeOf, .inl (xI G, 4, .inl (upd sizeOf_f si.toNatClampNeg k))), (cels, .inl (xI G, 96, .inl (upd v93_1 (((24 : Int32) * si) + v93_0).toNatClampNeg (0 : Int32))))] H := hP
                have hD : va_D A [(t, .inr (8, [.ref row, .ref kpt, .int images, .ref errs, .ref bitsOf, .ref sizeOf, .ref cels, .ref broken, .ref isFit, .ref breaks, .int mfit, .int known, .ref act, .ref wth, .ref facts, .ref pile, .int laid, .int hre, .int opnd, .int bad, .int usg, .ref trc, .int trcd, .int isP])), (errs, .inl (xI G, 7, .inl errs_f)), (bitsOf, .inl (xI G, 4, .inl (upd bitsOf_f si.toNatClampNeg wi))), (sizeOf, .inl (xI G, 4, .inl (upd sizeOf_f si.toNatClampNeg k))), (cels, .inl (xI G, 96, .inl (upd v93_1 (((24 : Int32) * si) + v93_0).toNatClampNeg (0 : Int32))))] := hD
                refine lv_iinc (v := (v93_0 + (1 : Int32))) (lv' := [(4, .int (v93_0 + (1 : Int32))), (0, .ref t), (1, .int si), (2, .int wi), (3, .int k)]) hx hb dX8_sheet_113 hl (k := 4) rfl (xInc_1 _) (by decide) rfl (fun ls hl => ?_)
                refine lv_goto (tgt := 93) hx hb dX8_sheet_116 (by decide) ?_
                exact ih93 (v93_0 + (1 : Int32)) (upd v93_1 (((24 : Int32) * si) + v93_0).toNatClampNeg (0 : Int32)) H locs ls ⟨hP, hD, hS, lv_sub hl [1, 2, 3, 4, 0] rfl⟩ hF
            · have hF := itP c81 hF
              refine lv_iconst (v := 0) hx hb dX8_sheet_84 (by decide) ?_
              refine lv_goto (tgt := 89) hx hb dX8_sheet_85 (by decide) ?_
              obtain ⟨g89, hF⟩ := gdS hF
              refine va_iast hx hb hK hP hD hS 3 0 rfl rfl g89 dX8_sheet_89 (fun H locs hP hD hS => ?_)
              have hP : va_P G.1 vwCl [(t, .inr (8, [.ref row, .ref kpt, .int images, .ref errs, .ref bitsOf, .ref sizeOf, .ref cels, .ref broken, .ref isFit, .ref breaks, .int mfit, .int known, .ref act, .ref wth, .ref facts, .ref pile, .int laid, .int hre, .int opnd, .int bad, .int usg, .ref trc, .int trcd, .int isP])), (errs, .inl (xI G, 7, .inl errs_f)), (bitsOf, .inl (xI G, 4, .inl (upd bitsOf_f si.toNatClampNeg wi))), (sizeOf, .inl (xI G, 4, .inl (upd sizeOf_f si.toNatClampNeg (0 : Int32)))), (cels, .inl (xI G, 96, .inl cels_f))] H := hP
              have hD : va_D A [(t, .inr (8, [.ref row, .ref kpt, .int images, .ref errs, .ref bitsOf, .ref sizeOf, .ref cels, .ref broken, .ref isFit, .ref breaks, .int mfit, .int known, .ref act, .ref wth, .ref facts, .ref pile, .int laid, .int hre, .int opnd, .int bad, .int usg, .ref trc, .int trcd, .int isP])), (errs, .inl (xI G, 7, .inl errs_f)), (bitsOf, .inl (xI G, 4, .inl (upd bitsOf_f si.toNatClampNeg wi))), (sizeOf, .inl (xI G, 4, .inl (upd sizeOf_f si.toNatClampNeg (0 : Int32)))), (cels, .inl (xI G, 96, .inl cels_f))] := hD
              refine lv_iconst (v := 0) hx hb dX8_sheet_90 (by decide) ?_
              refine lv_istore (lv' := [(4, .int (0 : Int32)), (0, .ref t), (1, .int si), (2, .int wi), (3, .int k)]) hx hb dX8_sheet_91 hl (by decide) rfl (fun ls hl => ?_)
              refine xLoop2 (body := (B_X8_sheet_93bb errs_f bitsOf_f sizeOf_f si wi)) (fun (v93_0 : Int32) (v93_1 : Nat → Int32) H locs ls => va_P G.1 vwCl [(t, .inr (8, [.ref row, .ref kpt, .int images, .ref errs, .ref bitsOf, .ref sizeOf, .ref cels, .ref broken, .ref isFit, .ref breaks, .int mfit, .int known, .ref act, .ref wth, .ref facts, .ref pile, .int laid, .int hre, .int opnd, .int bad, .int usg, .ref trc, .int trcd, .int isP])), (errs, .inl (xI G, 7, .inl errs_f)), (bitsOf, .inl (xI G, 4, .inl (upd bitsOf_f si.toNatClampNeg wi))), (sizeOf, .inl (xI G, 4, .inl (upd sizeOf_f si.toNatClampNeg (0 : Int32)))), (cels, .inl (xI G, 96, .inl v93_1))] H ∧ va_D A [(t, .inr (8, [.ref row, .ref kpt, .int images, .ref errs, .ref bitsOf, .ref sizeOf, .ref cels, .ref broken, .ref isFit, .ref breaks, .int mfit, .int known, .ref act, .ref wth, .ref facts, .ref pile, .int laid, .int hre, .int opnd, .int bad, .int usg, .ref trc, .int trcd, .int isP])), (errs, .inl (xI G, 7, .inl errs_f)), (bitsOf, .inl (xI G, 4, .inl (upd bitsOf_f si.toNatClampNeg wi))), (sizeOf, .inl (xI G, 4, .inl (upd sizeOf_f si.toNatClampNeg (0 : Int32)))), (cels, .inl (xI G, 96, .inl v93_1))] ∧ va_S A s.heap H locs ∧ lv_has ls 5 [(0, .ref t), (1, .int si), (2, .int wi), (3, .int k), (4, .int v93_0)]) (fun N93 v93_0 v93_1 ih93 H locs ls hI hF => ?_) fuelC (0 : Int32) cels_f H locs ls ⟨hP, hD, hS, lv_sub hl [1, 2, 3, 4, 0] rfl⟩ hF
              obtain ⟨hP, hD, hS, hl⟩ := hI
              unfold B_X8_sheet_93bb at hF
              refine lv_iload hx hb dX8_sheet_93 (lv_at hl 4 rfl) ?_
              refine lv_bipush (v := 24) hx hb dX8_sheet_95 (by decide) ?_
              refine lv_icmp_ge (tgt := 119) hx hb dX8_sheet_97 (by decide) (fun c97 => ?_) (fun c97 => ?_)
              · have hF := itP c97 hF
                refine lv_iconst (v := 1) hx hb dX8_sheet_119 (by decide) ?_
                obtain rfl := Option.some.inj hF
                rw [← hQ]
                exact W.iret (v := (1 : Int32)) hx hb hr (fun t ht hW => ⟨⟨_, (), rfl, ⟨rfl, rfl⟩, xLf hP ht⟩, hS.F ht⟩) hS.2.2 dX8_sheet_120
              · have hF := itN c97 hF
                refine lv_aload_n hx hb dX8_sheet_100 rfl (lv_at hl 0 rfl) ?_
                refine va_get (ci := 8) (v := .ref cels) (C := RX8) (T := TX8) (N := 24) hx hb hts (fun w h => tcons w (xin8 w h)) hown hK hP 0 rfl rfl 6 (by decide) (hts _ (tcons _ m142)) (fun _ h9 => h9) rfl dX8_sheet_101 ?_
                refine lv_bipush (v := 24) hx hb dX8_sheet_104 (by decide) ?_
                refine lv_iload_n hx hb dX8_sheet_106 rfl (lv_at hl 1 rfl) ?_
                refine lv_imul hx hb dX8_sheet_107 ?_
                refine lv_iload hx hb dX8_sheet_108 (lv_at hl 4 rfl) ?_
                refine lv_iadd hx hb dX8_sheet_110 ?_
                refine lv_iconst (v := 0) hx hb dX8_sheet_111 (by decide) ?_
                obtain ⟨g112, hF⟩ := gdS hF
                refine va_iast hx hb hK hP hD hS 4 0 rfl rfl g112 dX8_sheet_112 (fun H locs hP hD hS => ?_)
                have hP : va_P G.1 vwCl [(t, .inr (8, [.ref row, .ref kpt, .int images, .ref errs, .ref bitsOf, .ref sizeOf, .ref cels, .ref broken, .ref isFit, .ref breaks, .int mfit, .int known, .ref act, .ref wth, .ref facts, .ref pile, .int laid, .int hre, .int opnd, .int bad, .int usg, .ref trc, .int trcd, .int isP])), (errs, .inl (xI G, 7, .inl errs_f)), (bitsOf, .inl (xI G, 4, .inl (upd bitsOf_f si.toNatClampNeg wi))), (sizeOf, .inl (xI G, 4, .inl (upd sizeOf_f si.toNatClampNeg (0 : Int32)))), (cels, .inl (xI G, 96, .inl (upd v93_1 (((24 : Int32) * si) + v93_0).toNatClampNeg (0 : Int32))))] H := hP
                have hD : va_D A [(t, .inr (8, [.ref row, .ref kpt, .int images, .ref errs, .ref bitsOf, .ref sizeOf, .ref cels, .ref broken, .ref isFit, .ref breaks, .int mfit, .int known, .ref act, .ref wth, .ref facts, .ref pile, .int laid, .int hre, .int opnd, .int bad, .int usg, .ref trc, .int trcd, .int isP])), (errs, .inl (xI G, 7, .inl errs_f)), (bitsOf, .inl (xI G, 4, .inl (upd bitsOf_f si.toNatClampNeg wi))), (sizeOf, .inl (xI G, 4, .inl (upd sizeOf_f si.toNatClampNeg (0 : Int32)))), (cels, .inl (xI G, 96, .inl (upd v93_1 (((24 : Int32) * si) + v93_0).toNatClampNeg (0 : Int32))))] := hD
                refine lv_iinc (v := (v93_0 + (1 : Int32))) (lv' := [(4, .int (v93_0 + (1 : Int32))), (0, .ref t), (1, .int si), (2, .int wi), (3, .int k)]) hx hb dX8_sheet_113 hl (k := 4) rfl (xInc_1 _) (by decide) rfl (fun ls hl => ?_)
                refine lv_goto (tgt := 93) hx hb dX8_sheet_116 (by decide) ?_
                exact ih93 (v93_0 + (1 : Int32)) (upd v93_1 (((24 : Int32) * si) + v93_0).toNatClampNeg (0 : Int32)) H locs ls ⟨hP, hD, hS, lv_sub hl [1, 2, 3, 4, 0] rfl⟩ hF
          · have hF := itN c58 hF
            refine lv_aload_n hx hb dX8_sheet_61 rfl (lv_at hl 0 rfl) ?_
            refine lv_ldc (v := -1000000001) hx hb hown (hts _ (tcons _ m185)) dX8_sheet_62 ?_
            obtain ⟨u2, e2, hF⟩ := bdS hF
            refine xEndI (xRunV (As := [.int (-1000000001 : Int32)]) (rest := []) hZ (c_X8_error G t row kpt errs bitsOf sizeOf cels broken isFit breaks act wth facts pile trc images mfit known laid hre opnd bad usg trcd isP errs_f (-1000000001 : Int32) u2 e2 l H.size) m193 m194 m195 m5 m196 1 ⟨rfl, hdX8_error⟩ ⟨Nat.le_of_ble_eq_true rfl, Nat.le_of_ble_eq_true rfl⟩ ⟨rfl, rfl⟩ hP hD hS 0 8 rfl rfl rfl [0, 1] rfl rfl rfl hl.1 rfl (Nat.le_of_ble_eq_true rfl) dX8_sheet_64 ⟨Nat.zero_le _, Nat.zero_le _⟩) hP hD hS hA [0, 1] rfl rfl rfl (fun H locs n2 hP hD hS => ?_)
            have hP : va_P G.1 vwCl [(t, .inr (8, [.ref row, .ref kpt, .int images, .ref errs, .ref bitsOf, .ref sizeOf, .ref cels, .ref broken, .ref isFit, .ref breaks, .int mfit, .int known, .ref act, .ref wth, .ref facts, .ref pile, .int laid, .int hre, .int opnd, .int bad, .int usg, .ref trc, .int trcd, .int isP])), (errs, .inl (xI G, 7, .inl u2.2)), (bitsOf, .inl (xI G, 4, .inl bitsOf_f)), (sizeOf, .inl (xI G, 4, .inl sizeOf_f)), (cels, .inl (xI G, 96, .inl cels_f))] H := hP
            have hD : va_D A [(t, .inr (8, [.ref row, .ref kpt, .int images, .ref errs, .ref bitsOf, .ref sizeOf, .ref cels, .ref broken, .ref isFit, .ref breaks, .int mfit, .int known, .ref act, .ref wth, .ref facts, .ref pile, .int laid, .int hre, .int opnd, .int bad, .int usg, .ref trc, .int trcd, .int isP])), (errs, .inl (xI G, 7, .inl u2.2)), (bitsOf, .inl (xI G, 4, .inl bitsOf_f)), (sizeOf, .inl (xI G, 4, .inl sizeOf_f)), (cels, .inl (xI G, 96, .inl cels_f))] := hD
            obtain rfl := Option.some.inj hF
            rw [← hQ]
            exact W.iret (v := u2.1) hx hb hr (fun t ht hW => ⟨⟨_, (), rfl, ⟨rfl, rfl⟩, xLf hP ht⟩, hS.F ht⟩) hS.2.2 dX8_sheet_67
      · have hF := itN c37 hF
        refine lv_iload_n hx hb dX8_sheet_40 rfl (lv_at hl 3 rfl) ?_
        refine lv_if_ge (tgt := 51) hx hb dX8_sheet_41 (by decide) (fun c41 => ?_) (fun c41 => ?_)
        · have hF := itP c41 hF
          refine lv_iload_n hx hb dX8_sheet_51 rfl (lv_at hl 2 rfl) ?_
          refine lv_if_le (tgt := 68) hx hb dX8_sheet_52 (by decide) (fun c52 => ?_) (fun c52 => ?_)
          · have hF := itP c52 hF
            refine lv_aload_n hx hb dX8_sheet_68 rfl (lv_at hl 0 rfl) ?_
            refine va_get (ci := 8) (v := .ref bitsOf) (C := RX8) (T := TX8) (N := 24) hx hb hts (fun w h => tcons w (xin8 w h)) hown hK hP 0 rfl rfl 4 (by decide) (hts _ (tcons _ m140)) (fun _ h9 => h9) rfl dX8_sheet_69 ?_
            refine lv_iload_n hx hb dX8_sheet_72 rfl (lv_at hl 1 rfl) ?_
            refine lv_iload_n hx hb dX8_sheet_73 rfl (lv_at hl 2 rfl) ?_
            obtain ⟨g74, hF⟩ := gdS hF
            refine va_iast hx hb hK hP hD hS 2 0 rfl rfl g74 dX8_sheet_74 (fun H locs hP hD hS => ?_)
            have hP : va_P G.1 vwCl [(t, .inr (8, [.ref row, .ref kpt, .int images, .ref errs, .ref bitsOf, .ref sizeOf, .ref cels, .ref broken, .ref isFit, .ref breaks, .int mfit, .int known, .ref act, .ref wth, .ref facts, .ref pile, .int laid, .int hre, .int opnd, .int bad, .int usg, .ref trc, .int trcd, .int isP])), (errs, .inl (xI G, 7, .inl errs_f)), (bitsOf, .inl (xI G, 4, .inl (upd bitsOf_f si.toNatClampNeg wi))), (sizeOf, .inl (xI G, 4, .inl sizeOf_f)), (cels, .inl (xI G, 96, .inl cels_f))] H := hP
            have hD : va_D A [(t, .inr (8, [.ref row, .ref kpt, .int images, .ref errs, .ref bitsOf, .ref sizeOf, .ref cels, .ref broken, .ref isFit, .ref breaks, .int mfit, .int known, .ref act, .ref wth, .ref facts, .ref pile, .int laid, .int hre, .int opnd, .int bad, .int usg, .ref trc, .int trcd, .int isP])), (errs, .inl (xI G, 7, .inl errs_f)), (bitsOf, .inl (xI G, 4, .inl (upd bitsOf_f si.toNatClampNeg wi))), (sizeOf, .inl (xI G, 4, .inl sizeOf_f)), (cels, .inl (xI G, 96, .inl cels_f))] := hD
            refine lv_aload_n hx hb dX8_sheet_75 rfl (lv_at hl 0 rfl) ?_
            refine va_get (ci := 8) (v := .ref sizeOf) (C := RX8) (T := TX8) (N := 24) hx hb hts (fun w h => tcons w (xin8 w h)) hown hK hP 0 rfl rfl 5 (by decide) (hts _ (tcons _ m141)) (fun _ h9 => h9) rfl dX8_sheet_76 ?_
            refine lv_iload_n hx hb dX8_sheet_79 rfl (lv_at hl 1 rfl) ?_
            refine lv_iload_n hx hb dX8_sheet_80 rfl (lv_at hl 2 rfl) ?_
            refine lv_if_ne (tgt := 88) hx hb dX8_sheet_81 (by decide) (fun c81 => ?_) (fun c81 => ?_)
            · have hF := itN c81 hF
              refine lv_iload_n hx hb dX8_sheet_88 rfl (lv_at hl 3 rfl) ?_
              obtain ⟨g89, hF⟩ := gdS hF
              refine va_iast hx hb hK hP hD hS 3 0 rfl rfl g89 dX8_sheet_89 (fun H locs hP hD hS => ?_)
              have hP : va_P G.1 vwCl [(t, .inr (8, [.ref row, .ref kpt, .int images, .ref errs, .ref bitsOf, .ref sizeOf, .ref cels, .ref broken, .ref isFit, .ref breaks, .int mfit, .int known, .ref act, .ref wth, .ref facts, .ref pile, .int laid, .int hre, .int opnd, .int bad, .int usg, .ref trc, .int trcd, .int isP])), (errs, .inl (xI G, 7, .inl errs_f)), (bitsOf, .inl (xI G, 4, .inl (upd bitsOf_f si.toNatClampNeg wi))), (sizeOf, .inl (xI G, 4, .inl (upd sizeOf_f si.toNatClampNeg k))), (cels, .inl (xI G, 96, .inl cels_f))] H := hP
              have hD : va_D A [(t, .inr (8, [.ref row, .ref kpt, .int images, .ref errs, .ref bitsOf, .ref sizeOf, .ref cels, .ref broken, .ref isFit, .ref breaks, .int mfit, .int known, .ref act, .ref wth, .ref facts, .ref pile, .int laid, .int hre, .int opnd, .int bad, .int usg, .ref trc, .int trcd, .int isP])), (errs, .inl (xI G, 7, .inl errs_f)), (bitsOf, .inl (xI G, 4, .inl (upd bitsOf_f si.toNatClampNeg wi))), (sizeOf, .inl (xI G, 4, .inl (upd sizeOf_f si.toNatClampNeg k))), (cels, .inl (xI G, 96, .inl cels_f))] := hD
              refine lv_iconst (v := 0) hx hb dX8_sheet_90 (by decide) ?_
              refine lv_istore (lv' := [(4, .int (0 : Int32)), (0, .ref t), (1, .int si), (2, .int wi), (3, .int k)]) hx hb dX8_sheet_91 hl (by decide) rfl (fun ls hl => ?_)
              refine xLoop2 (body := (B_X8_sheet_93 errs_f bitsOf_f sizeOf_f si wi k)) (fun (v93_0 : Int32) (v93_1 : Nat → Int32) H locs ls => va_P G.1 vwCl [(t, .inr (8, [.ref row, .ref kpt, .int images, .ref errs, .ref bitsOf, .ref sizeOf, .ref cels, .ref broken, .ref isFit, .ref breaks, .int mfit, .int known, .ref act, .ref wth, .ref facts, .ref pile, .int laid, .int hre, .int opnd, .int bad, .int usg, .ref trc, .int trcd, .int isP])), (errs, .inl (xI G, 7, .inl errs_f)), (bitsOf, .inl (xI G, 4, .inl (upd bitsOf_f si.toNatClampNeg wi))), (sizeOf, .inl (xI G, 4, .inl (upd sizeOf_f si.toNatClampNeg k))), (cels, .inl (xI G, 96, .inl v93_1))] H ∧ va_D A [(t, .inr (8, [.ref row, .ref kpt, .int images, .ref errs, .ref bitsOf, .ref sizeOf, .ref cels, .ref broken, .ref isFit, .ref breaks, .int mfit, .int known, .ref act, .ref wth, .ref facts, .ref pile, .int laid, .int hre, .int opnd, .int bad, .int usg, .ref trc, .int trcd, .int isP])), (errs, .inl (xI G, 7, .inl errs_f)), (bitsOf, .inl (xI G, 4, .inl (upd bitsOf_f si.toNatClampNeg wi))), (sizeOf, .inl (xI G, 4, .inl (upd sizeOf_f si.toNatClampNeg k))), (cels, .inl (xI G, 96, .inl v93_1))] ∧ va_S A s.heap H locs ∧ lv_has ls 5 [(0, .ref t), (1, .int si), (2, .int wi), (3, .int k), (4, .int v93_0)]) (fun N93 v93_0 v93_1 ih93 H locs ls hI hF => ?_) fuelC (0 : Int32) cels_f H locs ls ⟨hP, hD, hS, lv_sub hl [1, 2, 3, 4, 0] rfl⟩ hF
              obtain ⟨hP, hD, hS, hl⟩ := hI
              unfold B_X8_sheet_93 at hF
              refine lv_iload hx hb dX8_sheet_93 (lv_at hl 4 rfl) ?_
              refine lv_bipush (v := 24) hx hb dX8_sheet_95 (by decide) ?_
              refine lv_icmp_ge (tgt := 119) hx hb dX8_sheet_97 (by decide) (fun c97 => ?_) (fun c97 => ?_)
              · have hF := itP c97 hF
                refine lv_iconst (v := 1) hx hb dX8_sheet_119 (by decide) ?_
                obtain rfl := Option.some.inj hF
                rw [← hQ]
                exact W.iret (v := (1 : Int32)) hx hb hr (fun t ht hW => ⟨⟨_, (), rfl, ⟨rfl, rfl⟩, xLf hP ht⟩, hS.F ht⟩) hS.2.2 dX8_sheet_120
              · have hF := itN c97 hF
                refine lv_aload_n hx hb dX8_sheet_100 rfl (lv_at hl 0 rfl) ?_
                refine va_get (ci := 8) (v := .ref cels) (C := RX8) (T := TX8) (N := 24) hx hb hts (fun w h => tcons w (xin8 w h)) hown hK hP 0 rfl rfl 6 (by decide) (hts _ (tcons _ m142)) (fun _ h9 => h9) rfl dX8_sheet_101 ?_
                refine lv_bipush (v := 24) hx hb dX8_sheet_104 (by decide) ?_
                refine lv_iload_n hx hb dX8_sheet_106 rfl (lv_at hl 1 rfl) ?_
                refine lv_imul hx hb dX8_sheet_107 ?_
                refine lv_iload hx hb dX8_sheet_108 (lv_at hl 4 rfl) ?_
                refine lv_iadd hx hb dX8_sheet_110 ?_
                refine lv_iconst (v := 0) hx hb dX8_sheet_111 (by decide) ?_
                obtain ⟨g112, hF⟩ := gdS hF
                refine va_iast hx hb hK hP hD hS 4 0 rfl rfl g112 dX8_sheet_112 (fun H locs hP hD hS => ?_)
                have hP : va_P G.1 vwCl [(t, .inr (8, [.ref row, .ref kpt, .int images, .ref errs, .ref bitsOf, .ref sizeOf, .ref cels, .ref broken, .ref isFit, .ref breaks, .int mfit, .int known, .ref act, .ref wth, .ref facts, .ref pile, .int laid, .int hre, .int opnd, .int bad, .int usg, .ref trc, .int trcd, .int isP])), (errs, .inl (xI G, 7, .inl errs_f)), (bitsOf, .inl (xI G, 4, .inl (upd bitsOf_f si.toNatClampNeg wi))), (sizeOf, .inl (xI G, 4, .inl (upd sizeOf_f si.toNatClampNeg k))), (cels, .inl (xI G, 96, .inl (upd v93_1 (((24 : Int32) * si) + v93_0).toNatClampNeg (0 : Int32))))] H := hP
                have hD : va_D A [(t, .inr (8, [.ref row, .ref kpt, .int images, .ref errs, .ref bitsOf, .ref sizeOf, .ref cels, .ref broken, .ref isFit, .ref breaks, .int mfit, .int known, .ref act, .ref wth, .ref facts, .ref pile, .int laid, .int hre, .int opnd, .int bad, .int usg, .ref trc, .int trcd, .int isP])), (errs, .inl (xI G, 7, .inl errs_f)), (bitsOf, .inl (xI G, 4, .inl (upd bitsOf_f si.toNatClampNeg wi))), (sizeOf, .inl (xI G, 4, .inl (upd sizeOf_f si.toNatClampNeg k))), (cels, .inl (xI G, 96, .inl (upd v93_1 (((24 : Int32) * si) + v93_0).toNatClampNeg (0 : Int32))))] := hD
                refine lv_iinc (v := (v93_0 + (1 : Int32))) (lv' := [(4, .int (v93_0 + (1 : Int32))), (0, .ref t), (1, .int si), (2, .int wi), (3, .int k)]) hx hb dX8_sheet_113 hl (k := 4) rfl (xInc_1 _) (by decide) rfl (fun ls hl => ?_)
                refine lv_goto (tgt := 93) hx hb dX8_sheet_116 (by decide) ?_
                exact ih93 (v93_0 + (1 : Int32)) (upd v93_1 (((24 : Int32) * si) + v93_0).toNatClampNeg (0 : Int32)) H locs ls ⟨hP, hD, hS, lv_sub hl [1, 2, 3, 4, 0] rfl⟩ hF
            · have hF := itP c81 hF
              refine lv_iconst (v := 0) hx hb dX8_sheet_84 (by decide) ?_
              refine lv_goto (tgt := 89) hx hb dX8_sheet_85 (by decide) ?_
              obtain ⟨g89, hF⟩ := gdS hF
              refine va_iast hx hb hK hP hD hS 3 0 rfl rfl g89 dX8_sheet_89 (fun H locs hP hD hS => ?_)
              have hP : va_P G.1 vwCl [(t, .inr (8, [.ref row, .ref kpt, .int images, .ref errs, .ref bitsOf, .ref sizeOf, .ref cels, .ref broken, .ref isFit, .ref breaks, .int mfit, .int known, .ref act, .ref wth, .ref facts, .ref pile, .int laid, .int hre, .int opnd, .int bad, .int usg, .ref trc, .int trcd, .int isP])), (errs, .inl (xI G, 7, .inl errs_f)), (bitsOf, .inl (xI G, 4, .inl (upd bitsOf_f si.toNatClampNeg wi))), (sizeOf, .inl (xI G, 4, .inl (upd sizeOf_f si.toNatClampNeg (0 : Int32)))), (cels, .inl (xI G, 96, .inl cels_f))] H := hP
              have hD : va_D A [(t, .inr (8, [.ref row, .ref kpt, .int images, .ref errs, .ref bitsOf, .ref sizeOf, .ref cels, .ref broken, .ref isFit, .ref breaks, .int mfit, .int known, .ref act, .ref wth, .ref facts, .ref pile, .int laid, .int hre, .int opnd, .int bad, .int usg, .ref trc, .int trcd, .int isP])), (errs, .inl (xI G, 7, .inl errs_f)), (bitsOf, .inl (xI G, 4, .inl (upd bitsOf_f si.toNatClampNeg wi))), (sizeOf, .inl (xI G, 4, .inl (upd sizeOf_f si.toNatClampNeg (0 : Int32)))), (cels, .inl (xI G, 96, .inl cels_f))] := hD
              refine lv_iconst (v := 0) hx hb dX8_sheet_90 (by decide) ?_
              refine lv_istore (lv' := [(4, .int (0 : Int32)), (0, .ref t), (1, .int si), (2, .int wi), (3, .int k)]) hx hb dX8_sheet_91 hl (by decide) rfl (fun ls hl => ?_)
              refine xLoop2 (body := (B_X8_sheet_93bbb errs_f bitsOf_f sizeOf_f si wi)) (fun (v93_0 : Int32) (v93_1 : Nat → Int32) H locs ls => va_P G.1 vwCl [(t, .inr (8, [.ref row, .ref kpt, .int images, .ref errs, .ref bitsOf, .ref sizeOf, .ref cels, .ref broken, .ref isFit, .ref breaks, .int mfit, .int known, .ref act, .ref wth, .ref facts, .ref pile, .int laid, .int hre, .int opnd, .int bad, .int usg, .ref trc, .int trcd, .int isP])), (errs, .inl (xI G, 7, .inl errs_f)), (bitsOf, .inl (xI G, 4, .inl (upd bitsOf_f si.toNatClampNeg wi))), (sizeOf, .inl (xI G, 4, .inl (upd sizeOf_f si.toNatClampNeg (0 : Int32)))), (cels, .inl (xI G, 96, .inl v93_1))] H ∧ va_D A [(t, .inr (8, [.ref row, .ref kpt, .int images, .ref errs, .ref bitsOf, .ref sizeOf, .ref cels, .ref broken, .ref isFit, .ref breaks, .int mfit, .int known, .ref act, .ref wth, .ref facts, .ref pile, .int laid, .int hre, .int opnd, .int bad, .int usg, .ref trc, .int trcd, .int isP])), (errs, .inl (xI G, 7, .inl errs_f)), (bitsOf, .inl (xI G, 4, .inl (upd bitsOf_f si.toNatClampNeg wi))), (sizeOf, .inl (xI G, 4, .inl (upd sizeOf_f si.toNatClampNeg (0 : Int32)))), (cels, .inl (xI G, 96, .inl v93_1))] ∧ va_S A s.heap H locs ∧ lv_has ls 5 [(0, .ref t), (1, .int si), (2, .int wi), (3, .int k), (4, .int v93_0)]) (fun N93 v93_0 v93_1 ih93 H locs ls hI hF => ?_) fuelC (0 : Int32) cels_f H locs ls ⟨hP, hD, hS, lv_sub hl [1, 2, 3, 4, 0] rfl⟩ hF
              obtain ⟨hP, hD, hS, hl⟩ := hI
              unfold B_X8_sheet_93bbb at hF
              refine lv_iload hx hb dX8_sheet_93 (lv_at hl 4 rfl) ?_
              refine lv_bipush (v := 24) hx hb dX8_sheet_95 (by decide) ?_
              refine lv_icmp_ge (tgt := 119) hx hb dX8_sheet_97 (by decide) (fun c97 => ?_) (fun c97 => ?_)
              · have hF := itP c97 hF
                refine lv_iconst (v := 1) hx hb dX8_sheet_119 (by decide) ?_
                obtain rfl := Option.some.inj hF
                rw [← hQ]
                exact W.iret (v := (1 : Int32)) hx hb hr (fun t ht hW => ⟨⟨_, (), rfl, ⟨rfl, rfl⟩, xLf hP ht⟩, hS.F ht⟩) hS.2.2 dX8_sheet_120
              · have hF := itN c97 hF
                refine lv_aload_n hx hb dX8_sheet_100 rfl (lv_at hl 0 rfl) ?_
                refine va_get (ci := 8) (v := .ref cels) (C := RX8) (T := TX8) (N := 24) hx hb hts (fun w h => tcons w (xin8 w h)) hown hK hP 0 rfl rfl 6 (by decide) (hts _ (tcons _ m142)) (fun _ h9 => h9) rfl dX8_sheet_101 ?_
                refine lv_bipush (v := 24) hx hb dX8_sheet_104 (by decide) ?_
                refine lv_iload_n hx hb dX8_sheet_106 rfl (lv_at hl 1 rfl) ?_
                refine lv_imul hx hb dX8_sheet_107 ?_
                refine lv_iload hx hb dX8_sheet_108 (lv_at hl 4 rfl) ?_
                refine lv_iadd hx hb dX8_sheet_110 ?_
                refine lv_iconst (v := 0) hx hb dX8_sheet_111 (by decide) ?_
                obtain ⟨g112, hF⟩ := gdS hF
                refine va_iast hx hb hK hP hD hS 4 0 rfl rfl g112 dX8_sheet_112 (fun H locs hP hD hS => ?_)
                have hP : va_P G.1 vwCl [(t, .inr (8, [.ref row, .ref kpt, .int images, .ref errs, .ref bitsOf, .ref sizeOf, .ref cels, .ref broken, .ref isFit, .ref breaks, .int mfit, .int known, .ref act, .ref wth, .ref facts, .ref pile, .int laid, .int hre, .int opnd, .int bad, .int usg, .ref trc, .int trcd, .int isP])), (errs, .inl (xI G, 7, .inl errs_f)), (bitsOf, .inl (xI G, 4, .inl (upd bitsOf_f si.toNatClampNeg wi))), (sizeOf, .inl (xI G, 4, .inl (upd sizeOf_f si.toNatClampNeg (0 : Int32)))), (cels, .inl (xI G, 96, .inl (upd v93_1 (((24 : Int32) * si) + v93_0).toNatClampNeg (0 : Int32))))] H := hP
                have hD : va_D A [(t, .inr (8, [.ref row, .ref kpt, .int images, .ref errs, .ref bitsOf, .ref sizeOf, .ref cels, .ref broken, .ref isFit, .ref breaks, .int mfit, .int known, .ref act, .ref wth, .ref facts, .ref pile, .int laid, .int hre, .int opnd, .int bad, .int usg, .ref trc, .int trcd, .int isP])), (errs, .inl (xI G, 7, .inl errs_f)), (bitsOf, .inl (xI G, 4, .inl (upd bitsOf_f si.toNatClampNeg wi))), (sizeOf, .inl (xI G, 4, .inl (upd sizeOf_f si.toNatClampNeg (0 : Int32)))), (cels, .inl (xI G, 96, .inl (upd v93_1 (((24 : Int32) * si) + v93_0).toNatClampNeg (0 : Int32))))] := hD
                refine lv_iinc (v := (v93_0 + (1 : Int32))) (lv' := [(4, .int (v93_0 + (1 : Int32))), (0, .ref t), (1, .int si), (2, .int wi), (3, .int k)]) hx hb dX8_sheet_113 hl (k := 4) rfl (xInc_1 _) (by decide) rfl (fun ls hl => ?_)
                refine lv_goto (tgt := 93) hx hb dX8_sheet_116 (by decide) ?_
                exact ih93 (v93_0 + (1 : Int32)) (upd v93_1 (((24 : Int32) * si) + v93_0).toNatClampNeg (0 : Int32)) H locs ls ⟨hP, hD, hS, lv_sub hl [1, 2, 3, 4, 0] rfl⟩ hF
          · have hF := itN c52 hF
            refine lv_iload_n hx hb dX8_sheet_55 rfl (lv_at hl 3 rfl) ?_
            refine lv_bipush (v := 24) hx hb dX8_sheet_56 (by decide) ?_
            refine lv_icmp_le (tgt := 68) hx hb dX8_sheet_58 (by decide) (fun c58 => ?_) (fun c58 => ?_)
            · have hF := itP c58 hF
              refine lv_aload_n hx hb dX8_sheet_68 rfl (lv_at hl 0 rfl) ?_
              refine va_get (ci := 8) (v := .ref bitsOf) (C := RX8) (T := TX8) (N := 24) hx hb hts (fun w h => tcons w (xin8 w h)) hown hK hP 0 rfl rfl 4 (by decide) (hts _ (tcons _ m140)) (fun _ h9 => h9) rfl dX8_sheet_69 ?_
              refine lv_iload_n hx hb dX8_sheet_72 rfl (lv_at hl 1 rfl) ?_
              refine lv_iload_n hx hb dX8_sheet_73 rfl (lv_at hl 2 rfl) ?_
              obtain ⟨g74, hF⟩ := gdS hF
              refine va_iast hx hb hK hP hD hS 2 0 rfl rfl g74 dX8_sheet_74 (fun H locs hP hD hS => ?_)
              have hP : va_P G.1 vwCl [(t, .inr (8, [.ref row, .ref kpt, .int images, .ref errs, .ref bitsOf, .ref sizeOf, .ref cels, .ref broken, .ref isFit, .ref breaks, .int mfit, .int known, .ref act, .ref wth, .ref facts, .ref pile, .int laid, .int hre, .int opnd, .int bad, .int usg, .ref trc, .int trcd, .int isP])), (errs, .inl (xI G, 7, .inl errs_f)), (bitsOf, .inl (xI G, 4, .inl (upd bitsOf_f si.toNatClampNeg wi))), (sizeOf, .inl (xI G, 4, .inl sizeOf_f)), (cels, .inl (xI G, 96, .inl cels_f))] H := hP
              have hD : va_D A [(t, .inr (8, [.ref row, .ref kpt, .int images, .ref errs, .ref bitsOf, .ref sizeOf, .ref cels, .ref broken, .ref isFit, .ref breaks, .int mfit, .int known, .ref act, .ref wth, .ref facts, .ref pile, .int laid, .int hre, .int opnd, .int bad, .int usg, .ref trc, .int trcd, .int isP])), (errs, .inl (xI G, 7, .inl errs_f)), (bitsOf, .inl (xI G, 4, .inl (upd bitsOf_f si.toNatClampNeg wi))), (sizeOf, .inl (xI G, 4, .inl sizeOf_f)), (cels, .inl (xI G, 96, .inl cels_f))] := hD
              refine lv_aload_n hx hb dX8_sheet_75 rfl (lv_at hl 0 rfl) ?_
              refine va_get (ci := 8) (v := .ref sizeOf) (C := RX8) (T := TX8) (N := 24) hx hb hts (fun w h => tcons w (xin8 w h)) hown hK hP 0 rfl rfl 5 (by decide) (hts _ (tcons _ m141)) (fun _ h9 => h9) rfl dX8_sheet_76 ?_
              refine lv_iload_n hx hb dX8_sheet_79 rfl (lv_at hl 1 rfl) ?_
              refine lv_iload_n hx hb dX8_sheet_80 rfl (lv_at hl 2 rfl) ?_
              refine lv_if_ne (tgt := 88) hx hb dX8_sheet_81 (by decide) (fun c81 => ?_) (fun c81 => ?_)
              · have hF := itN c81 hF
                refine lv_iload_n hx hb dX8_sheet_88 rfl (lv_at hl 3 rfl) ?_
                obtain ⟨g89, hF⟩ := gdS hF
                refine va_iast hx hb hK hP hD hS 3 0 rfl rfl g89 dX8_sheet_89 (fun H locs hP hD hS => ?_)
                have hP : va_P G.1 vwCl [(t, .inr (8, [.ref row, .ref kpt, .int images, .ref errs, .ref bitsOf, .ref sizeOf, .ref cels, .ref broken, .ref isFit, .ref breaks, .int mfit, .int known, .ref act, .ref wth, .ref facts, .ref pile, .int laid, .int hre, .int opnd, .int bad, .int usg, .ref trc, .int trcd, .int isP])), (errs, .inl (xI G, 7, .inl errs_f)), (bitsOf, .inl (xI G, 4, .inl (upd bitsOf_f si.toNatClampNeg wi))), (sizeOf, .inl (xI G, 4, .inl (upd sizeOf_f si.toNatClampNeg k))), (cels, .inl (xI G, 96, .inl cels_f))] H := hP
                have hD : va_D A [(t, .inr (8, [.ref row, .ref kpt, .int images, .ref errs, .ref bitsOf, .ref sizeOf, .ref cels, .ref broken, .ref isFit, .ref breaks, .int mfit, .int known, .ref act, .ref wth, .ref facts, .ref pile, .int laid, .int hre, .int opnd, .int bad, .int usg, .ref trc, .int trcd, .int isP])), (errs, .inl (xI G, 7, .inl errs_f)), (bitsOf, .inl (xI G, 4, .inl (upd bitsOf_f si.toNatClampNeg wi))), (sizeOf, .inl (xI G, 4, .inl (upd sizeOf_f si.toNatClampNeg k))), (cels, .inl (xI G, 96, .inl cels_f))] := hD
                refine lv_iconst (v := 0) hx hb dX8_sheet_90 (by decide) ?_
                refine lv_istore (lv' := [(4, .int (0 : Int32)), (0, .ref t), (1, .int si), (2, .int wi), (3, .int k)]) hx hb dX8_sheet_91 hl (by decide) rfl (fun ls hl => ?_)
                refine xLoop2 (body := (B_X8_sheet_93 errs_f bitsOf_f sizeOf_f si wi k)) (fun (v93_0 : Int32) (v93_1 : Nat → Int32) H locs ls => va_P G.1 vwCl [(t, .inr (8, [.ref row, .ref kpt, .int images, .ref errs, .ref bitsOf, .ref sizeOf, .ref cels, .ref broken, .ref isFit, .ref breaks, .int mfit, .int known, .ref act, .ref wth, .ref facts, .ref pile, .int laid, .int hre, .int opnd, .int bad, .int usg, .ref trc, .int trcd, .int isP])), (errs, .inl (xI G, 7, .inl errs_f)), (bitsOf, .inl (xI G, 4, .inl (upd bitsOf_f si.toNatClampNeg wi))), (sizeOf, .inl (xI G, 4, .inl (upd sizeOf_f si.toNatClampNeg k))), (cels, .inl (xI G, 96, .inl v93_1))] H ∧ va_D A [(t, .inr (8, [.ref row, .ref kpt, .int images, .ref errs, .ref bitsOf, .ref sizeOf, .ref cels, .ref broken, .ref isFit, .ref breaks, .int mfit, .int known, .ref act, .ref wth, .ref facts, .ref pile, .int laid, .int hre, .int opnd, .int bad, .int usg, .ref trc, .int trcd, .int isP])), (errs, .inl (xI G, 7, .inl errs_f)), (bitsOf, .inl (xI G, 4, .inl (upd bitsOf_f si.toNatClampNeg wi))), (sizeOf, .inl (xI G, 4, .inl (upd sizeOf_f si.toNatClampNeg k))), (cels, .inl (xI G, 96, .inl v93_1))] ∧ va_S A s.heap H locs ∧ lv_has ls 5 [(0, .ref t), (1, .int si), (2, .int wi), (3, .int k), (4, .int v93_0)]) (fun N93 v93_0 v93_1 ih93 H locs ls hI hF => ?_) fuelC (0 : Int32) cels_f H locs ls ⟨hP, hD, hS, lv_sub hl [1, 2, 3, 4, 0] rfl⟩ hF
                obtain ⟨hP, hD, hS, hl⟩ := hI
                unfold B_X8_sheet_93 at hF
                refine lv_iload hx hb dX8_sheet_93 (lv_at hl 4 rfl) ?_
                refine lv_bipush (v := 24) hx hb dX8_sheet_95 (by decide) ?_
                refine lv_icmp_ge (tgt := 119) hx hb dX8_sheet_97 (by decide) (fun c97 => ?_) (fun c97 => ?_)
                · have hF := itP c97 hF
                  refine lv_iconst (v := 1) hx hb dX8_sheet_119 (by decide) ?_
                  obtain rfl := Option.some.inj hF
                  rw [← hQ]
                  exact W.iret (v := (1 : Int32)) hx hb hr (fun t ht hW => ⟨⟨_, (), rfl, ⟨rfl, rfl⟩, xLf hP ht⟩, hS.F ht⟩) hS.2.2 dX8_sheet_120
                · have hF := itN c97 hF
                  refine lv_aload_n hx hb dX8_sheet_100 rfl (lv_at hl 0 rfl) ?_
                  refine va_get (ci := 8) (v := .ref cels) (C := RX8) (T := TX8) (N := 24) hx hb hts (fun w h => tcons w (xin8 w h)) hown hK hP 0 rfl rfl 6 (by decide) (hts _ (tcons _ m142)) (fun _ h9 => h9) rfl dX8_sheet_101 ?_
                  refine lv_bipush (v := 24) hx hb dX8_sheet_104 (by decide) ?_
                  refine lv_iload_n hx hb dX8_sheet_106 rfl (lv_at hl 1 rfl) ?_
                  refine lv_imul hx hb dX8_sheet_107 ?_
                  refine lv_iload hx hb dX8_sheet_108 (lv_at hl 4 rfl) ?_
                  refine lv_iadd hx hb dX8_sheet_110 ?_
                  refine lv_iconst (v := 0) hx hb dX8_sheet_111 (by decide) ?_
                  obtain ⟨g112, hF⟩ := gdS hF
                  refine va_iast hx hb hK hP hD hS 4 0 rfl rfl g112 dX8_sheet_112 (fun H locs hP hD hS => ?_)
                  have hP : va_P G.1 vwCl [(t, .inr (8, [.ref row, .ref kpt, .int images, .ref errs, .ref bitsOf, .ref sizeOf, .ref cels, .ref broken, .ref isFit, .ref breaks, .int mfit, .int known, .ref act, .ref wth, .ref facts, .ref pile, .int laid, .int hre, .int opnd, .int bad, .int usg, .ref trc, .int trcd, .int isP])), (errs, .inl (xI G, 7, .inl errs_f)), (bitsOf, .inl (xI G, 4, .inl (upd bitsOf_f si.toNatClampNeg wi))), (sizeOf, .inl (xI G, 4, .inl (upd sizeOf_f si.toNatClampNeg k))), (cels, .inl (xI G, 96, .inl (upd v93_1 (((24 : Int32) * si) + v93_0).toNatClampNeg (0 : Int32))))] H := hP
                  have hD : va_D A [(t, .inr (8, [.ref row, .ref kpt, .int images, .ref errs, .ref bitsOf, .ref sizeOf, .ref cels, .ref broken, .ref isFit, .ref breaks, .int mfit, .int known, .ref act, .ref wth, .ref facts, .ref pile, .int laid, .int hre, .int opnd, .int bad, .int usg, .ref trc, .int trcd, .int isP])), (errs, .inl (xI G, 7, .inl errs_f)), (bitsOf, .inl (xI G, 4, .inl (upd bitsOf_f si.toNatClampNeg wi))), (sizeOf, .inl (xI G, 4, .inl (upd sizeOf_f si.toNatClampNeg k))), (cels, .inl (xI G, 96, .inl (upd v93_1 (((24 : Int32) * si) + v93_0).toNatClampNeg (0 : Int32))))] := hD
                  refine lv_iinc (v := (v93_0 + (1 : Int32))) (lv' := [(4, .int (v93_0 + (1 : Int32))), (0, .ref t), (1, .int si), (2, .int wi), (3, .int k)]) hx hb dX8_sheet_113 hl (k := 4) rfl (xInc_1 _) (by decide) rfl (fun ls hl => ?_)
                  refine lv_goto (tgt := 93) hx hb dX8_sheet_116 (by decide) ?_
                  exact ih93 (v93_0 + (1 : Int32)) (upd v93_1 (((24 : Int32) * si) + v93_0).toNatClampNeg (0 : Int32)) H locs ls ⟨hP, hD, hS, lv_sub hl [1, 2, 3, 4, 0] rfl⟩ hF
              · have hF := itP c81 hF
                refine lv_iconst (v := 0) hx hb dX8_sheet_84 (by decide) ?_
                refine lv_goto (tgt := 89) hx hb dX8_sheet_85 (by decide) ?_
                obtain ⟨g89, hF⟩ := gdS hF
                refine va_iast hx hb hK hP hD hS 3 0 rfl rfl g89 dX8_sheet_89 (fun H locs hP hD hS => ?_)
                have hP : va_P G.1 vwCl [(t, .inr (8, [.ref row, .ref kpt, .int images, .ref errs, .ref bitsOf, .ref sizeOf, .ref cels, .ref broken, .ref isFit, .ref breaks, .int mfit, .int known, .ref act, .ref wth, .ref facts, .ref pile, .int laid, .int hre, .int opnd, .int bad, .int usg, .ref trc, .int trcd, .int isP])), (errs, .inl (xI G, 7, .inl errs_f)), (bitsOf, .inl (xI G, 4, .inl (upd bitsOf_f si.toNatClampNeg wi))), (sizeOf, .inl (xI G, 4, .inl (upd sizeOf_f si.toNatClampNeg (0 : Int32)))), (cels, .inl (xI G, 96, .inl cels_f))] H := hP
                have hD : va_D A [(t, .inr (8, [.ref row, .ref kpt, .int images, .ref errs, .ref bitsOf, .ref sizeOf, .ref cels, .ref broken, .ref isFit, .ref breaks, .int mfit, .int known, .ref act, .ref wth, .ref facts, .ref pile, .int laid, .int hre, .int opnd, .int bad, .int usg, .ref trc, .int trcd, .int isP])), (errs, .inl (xI G, 7, .inl errs_f)), (bitsOf, .inl (xI G, 4, .inl (upd bitsOf_f si.toNatClampNeg wi))), (sizeOf, .inl (xI G, 4, .inl (upd sizeOf_f si.toNatClampNeg (0 : Int32)))), (cels, .inl (xI G, 96, .inl cels_f))] := hD
                refine lv_iconst (v := 0) hx hb dX8_sheet_90 (by decide) ?_
                refine lv_istore (lv' := [(4, .int (0 : Int32)), (0, .ref t), (1, .int si), (2, .int wi), (3, .int k)]) hx hb dX8_sheet_91 hl (by decide) rfl (fun ls hl => ?_)
                refine xLoop2 (body := (B_X8_sheet_93bbbb errs_f bitsOf_f sizeOf_f si wi)) (fun (v93_0 : Int32) (v93_1 : Nat → Int32) H locs ls => va_P G.1 vwCl [(t, .inr (8, [.ref row, .ref kpt, .int images, .ref errs, .ref bitsOf, .ref sizeOf, .ref cels, .ref broken, .ref isFit, .ref breaks, .int mfit, .int known, .ref act, .ref wth, .ref facts, .ref pile, .int laid, .int hre, .int opnd, .int bad, .int usg, .ref trc, .int trcd, .int isP])), (errs, .inl (xI G, 7, .inl errs_f)), (bitsOf, .inl (xI G, 4, .inl (upd bitsOf_f si.toNatClampNeg wi))), (sizeOf, .inl (xI G, 4, .inl (upd sizeOf_f si.toNatClampNeg (0 : Int32)))), (cels, .inl (xI G, 96, .inl v93_1))] H ∧ va_D A [(t, .inr (8, [.ref row, .ref kpt, .int images, .ref errs, .ref bitsOf, .ref sizeOf, .ref cels, .ref broken, .ref isFit, .ref breaks, .int mfit, .int known, .ref act, .ref wth, .ref facts, .ref pile, .int laid, .int hre, .int opnd, .int bad, .int usg, .ref trc, .int trcd, .int isP])), (errs, .inl (xI G, 7, .inl errs_f)), (bitsOf, .inl (xI G, 4, .inl (upd bitsOf_f si.toNatClampNeg wi))), (sizeOf, .inl (xI G, 4, .inl (upd sizeOf_f si.toNatClampNeg (0 : Int32)))), (cels, .inl (xI G, 96, .inl v93_1))] ∧ va_S A s.heap H locs ∧ lv_has ls 5 [(0, .ref t), (1, .int si), (2, .int wi), (3, .int k), (4, .int v93_0)]) (fun N93 v93_0 v93_1 ih93 H locs ls hI hF => ?_) fuelC (0 : Int32) cels_f H locs ls ⟨hP, hD, hS, lv_sub hl [1, 2, 3, 4, 0] rfl⟩ hF
                obtain ⟨hP, hD, hS, hl⟩ := hI
                unfold B_X8_sheet_93bbbb at hF
                refine lv_iload hx hb dX8_sheet_93 (lv_at hl 4 rfl) ?_
                refine lv_bipush (v := 24) hx hb dX8_sheet_95 (by decide) ?_
                refine lv_icmp_ge (tgt := 119) hx hb dX8_sheet_97 (by decide) (fun c97 => ?_) (fun c97 => ?_)
                · have hF := itP c97 hF
                  refine lv_iconst (v := 1) hx hb dX8_sheet_119 (by decide) ?_
                  obtain rfl := Option.some.inj hF
                  rw [← hQ]
                  exact W.iret (v := (1 : Int32)) hx hb hr (fun t ht hW => ⟨⟨_, (), rfl, ⟨rfl, rfl⟩, xLf hP ht⟩, hS.F ht⟩) hS.2.2 dX8_sheet_120
                · have hF := itN c97 hF
                  refine lv_aload_n hx hb dX8_sheet_100 rfl (lv_at hl 0 rfl) ?_
                  refine va_get (ci := 8) (v := .ref cels) (C := RX8) (T := TX8) (N := 24) hx hb hts (fun w h => tcons w (xin8 w h)) hown hK hP 0 rfl rfl 6 (by decide) (hts _ (tcons _ m142)) (fun _ h9 => h9) rfl dX8_sheet_101 ?_
                  refine lv_bipush (v := 24) hx hb dX8_sheet_104 (by decide) ?_
                  refine lv_iload_n hx hb dX8_sheet_106 rfl (lv_at hl 1 rfl) ?_
                  refine lv_imul hx hb dX8_sheet_107 ?_
                  refine lv_iload hx hb dX8_sheet_108 (lv_at hl 4 rfl) ?_
                  refine lv_iadd hx hb dX8_sheet_110 ?_
                  refine lv_iconst (v := 0) hx hb dX8_sheet_111 (by decide) ?_
                  obtain ⟨g112, hF⟩ := gdS hF
                  refine va_iast hx hb hK hP hD hS 4 0 rfl rfl g112 dX8_sheet_112 (fun H locs hP hD hS => ?_)
                  have hP : va_P G.1 vwCl [(t, .inr (8, [.ref row, .ref kpt, .int images, .ref errs, .ref bitsOf, .ref sizeOf, .ref cels, .ref broken, .ref isFit, .ref breaks, .int mfit, .int known, .ref act, .ref wth, .ref facts, .ref pile, .int laid, .int hre, .int opnd, .int bad, .int usg, .ref trc, .int trcd, .int isP])), (errs, .inl (xI G, 7, .inl errs_f)), (bitsOf, .inl (xI G, 4, .inl (upd bitsOf_f si.toNatClampNeg wi))), (sizeOf, .inl (xI G, 4, .inl (upd sizeOf_f si.toNatClampNeg (0 : Int32)))), (cels, .inl (xI G, 96, .inl (upd v93_1 (((24 : Int32) * si) + v93_0).toNatClampNeg (0 : Int32))))] H := hP
                  have hD : va_D A [(t, .inr (8, [.ref row, .ref kpt, .int images, .ref errs, .ref bitsOf, .ref sizeOf, .ref cels, .ref broken, .ref isFit, .ref breaks, .int mfit, .int known, .ref act, .ref wth, .ref facts, .ref pile, .int laid, .int hre, .int opnd, .int bad, .int usg, .ref trc, .int trcd, .int isP])), (errs, .inl (xI G, 7, .inl errs_f)), (bitsOf, .inl (xI G, 4, .inl (upd bitsOf_f si.toNatClampNeg wi))), (sizeOf, .inl (xI G, 4, .inl (upd sizeOf_f si.toNatClampNeg (0 : Int32)))), (cels, .inl (xI G, 96, .inl (upd v93_1 (((24 : Int32) * si) + v93_0).toNatClampNeg (0 : Int32))))] := hD
                  refine lv_iinc (v := (v93_0 + (1 : Int32))) (lv' := [(4, .int (v93_0 + (1 : Int32))), (0, .ref t), (1, .int si), (2, .int wi), (3, .int k)]) hx hb dX8_sheet_113 hl (k := 4) rfl (xInc_1 _) (by decide) rfl (fun ls hl => ?_)
                  refine lv_goto (tgt := 93) hx hb dX8_sheet_116 (by decide) ?_
                  exact ih93 (v93_0 + (1 : Int32)) (upd v93_1 (((24 : Int32) * si) + v93_0).toNatClampNeg (0 : Int32)) H locs ls ⟨hP, hD, hS, lv_sub hl [1, 2, 3, 4, 0] rfl⟩ hF
            · have hF := itN c58 hF
              refine lv_aload_n hx hb dX8_sheet_61 rfl (lv_at hl 0 rfl) ?_
              refine lv_ldc (v := -1000000001) hx hb hown (hts _ (tcons _ m185)) dX8_sheet_62 ?_
              obtain ⟨u2, e2, hF⟩ := bdS hF
              refine xEndI (xRunV (As := [.int (-1000000001 : Int32)]) (rest := []) hZ (c_X8_error G t row kpt errs bitsOf sizeOf cels broken isFit breaks act wth facts pile trc images mfit known laid hre opnd bad usg trcd isP errs_f (-1000000001 : Int32) u2 e2 l H.size) m193 m194 m195 m5 m196 1 ⟨rfl, hdX8_error⟩ ⟨Nat.le_of_ble_eq_true rfl, Nat.le_of_ble_eq_true rfl⟩ ⟨rfl, rfl⟩ hP hD hS 0 8 rfl rfl rfl [0, 1] rfl rfl rfl hl.1 rfl (Nat.le_of_ble_eq_true rfl) dX8_sheet_64 ⟨Nat.zero_le _, Nat.zero_le _⟩) hP hD hS hA [0, 1] rfl rfl rfl (fun H locs n2 hP hD hS => ?_)
              have hP : va_P G.1 vwCl [(t, .inr (8, [.ref row, .ref kpt, .int images, .ref errs, .ref bitsOf, .ref sizeOf, .ref cels, .ref broken, .ref isFit, .ref breaks, .int mfit, .int known, .ref act, .ref wth, .ref facts, .ref pile, .int laid, .int hre, .int opnd, .int bad, .int usg, .ref trc, .int trcd, .int isP])), (errs, .inl (xI G, 7, .inl u2.2)), (bitsOf, .inl (xI G, 4, .inl bitsOf_f)), (sizeOf, .inl (xI G, 4, .inl sizeOf_f)), (cels, .inl (xI G, 96, .inl cels_f))] H := hP
              have hD : va_D A [(t, .inr (8, [.ref row, .ref kpt, .int images, .ref errs, .ref bitsOf, .ref sizeOf, .ref cels, .ref broken, .ref isFit, .ref breaks, .int mfit, .int known, .ref act, .ref wth, .ref facts, .ref pile, .int laid, .int hre, .int opnd, .int bad, .int usg, .ref trc, .int trcd, .int isP])), (errs, .inl (xI G, 7, .inl u2.2)), (bitsOf, .inl (xI G, 4, .inl bitsOf_f)), (sizeOf, .inl (xI G, 4, .inl sizeOf_f)), (cels, .inl (xI G, 96, .inl cels_f))] := hD
              obtain rfl := Option.some.inj hF
              rw [← hQ]
              exact W.iret (v := u2.1) hx hb hr (fun t ht hW => ⟨⟨_, (), rfl, ⟨rfl, rfl⟩, xLf hP ht⟩, hS.F ht⟩) hS.2.2 dX8_sheet_67
        · have hF := itN c41 hF
          refine lv_aload_n hx hb dX8_sheet_44 rfl (lv_at hl 0 rfl) ?_
          refine lv_ldc (v := -1000000003) hx hb hown (hts _ (tcons _ m477)) dX8_sheet_45 ?_
          obtain ⟨u2, e2, hF⟩ := bdS hF
          refine xEndI (xRunV (As := [.int (-1000000003 : Int32)]) (rest := []) hZ (c_X8_error G t row kpt errs bitsOf sizeOf cels broken isFit breaks act wth facts pile trc images mfit known laid hre opnd bad usg trcd isP errs_f (-1000000003 : Int32) u2 e2 l H.size) m193 m194 m195 m5 m196 1 ⟨rfl, hdX8_error⟩ ⟨Nat.le_of_ble_eq_true rfl, Nat.le_of_ble_eq_true rfl⟩ ⟨rfl, rfl⟩ hP hD hS 0 8 rfl rfl rfl [0, 1] rfl rfl rfl hl.1 rfl (Nat.le_of_ble_eq_true rfl) dX8_sheet_47 ⟨Nat.zero_le _, Nat.zero_le _⟩) hP hD hS hA [0, 1] rfl rfl rfl (fun H locs n2 hP hD hS => ?_)
          have hP : va_P G.1 vwCl [(t, .inr (8, [.ref row, .ref kpt, .int images, .ref errs, .ref bitsOf, .ref sizeOf, .ref cels, .ref broken, .ref isFit, .ref breaks, .int mfit, .int known, .ref act, .ref wth, .ref facts, .ref pile, .int laid, .int hre, .int opnd, .int bad, .int usg, .ref trc, .int trcd, .int isP])), (errs, .inl (xI G, 7, .inl u2.2)), (bitsOf, .inl (xI G, 4, .inl bitsOf_f)), (sizeOf, .inl (xI G, 4, .inl sizeOf_f)), (cels, .inl (xI G, 96, .inl cels_f))] H := hP
          have hD : va_D A [(t, .inr (8, [.ref row, .ref kpt, .int images, .ref errs, .ref bitsOf, .ref sizeOf, .ref cels, .ref broken, .ref isFit, .ref breaks, .int mfit, .int known, .ref act, .ref wth, .ref facts, .ref pile, .int laid, .int hre, .int opnd, .int bad, .int usg, .ref trc, .int trcd, .int isP])), (errs, .inl (xI G, 7, .inl u2.2)), (bitsOf, .inl (xI G, 4, .inl bitsOf_f)), (sizeOf, .inl (xI G, 4, .inl sizeOf_f)), (cels, .inl (xI G, 96, .inl cels_f))] := hD
          obtain rfl := Option.some.inj hF
          rw [← hQ]
          exact W.iret (v := u2.1) hx hb hr (fun t ht hW => ⟨⟨_, (), rfl, ⟨rfl, rfl⟩, xLf hP ht⟩, hS.F ht⟩) hS.2.2 dX8_sheet_50
    · have hF := itN c8 hF
      refine lv_iload_n hx hb dX8_sheet_11 rfl (lv_at hl 2 rfl) ?_
      refine lv_bipush (v := 8) hx hb dX8_sheet_12 (by decide) ?_
      refine lv_icmp_eq (tgt := 36) hx hb dX8_sheet_14 (by decide) (fun c14 => ?_) (fun c14 => ?_)
      · have hF := itP c14 hF
        refine lv_iload_n hx hb dX8_sheet_36 rfl (lv_at hl 2 rfl) ?_
        refine lv_if_le (tgt := 51) hx hb dX8_sheet_37 (by decide) (fun c37 => ?_) (fun c37 => ?_)
        · have hF := itP c37 hF
          refine lv_iload_n hx hb dX8_sheet_51 rfl (lv_at hl 2 rfl) ?_
          refine lv_if_le (tgt := 68) hx hb dX8_sheet_52 (by decide) (fun c52 => ?_) (fun c52 => ?_)
          · have hF := itP c52 hF
            refine lv_aload_n hx hb dX8_sheet_68 rfl (lv_at hl 0 rfl) ?_
            refine va_get (ci := 8) (v := .ref bitsOf) (C := RX8) (T := TX8) (N := 24) hx hb hts (fun w h => tcons w (xin8 w h)) hown hK hP 0 rfl rfl 4 (by decide) (hts _ (tcons _ m140)) (fun _ h9 => h9) rfl dX8_sheet_69 ?_
            refine lv_iload_n hx hb dX8_sheet_72 rfl (lv_at hl 1 rfl) ?_
            refine lv_iload_n hx hb dX8_sheet_73 rfl (lv_at hl 2 rfl) ?_
            obtain ⟨g74, hF⟩ := gdS hF
            refine va_iast hx hb hK hP hD hS 2 0 rfl rfl g74 dX8_sheet_74 (fun H locs hP hD hS => ?_)
            have hP : va_P G.1 vwCl [(t, .inr (8, [.ref row, .ref kpt, .int images, .ref errs, .ref bitsOf, .ref sizeOf, .ref cels, .ref broken, .ref isFit, .ref breaks, .int mfit, .int known, .ref act, .ref wth, .ref facts, .ref pile, .int laid, .int hre, .int opnd, .int bad, .int usg, .ref trc, .int trcd, .int isP])), (errs, .inl (xI G, 7, .inl errs_f)), (bitsOf, .inl (xI G, 4, .inl (upd bitsOf_f si.toNatClampNeg wi))), (sizeOf, .inl (xI G, 4, .inl sizeOf_f)), (cels, .inl (xI G, 96, .inl cels_f))] H := hP
            have hD : va_D A [(t, .inr (8, [.ref row, .ref kpt, .int images, .ref errs, .ref bitsOf, .ref sizeOf, .ref cels, .ref broken, .ref isFit, .ref breaks, .int mfit, .int known, .ref act, .ref wth, .ref facts, .ref pile, .int laid, .int hre, .int opnd, .int bad, .int usg, .ref trc, .int trcd, .int isP])), (errs, .inl (xI G, 7, .inl errs_f)), (bitsOf, .inl (xI G, 4, .inl (upd bitsOf_f si.toNatClampNeg wi))), (sizeOf, .inl (xI G, 4, .inl sizeOf_f)), (cels, .inl (xI G, 96, .inl cels_f))] := hD
            refine lv_aload_n hx hb dX8_sheet_75 rfl (lv_at hl 0 rfl) ?_
            refine va_get (ci := 8) (v := .ref sizeOf) (C := RX8) (T := TX8) (N := 24) hx hb hts (fun w h => tcons w (xin8 w h)) hown hK hP 0 rfl rfl 5 (by decide) (hts _ (tcons _ m141)) (fun _ h9 => h9) rfl dX8_sheet_76 ?_
            refine lv_iload_n hx hb dX8_sheet_79 rfl (lv_at hl 1 rfl) ?_
            refine lv_iload_n hx hb dX8_sheet_80 rfl (lv_at hl 2 rfl) ?_
            refine lv_if_ne (tgt := 88) hx hb dX8_sheet_81 (by decide) (fun c81 => ?_) (fun c81 => ?_)
            · have hF := itN c81 hF
              refine lv_iload_n hx hb dX8_sheet_88 rfl (lv_at hl 3 rfl) ?_
              obtain ⟨g89, hF⟩ := gdS hF
              refine va_iast hx hb hK hP hD hS 3 0 rfl rfl g89 dX8_sheet_89 (fun H locs hP hD hS => ?_)
              have hP : va_P G.1 vwCl [(t, .inr (8, [.ref row, .ref kpt, .int images, .ref errs, .ref bitsOf, .ref sizeOf, .ref cels, .ref broken, .ref isFit, .ref breaks, .int mfit, .int known, .ref act, .ref wth, .ref facts, .ref pile, .int laid, .int hre, .int opnd, .int bad, .int usg, .ref trc, .int trcd, .int isP])), (errs, .inl (xI G, 7, .inl errs_f)), (bitsOf, .inl (xI G, 4, .inl (upd bitsOf_f si.toNatClampNeg wi))), (sizeOf, .inl (xI G, 4, .inl (upd sizeOf_f si.toNatClampNeg k))), (cels, .inl (xI G, 96, .inl cels_f))] H := hP
              have hD : va_D A [(t, .inr (8, [.ref row, .ref kpt, .int images, .ref errs, .ref bitsOf, .ref sizeOf, .ref cels, .ref broken, .ref isFit, .ref breaks, .int mfit, .int known, .ref act, .ref wth, .ref facts, .ref pile, .int laid, .int hre, .int opnd, .int bad, .int usg, .ref trc, .int trcd, .int isP])), (errs, .inl (xI G, 7, .inl errs_f)), (bitsOf, .inl (xI G, 4, .inl (upd bitsOf_f si.toNatClampNeg wi))), (sizeOf, .inl (xI G, 4, .inl (upd sizeOf_f si.toNatClampNeg k))), (cels, .inl (xI G, 96, .inl cels_f))] := hD
              refine lv_iconst (v := 0) hx hb dX8_sheet_90 (by decide) ?_
              refine lv_istore (lv' := [(4, .int (0 : Int32)), (0, .ref t), (1, .int si), (2, .int wi), (3, .int k)]) hx hb dX8_sheet_91 hl (by decide) rfl (fun ls hl => ?_)
              refine xLoop2 (body := (B_X8_sheet_93 errs_f bitsOf_f sizeOf_f si wi k)) (fun (v93_0 : Int32) (v93_1 : Nat → Int32) H locs ls => va_P G.1 vwCl [(t, .inr (8, [.ref row, .ref kpt, .int images, .ref errs, .ref bitsOf, .ref sizeOf, .ref cels, .ref broken, .ref isFit, .ref breaks, .int mfit, .int known, .ref act, .ref wth, .ref facts, .ref pile, .int laid, .int hre, .int opnd, .int bad, .int usg, .ref trc, .int trcd, .int isP])), (errs, .inl (xI G, 7, .inl errs_f)), (bitsOf, .inl (xI G, 4, .inl (upd bitsOf_f si.toNatClampNeg wi))), (sizeOf, .inl (xI G, 4, .inl (upd sizeOf_f si.toNatClampNeg k))), (cels, .inl (xI G, 96, .inl v93_1))] H ∧ va_D A [(t, .inr (8, [.ref row, .ref kpt, .int images, .ref errs, .ref bitsOf, .ref sizeOf, .ref cels, .ref broken, .ref isFit, .ref breaks, .int mfit, .int known, .ref act, .ref wth, .ref facts, .ref pile, .int laid, .int hre, .int opnd, .int bad, .int usg, .ref trc, .int trcd, .int isP])), (errs, .inl (xI G, 7, .inl errs_f)), (bitsOf, .inl (xI G, 4, .inl (upd bitsOf_f si.toNatClampNeg wi))), (sizeOf, .inl (xI G, 4, .inl (upd sizeOf_f si.toNatClampNeg k))), (cels, .inl (xI G, 96, .inl v93_1))] ∧ va_S A s.heap H locs ∧ lv_has ls 5 [(0, .ref t), (1, .int si), (2, .int wi), (3, .int k), (4, .int v93_0)]) (fun N93 v93_0 v93_1 ih93 H locs ls hI hF => ?_) fuelC (0 : Int32) cels_f H locs ls ⟨hP, hD, hS, lv_sub hl [1, 2, 3, 4, 0] rfl⟩ hF
              obtain ⟨hP, hD, hS, hl⟩ := hI
              unfold B_X8_sheet_93 at hF
              refine lv_iload hx hb dX8_sheet_93 (lv_at hl 4 rfl) ?_
              refine lv_bipush (v := 24) hx hb dX8_sheet_95 (by decide) ?_
              refine lv_icmp_ge (tgt := 119) hx hb dX8_sheet_97 (by decide) (fun c97 => ?_) (fun c97 => ?_)
              · have hF := itP c97 hF
                refine lv_iconst (v := 1) hx hb dX8_sheet_119 (by decide) ?_
                obtain rfl := Option.some.inj hF
                rw [← hQ]
                exact W.iret (v := (1 : Int32)) hx hb hr (fun t ht hW => ⟨⟨_, (), rfl, ⟨rfl, rfl⟩, xLf hP ht⟩, hS.F ht⟩) hS.2.2 dX8_sheet_120
              · have hF := itN c97 hF
                refine lv_aload_n hx hb dX8_sheet_100 rfl (lv_at hl 0 rfl) ?_
                refine va_get (ci := 8) (v := .ref cels) (C := RX8) (T := TX8) (N := 24) hx hb hts (fun w h => tcons w (xin8 w h)) hown hK hP 0 rfl rfl 6 (by decide) (hts _ (tcons _ m142)) (fun _ h9 => h9) rfl dX8_sheet_101 ?_
                refine lv_bipush (v := 24) hx hb dX8_sheet_104 (by decide) ?_
                refine lv_iload_n hx hb dX8_sheet_106 rfl (lv_at hl 1 rfl) ?_
                refine lv_imul hx hb dX8_sheet_107 ?_
                refine lv_iload hx hb dX8_sheet_108 (lv_at hl 4 rfl) ?_
                refine lv_iadd hx hb dX8_sheet_110 ?_
                refine lv_iconst (v := 0) hx hb dX8_sheet_111 (by decide) ?_
                obtain ⟨g112, hF⟩ := gdS hF
                refine va_iast hx hb hK hP hD hS 4 0 rfl rfl g112 dX8_sheet_112 (fun H locs hP hD hS => ?_)
                have hP : va_P G.1 vwCl [(t, .inr (8, [.ref row, .ref kpt, .int images, .ref errs, .ref bitsOf, .ref sizeOf, .ref cels, .ref broken, .ref isFit, .ref breaks, .int mfit, .int known, .ref act, .ref wth, .ref facts, .ref pile, .int laid, .int hre, .int opnd, .int bad, .int usg, .ref trc, .int trcd, .int isP])), (errs, .inl (xI G, 7, .inl errs_f)), (bitsOf, .inl (xI G, 4, .inl (upd bitsOf_f si.toNatClampNeg wi))), (sizeOf, .inl (xI G, 4, .inl (upd sizeOf_f si.toNatClampNeg k))), (cels, .inl (xI G, 96, .inl (upd v93_1 (((24 : Int32) * si) + v93_0).toNatClampNeg (0 : Int32))))] H := hP
                have hD : va_D A [(t, .inr (8, [.ref row, .ref kpt, .int images, .ref errs, .ref bitsOf, .ref sizeOf, .ref cels, .ref broken, .ref isFit, .ref breaks, .int mfit, .int known, .ref act, .ref wth, .ref facts, .ref pile, .int laid, .int hre, .int opnd, .int bad, .int usg, .ref trc, .int trcd, .int isP])), (errs, .inl (xI G, 7, .inl errs_f)), (bitsOf, .inl (xI G, 4, .inl (upd bitsOf_f si.toNatClampNeg wi))), (sizeOf, .inl (xI G, 4, .inl (upd sizeOf_f si.toNatClampNeg k))), (cels, .inl (xI G, 96, .inl (upd v93_1 (((24 : Int32) * si) + v93_0).toNatClampNeg (0 : Int32))))] := hD
                refine lv_iinc (v := (v93_0 + (1 : Int32))) (lv' := [(4, .int (v93_0 + (1 : Int32))), (0, .ref t), (1, .int si), (2, .int wi), (3, .int k)]) hx hb dX8_sheet_113 hl (k := 4) rfl (xInc_1 _) (by decide) rfl (fun ls hl => ?_)
                refine lv_goto (tgt := 93) hx hb dX8_sheet_116 (by decide) ?_
                exact ih93 (v93_0 + (1 : Int32)) (upd v93_1 (((24 : Int32) * si) + v93_0).toNatClampNeg (0 : Int32)) H locs ls ⟨hP, hD, hS, lv_sub hl [1, 2, 3, 4, 0] rfl⟩ hF
            · have hF := itP c81 hF
              refine lv_iconst (v := 0) hx hb dX8_sheet_84 (by decide) ?_
              refine lv_goto (tgt := 89) hx hb dX8_sheet_85 (by decide) ?_
              obtain ⟨g89, hF⟩ := gdS hF
              refine va_iast hx hb hK hP hD hS 3 0 rfl rfl g89 dX8_sheet_89 (fun H locs hP hD hS => ?_)
              have hP : va_P G.1 vwCl [(t, .inr (8, [.ref row, .ref kpt, .int images, .ref errs, .ref bitsOf, .ref sizeOf, .ref cels, .ref broken, .ref isFit, .ref breaks, .int mfit, .int known, .ref act, .ref wth, .ref facts, .ref pile, .int laid, .int hre, .int opnd, .int bad, .int usg, .ref trc, .int trcd, .int isP])), (errs, .inl (xI G, 7, .inl errs_f)), (bitsOf, .inl (xI G, 4, .inl (upd bitsOf_f si.toNatClampNeg wi))), (sizeOf, .inl (xI G, 4, .inl (upd sizeOf_f si.toNatClampNeg (0 : Int32)))), (cels, .inl (xI G, 96, .inl cels_f))] H := hP
              have hD : va_D A [(t, .inr (8, [.ref row, .ref kpt, .int images, .ref errs, .ref bitsOf, .ref sizeOf, .ref cels, .ref broken, .ref isFit, .ref breaks, .int mfit, .int known, .ref act, .ref wth, .ref facts, .ref pile, .int laid, .int hre, .int opnd, .int bad, .int usg, .ref trc, .int trcd, .int isP])), (errs, .inl (xI G, 7, .inl errs_f)), (bitsOf, .inl (xI G, 4, .inl (upd bitsOf_f si.toNatClampNeg wi))), (sizeOf, .inl (xI G, 4, .inl (upd sizeOf_f si.toNatClampNeg (0 : Int32)))), (cels, .inl (xI G, 96, .inl cels_f))] := hD
              refine lv_iconst (v := 0) hx hb dX8_sheet_90 (by decide) ?_
              refine lv_istore (lv' := [(4, .int (0 : Int32)), (0, .ref t), (1, .int si), (2, .int wi), (3, .int k)]) hx hb dX8_sheet_91 hl (by decide) rfl (fun ls hl => ?_)
              refine xLoop2 (body := (B_X8_sheet_93bbbbb errs_f bitsOf_f sizeOf_f si wi)) (fun (v93_0 : Int32) (v93_1 : Nat → Int32) H locs ls => va_P G.1 vwCl [(t, .inr (8, [.ref row, .ref kpt, .int images, .ref errs, .ref bitsOf, .ref sizeOf, .ref cels, .ref broken, .ref isFit, .ref breaks, .int mfit, .int known, .ref act, .ref wth, .ref facts, .ref pile, .int laid, .int hre, .int opnd, .int bad, .int usg, .ref trc, .int trcd, .int isP])), (errs, .inl (xI G, 7, .inl errs_f)), (bitsOf, .inl (xI G, 4, .inl (upd bitsOf_f si.toNatClampNeg wi))), (sizeOf, .inl (xI G, 4, .inl (upd sizeOf_f si.toNatClampNeg (0 : Int32)))), (cels, .inl (xI G, 96, .inl v93_1))] H ∧ va_D A [(t, .inr (8, [.ref row, .ref kpt, .int images, .ref errs, .ref bitsOf, .ref sizeOf, .ref cels, .ref broken, .ref isFit, .ref breaks, .int mfit, .int known, .ref act, .ref wth, .ref facts, .ref pile, .int laid, .int hre, .int opnd, .int bad, .int usg, .ref trc, .int trcd, .int isP])), (errs, .inl (xI G, 7, .inl errs_f)), (bitsOf, .inl (xI G, 4, .inl (upd bitsOf_f si.toNatClampNeg wi))), (sizeOf, .inl (xI G, 4, .inl (upd sizeOf_f si.toNatClampNeg (0 : Int32)))), (cels, .inl (xI G, 96, .inl v93_1))] ∧ va_S A s.heap H locs ∧ lv_has ls 5 [(0, .ref t), (1, .int si), (2, .int wi), (3, .int k), (4, .int v93_0)]) (fun N93 v93_0 v93_1 ih93 H locs ls hI hF => ?_) fuelC (0 : Int32) cels_f H locs ls ⟨hP, hD, hS, lv_sub hl [1, 2, 3, 4, 0] rfl⟩ hF
              obtain ⟨hP, hD, hS, hl⟩ := hI
              unfold B_X8_sheet_93bbbbb at hF
              refine lv_iload hx hb dX8_sheet_93 (lv_at hl 4 rfl) ?_
              refine lv_bipush (v := 24) hx hb dX8_sheet_95 (by decide) ?_
              refine lv_icmp_ge (tgt := 119) hx hb dX8_sheet_97 (by decide) (fun c97 => ?_) (fun c97 => ?_)
              · have hF := itP c97 hF
                refine lv_iconst (v := 1) hx hb dX8_sheet_119 (by decide) ?_
                obtain rfl := Option.some.inj hF
                rw [← hQ]
                exact W.iret (v := (1 : Int32)) hx hb hr (fun t ht hW => ⟨⟨_, (), rfl, ⟨rfl, rfl⟩, xLf hP ht⟩, hS.F ht⟩) hS.2.2 dX8_sheet_120
              · have hF := itN c97 hF
                refine lv_aload_n hx hb dX8_sheet_100 rfl (lv_at hl 0 rfl) ?_
                refine va_get (ci := 8) (v := .ref cels) (C := RX8) (T := TX8) (N := 24) hx hb hts (fun w h => tcons w (xin8 w h)) hown hK hP 0 rfl rfl 6 (by decide) (hts _ (tcons _ m142)) (fun _ h9 => h9) rfl dX8_sheet_101 ?_
                refine lv_bipush (v := 24) hx hb dX8_sheet_104 (by decide) ?_
                refine lv_iload_n hx hb dX8_sheet_106 rfl (lv_at hl 1 rfl) ?_
                refine lv_imul hx hb dX8_sheet_107 ?_
                refine lv_iload hx hb dX8_sheet_108 (lv_at hl 4 rfl) ?_
                refine lv_iadd hx hb dX8_sheet_110 ?_
                refine lv_iconst (v := 0) hx hb dX8_sheet_111 (by decide) ?_
                obtain ⟨g112, hF⟩ := gdS hF
                refine va_iast hx hb hK hP hD hS 4 0 rfl rfl g112 dX8_sheet_112 (fun H locs hP hD hS => ?_)
                have hP : va_P G.1 vwCl [(t, .inr (8, [.ref row, .ref kpt, .int images, .ref errs, .ref bitsOf, .ref sizeOf, .ref cels, .ref broken, .ref isFit, .ref breaks, .int mfit, .int known, .ref act, .ref wth, .ref facts, .ref pile, .int laid, .int hre, .int opnd, .int bad, .int usg, .ref trc, .int trcd, .int isP])), (errs, .inl (xI G, 7, .inl errs_f)), (bitsOf, .inl (xI G, 4, .inl (upd bitsOf_f si.toNatClampNeg wi))), (sizeOf, .inl (xI G, 4, .inl (upd sizeOf_f si.toNatClampNeg (0 : Int32)))), (cels, .inl (xI G, 96, .inl (upd v93_1 (((24 : Int32) * si) + v93_0).toNatClampNeg (0 : Int32))))] H := hP
                have hD : va_D A [(t, .inr (8, [.ref row, .ref kpt, .int images, .ref errs, .ref bitsOf, .ref sizeOf, .ref cels, .ref broken, .ref isFit, .ref breaks, .int mfit, .int known, .ref act, .ref wth, .ref facts, .ref pile, .int laid, .int hre, .int opnd, .int bad, .int usg, .ref trc, .int trcd, .int isP])), (errs, .inl (xI G, 7, .inl errs_f)), (bitsOf, .inl (xI G, 4, .inl (upd bitsOf_f si.toNatClampNeg wi))), (sizeOf, .inl (xI G, 4, .inl (upd sizeOf_f si.toNatClampNeg (0 : Int32)))), (cels, .inl (xI G, 96, .inl (upd v93_1 (((24 : Int32) * si) + v93_0).toNatClampNeg (0 : Int32))))] := hD
                refine lv_iinc (v := (v93_0 + (1 : Int32))) (lv' := [(4, .int (v93_0 + (1 : Int32))), (0, .ref t), (1, .int si), (2, .int wi), (3, .int k)]) hx hb dX8_sheet_113 hl (k := 4) rfl (xInc_1 _) (by decide) rfl (fun ls hl => ?_)
                refine lv_goto (tgt := 93) hx hb dX8_sheet_116 (by decide) ?_
                exact ih93 (v93_0 + (1 : Int32)) (upd v93_1 (((24 : Int32) * si) + v93_0).toNatClampNeg (0 : Int32)) H locs ls ⟨hP, hD, hS, lv_sub hl [1, 2, 3, 4, 0] rfl⟩ hF
          · have hF := itN c52 hF
            refine lv_iload_n hx hb dX8_sheet_55 rfl (lv_at hl 3 rfl) ?_
            refine lv_bipush (v := 24) hx hb dX8_sheet_56 (by decide) ?_
            refine lv_icmp_le (tgt := 68) hx hb dX8_sheet_58 (by decide) (fun c58 => ?_) (fun c58 => ?_)
            · have hF := itP c58 hF
              refine lv_aload_n hx hb dX8_sheet_68 rfl (lv_at hl 0 rfl) ?_
              refine va_get (ci := 8) (v := .ref bitsOf) (C := RX8) (T := TX8) (N := 24) hx hb hts (fun w h => tcons w (xin8 w h)) hown hK hP 0 rfl rfl 4 (by decide) (hts _ (tcons _ m140)) (fun _ h9 => h9) rfl dX8_sheet_69 ?_
              refine lv_iload_n hx hb dX8_sheet_72 rfl (lv_at hl 1 rfl) ?_
              refine lv_iload_n hx hb dX8_sheet_73 rfl (lv_at hl 2 rfl) ?_
              obtain ⟨g74, hF⟩ := gdS hF
              refine va_iast hx hb hK hP hD hS 2 0 rfl rfl g74 dX8_sheet_74 (fun H locs hP hD hS => ?_)
              have hP : va_P G.1 vwCl [(t, .inr (8, [.ref row, .ref kpt, .int images, .ref errs, .ref bitsOf, .ref sizeOf, .ref cels, .ref broken, .ref isFit, .ref breaks, .int mfit, .int known, .ref act, .ref wth, .ref facts, .ref pile, .int laid, .int hre, .int opnd, .int bad, .int usg, .ref trc, .int trcd, .int isP])), (errs, .inl (xI G, 7, .inl errs_f)), (bitsOf, .inl (xI G, 4, .inl (upd bitsOf_f si.toNatClampNeg wi))), (sizeOf, .inl (xI G, 4, .inl sizeOf_f)), (cels, .inl (xI G, 96, .inl cels_f))] H := hP
              have hD : va_D A [(t, .inr (8, [.ref row, .ref kpt, .int images, .ref errs, .ref bitsOf, .ref sizeOf, .ref cels, .ref broken, .ref isFit, .ref breaks, .int mfit, .int known, .ref act, .ref wth, .ref facts, .ref pile, .int laid, .int hre, .int opnd, .int bad, .int usg, .ref trc, .int trcd, .int isP])), (errs, .inl (xI G, 7, .inl errs_f)), (bitsOf, .inl (xI G, 4, .inl (upd bitsOf_f si.toNatClampNeg wi))), (sizeOf, .inl (xI G, 4, .inl sizeOf_f)), (cels, .inl (xI G, 96, .inl cels_f))] := hD
              refine lv_aload_n hx hb dX8_sheet_75 rfl (lv_at hl 0 rfl) ?_
              refine va_get (ci := 8) (v := .ref sizeOf) (C := RX8) (T := TX8) (N := 24) hx hb hts (fun w h => tcons w (xin8 w h)) hown hK hP 0 rfl rfl 5 (by decide) (hts _ (tcons _ m141)) (fun _ h9 => h9) rfl dX8_sheet_76 ?_
              refine lv_iload_n hx hb dX8_sheet_79 rfl (lv_at hl 1 rfl) ?_
              refine lv_iload_n hx hb dX8_sheet_80 rfl (lv_at hl 2 rfl) ?_
              refine lv_if_ne (tgt := 88) hx hb dX8_sheet_81 (by decide) (fun c81 => ?_) (fun c81 => ?_)
              · have hF := itN c81 hF
                refine lv_iload_n hx hb dX8_sheet_88 rfl (lv_at hl 3 rfl) ?_
                obtain ⟨g89, hF⟩ := gdS hF
                refine va_iast hx hb hK hP hD hS 3 0 rfl rfl g89 dX8_sheet_89 (fun H locs hP hD hS => ?_)
                have hP : va_P G.1 vwCl [(t, .inr (8, [.ref row, .ref kpt, .int images, .ref errs, .ref bitsOf, .ref sizeOf, .ref cels, .ref broken, .ref isFit, .ref breaks, .int mfit, .int known, .ref act, .ref wth, .ref facts, .ref pile, .int laid, .int hre, .int opnd, .int bad, .int usg, .ref trc, .int trcd, .int isP])), (errs, .inl (xI G, 7, .inl errs_f)), (bitsOf, .inl (xI G, 4, .inl (upd bitsOf_f si.toNatClampNeg wi))), (sizeOf, .inl (xI G, 4, .inl (upd sizeOf_f si.toNatClampNeg k))), (cels, .inl (xI G, 96, .inl cels_f))] H := hP
                have hD : va_D A [(t, .inr (8, [.ref row, .ref kpt, .int images, .ref errs, .ref bitsOf, .ref sizeOf, .ref cels, .ref broken, .ref isFit, .ref breaks, .int mfit, .int known, .ref act, .ref wth, .ref facts, .ref pile, .int laid, .int hre, .int opnd, .int bad, .int usg, .ref trc, .int trcd, .int isP])), (errs, .inl (xI G, 7, .inl errs_f)), (bitsOf, .inl (xI G, 4, .inl (upd bitsOf_f si.toNatClampNeg wi))), (sizeOf, .inl (xI G, 4, .inl (upd sizeOf_f si.toNatClampNeg k))), (cels, .inl (xI G, 96, .inl cels_f))] := hD
                refine lv_iconst (v := 0) hx hb dX8_sheet_90 (by decide) ?_
                refine lv_istore (lv' := [(4, .int (0 : Int32)), (0, .ref t), (1, .int si), (2, .int wi), (3, .int k)]) hx hb dX8_sheet_91 hl (by decide) rfl (fun ls hl => ?_)
                refine xLoop2 (body := (B_X8_sheet_93 errs_f bitsOf_f sizeOf_f si wi k)) (fun (v93_0 : Int32) (v93_1 : Nat → Int32) H locs ls => va_P G.1 vwCl [(t, .inr (8, [.ref row, .ref kpt, .int images, .ref errs, .ref bitsOf, .ref sizeOf, .ref cels, .ref broken, .ref isFit, .ref breaks, .int mfit, .int known, .ref act, .ref wth, .ref facts, .ref pile, .int laid, .int hre, .int opnd, .int bad, .int usg, .ref trc, .int trcd, .int isP])), (errs, .inl (xI G, 7, .inl errs_f)), (bitsOf, .inl (xI G, 4, .inl (upd bitsOf_f si.toNatClampNeg wi))), (sizeOf, .inl (xI G, 4, .inl (upd sizeOf_f si.toNatClampNeg k))), (cels, .inl (xI G, 96, .inl v93_1))] H ∧ va_D A [(t, .inr (8, [.ref row, .ref kpt, .int images, .ref errs, .ref bitsOf, .ref sizeOf, .ref cels, .ref broken, .ref isFit, .ref breaks, .int mfit, .int known, .ref act, .ref wth, .ref facts, .ref pile, .int laid, .int hre, .int opnd, .int bad, .int usg, .ref trc, .int trcd, .int isP])), (errs, .inl (xI G, 7, .inl errs_f)), (bitsOf, .inl (xI G, 4, .inl (upd bitsOf_f si.toNatClampNeg wi))), (sizeOf, .inl (xI G, 4, .inl (upd sizeOf_f si.toNatClampNeg k))), (cels, .inl (xI G, 96, .inl v93_1))] ∧ va_S A s.heap H locs ∧ lv_has ls 5 [(0, .ref t), (1, .int si), (2, .int wi), (3, .int k), (4, .int v93_0)]) (fun N93 v93_0 v93_1 ih93 H locs ls hI hF => ?_) fuelC (0 : Int32) cels_f H locs ls ⟨hP, hD, hS, lv_sub hl [1, 2, 3, 4, 0] rfl⟩ hF
                obtain ⟨hP, hD, hS, hl⟩ := hI
                unfold B_X8_sheet_93 at hF
                refine lv_iload hx hb dX8_sheet_93 (lv_at hl 4 rfl) ?_
                refine lv_bipush (v := 24) hx hb dX8_sheet_95 (by decide) ?_
                refine lv_icmp_ge (tgt := 119) hx hb dX8_sheet_97 (by decide) (fun c97 => ?_) (fun c97 => ?_)
                · have hF := itP c97 hF
                  refine lv_iconst (v := 1) hx hb dX8_sheet_119 (by decide) ?_
                  obtain rfl := Option.some.inj hF
                  rw [← hQ]
                  exact W.iret (v := (1 : Int32)) hx hb hr (fun t ht hW => ⟨⟨_, (), rfl, ⟨rfl, rfl⟩, xLf hP ht⟩, hS.F ht⟩) hS.2.2 dX8_sheet_120
                · have hF := itN c97 hF
                  refine lv_aload_n hx hb dX8_sheet_100 rfl (lv_at hl 0 rfl) ?_
                  refine va_get (ci := 8) (v := .ref cels) (C := RX8) (T := TX8) (N := 24) hx hb hts (fun w h => tcons w (xin8 w h)) hown hK hP 0 rfl rfl 6 (by decide) (hts _ (tcons _ m142)) (fun _ h9 => h9) rfl dX8_sheet_101 ?_
                  refine lv_bipush (v := 24) hx hb dX8_sheet_104 (by decide) ?_
                  refine lv_iload_n hx hb dX8_sheet_106 rfl (lv_at hl 1 rfl) ?_
                  refine lv_imul hx hb dX8_sheet_107 ?_
                  refine lv_iload hx hb dX8_sheet_108 (lv_at hl 4 rfl) ?_
                  refine lv_iadd hx hb dX8_sheet_110 ?_
                  refine lv_iconst (v := 0) hx hb dX8_sheet_111 (by decide) ?_
                  obtain ⟨g112, hF⟩ := gdS hF
                  refine va_iast hx hb hK hP hD hS 4 0 rfl rfl g112 dX8_sheet_112 (fun H locs hP hD hS => ?_)
                  have hP : va_P G.1 vwCl [(t, .inr (8, [.ref row, .ref kpt, .int images, .ref errs, .ref bitsOf, .ref sizeOf, .ref cels, .ref broken, .ref isFit, .ref breaks, .int mfit, .int known, .ref act, .ref wth, .ref facts, .ref pile, .int laid, .int hre, .int opnd, .int bad, .int usg, .ref trc, .int trcd, .int isP])), (errs, .inl (xI G, 7, .inl errs_f)), (bitsOf, .inl (xI G, 4, .inl (upd bitsOf_f si.toNatClampNeg wi))), (sizeOf, .inl (xI G, 4, .inl (upd sizeOf_f si.toNatClampNeg k))), (cels, .inl (xI G, 96, .inl (upd v93_1 (((24 : Int32) * si) + v93_0).toNatClampNeg (0 : Int32))))] H := hP
                  have hD : va_D A [(t, .inr (8, [.ref row, .ref kpt, .int images, .ref errs, .ref bitsOf, .ref sizeOf, .ref cels, .ref broken, .ref isFit, .ref breaks, .int mfit, .int known, .ref act, .ref wth, .ref facts, .ref pile, .int laid, .int hre, .int opnd, .int bad, .int usg, .ref trc, .int trcd, .int isP])), (errs, .inl (xI G, 7, .inl errs_f)), (bitsOf, .inl (xI G, 4, .inl (upd bitsOf_f si.toNatClampNeg wi))), (sizeOf, .inl (xI G, 4, .inl (upd sizeOf_f si.toNatClampNeg k))), (cels, .inl (xI G, 96, .inl (upd v93_1 (((24 : Int32) * si) + v93_0).toNatClampNeg (0 : Int32))))] := hD
                  refine lv_iinc (v := (v93_0 + (1 : Int32))) (lv' := [(4, .int (v93_0 + (1 : Int32))), (0, .ref t), (1, .int si), (2, .int wi), (3, .int k)]) hx hb dX8_sheet_113 hl (k := 4) rfl (xInc_1 _) (by decide) rfl (fun ls hl => ?_)
                  refine lv_goto (tgt := 93) hx hb dX8_sheet_116 (by decide) ?_
                  exact ih93 (v93_0 + (1 : Int32)) (upd v93_1 (((24 : Int32) * si) + v93_0).toNatClampNeg (0 : Int32)) H locs ls ⟨hP, hD, hS, lv_sub hl [1, 2, 3, 4, 0] rfl⟩ hF
              · have hF := itP c81 hF
                refine lv_iconst (v := 0) hx hb dX8_sheet_84 (by decide) ?_
                refine lv_goto (tgt := 89) hx hb dX8_sheet_85 (by decide) ?_
                obtain ⟨g89, hF⟩ := gdS hF
                refine va_iast hx hb hK hP hD hS 3 0 rfl rfl g89 dX8_sheet_89 (fun H locs hP hD hS => ?_)
                have hP : va_P G.1 vwCl [(t, .inr (8, [.ref row, .ref kpt, .int images, .ref errs, .ref bitsOf, .ref sizeOf, .ref cels, .ref broken, .ref isFit, .ref breaks, .int mfit, .int known, .ref act, .ref wth, .ref facts, .ref pile, .int laid, .int hre, .int opnd, .int bad, .int usg, .ref trc, .int trcd, .int isP])), (errs, .inl (xI G, 7, .inl errs_f)), (bitsOf, .inl (xI G, 4, .inl (upd bitsOf_f si.toNatClampNeg wi))), (sizeOf, .inl (xI G, 4, .inl (upd sizeOf_f si.toNatClampNeg (0 : Int32)))), (cels, .inl (xI G, 96, .inl cels_f))] H := hP
                have hD : va_D A [(t, .inr (8, [.ref row, .ref kpt, .int images, .ref errs, .ref bitsOf, .ref sizeOf, .ref cels, .ref broken, .ref isFit, .ref breaks, .int mfit, .int known, .ref act, .ref wth, .ref facts, .ref pile, .int laid, .int hre, .int opnd, .int bad, .int usg, .ref trc, .int trcd, .int isP])), (errs, .inl (xI G, 7, .inl errs_f)), (bitsOf, .inl (xI G, 4, .inl (upd bitsOf_f si.toNatClampNeg wi))), (sizeOf, .inl (xI G, 4, .inl (upd sizeOf_f si.toNatClampNeg (0 : Int32)))), (cels, .inl (xI G, 96, .inl cels_f))] := hD
                refine lv_iconst (v := 0) hx hb dX8_sheet_90 (by decide) ?_
                refine lv_istore (lv' := [(4, .int (0 : Int32)), (0, .ref t), (1, .int si), (2, .int wi), (3, .int k)]) hx hb dX8_sheet_91 hl (by decide) rfl (fun ls hl => ?_)
                refine xLoop2 (body := (B_X8_sheet_93bbbbbb errs_f bitsOf_f sizeOf_f si wi)) (fun (v93_0 : Int32) (v93_1 : Nat → Int32) H locs ls => va_P G.1 vwCl [(t, .inr (8, [.ref row, .ref kpt, .int images, .ref errs, .ref bitsOf, .ref sizeOf, .ref cels, .ref broken, .ref isFit, .ref breaks, .int mfit, .int known, .ref act, .ref wth, .ref facts, .ref pile, .int laid, .int hre, .int opnd, .int bad, .int usg, .ref trc, .int trcd, .int isP])), (errs, .inl (xI G, 7, .inl errs_f)), (bitsOf, .inl (xI G, 4, .inl (upd bitsOf_f si.toNatClampNeg wi))), (sizeOf, .inl (xI G, 4, .inl (upd sizeOf_f si.toNatClampNeg (0 : Int32)))), (cels, .inl (xI G, 96, .inl v93_1))] H ∧ va_D A [(t, .inr (8, [.ref row, .ref kpt, .int images, .ref errs, .ref bitsOf, .ref sizeOf, .ref cels, .ref broken, .ref isFit, .ref breaks, .int mfit, .int known, .ref act, .ref wth, .ref facts, .ref pile, .int laid, .int hre, .int opnd, .int bad, .int usg, .ref trc, .int trcd, .int isP])), (errs, .inl (xI G, 7, .inl errs_f)), (bitsOf, .inl (xI G, 4, .inl (upd bitsOf_f si.toNatClampNeg wi))), (sizeOf, .inl (xI G, 4, .inl (upd sizeOf_f si.toNatClampNeg (0 : Int32)))), (cels, .inl (xI G, 96, .inl v93_1))] ∧ va_S A s.heap H locs ∧ lv_has ls 5 [(0, .ref t), (1, .int si), (2, .int wi), (3, .int k), (4, .int v93_0)]) (fun N93 v93_0 v93_1 ih93 H locs ls hI hF => ?_) fuelC (0 : Int32) cels_f H locs ls ⟨hP, hD, hS, lv_sub hl [1, 2, 3, 4, 0] rfl⟩ hF
                obtain ⟨hP, hD, hS, hl⟩ := hI
                unfold B_X8_sheet_93bbbbbb at hF
                refine lv_iload hx hb dX8_sheet_93 (lv_at hl 4 rfl) ?_
                refine lv_bipush (v := 24) hx hb dX8_sheet_95 (by decide) ?_
                refine lv_icmp_ge (tgt := 119) hx hb dX8_sheet_97 (by decide) (fun c97 => ?_) (fun c97 => ?_)
                · have hF := itP c97 hF
                  refine lv_iconst (v := 1) hx hb dX8_sheet_119 (by decide) ?_
                  obtain rfl := Option.some.inj hF
                  rw [← hQ]
                  exact W.iret (v := (1 : Int32)) hx hb hr (fun t ht hW => ⟨⟨_, (), rfl, ⟨rfl, rfl⟩, xLf hP ht⟩, hS.F ht⟩) hS.2.2 dX8_sheet_120
                · have hF := itN c97 hF
                  refine lv_aload_n hx hb dX8_sheet_100 rfl (lv_at hl 0 rfl) ?_
                  refine va_get (ci := 8) (v := .ref cels) (C := RX8) (T := TX8) (N := 24) hx hb hts (fun w h => tcons w (xin8 w h)) hown hK hP 0 rfl rfl 6 (by decide) (hts _ (tcons _ m142)) (fun _ h9 => h9) rfl dX8_sheet_101 ?_
                  refine lv_bipush (v := 24) hx hb dX8_sheet_104 (by decide) ?_
                  refine lv_iload_n hx hb dX8_sheet_106 rfl (lv_at hl 1 rfl) ?_
                  refine lv_imul hx hb dX8_sheet_107 ?_
                  refine lv_iload hx hb dX8_sheet_108 (lv_at hl 4 rfl) ?_
                  refine lv_iadd hx hb dX8_sheet_110 ?_
                  refine lv_iconst (v := 0) hx hb dX8_sheet_111 (by decide) ?_
                  obtain ⟨g112, hF⟩ := gdS hF
                  refine va_iast hx hb hK hP hD hS 4 0 rfl rfl g112 dX8_sheet_112 (fun H locs hP hD hS => ?_)
                  have hP : va_P G.1 vwCl [(t, .inr (8, [.ref row, .ref kpt, .int images, .ref errs, .ref bitsOf, .ref sizeOf, .ref cels, .ref broken, .ref isFit, .ref breaks, .int mfit, .int known, .ref act, .ref wth, .ref facts, .ref pile, .int laid, .int hre, .int opnd, .int bad, .int usg, .ref trc, .int trcd, .int isP])), (errs, .inl (xI G, 7, .inl errs_f)), (bitsOf, .inl (xI G, 4, .inl (upd bitsOf_f si.toNatClampNeg wi))), (sizeOf, .inl (xI G, 4, .inl (upd sizeOf_f si.toNatClampNeg (0 : Int32)))), (cels, .inl (xI G, 96, .inl (upd v93_1 (((24 : Int32) * si) + v93_0).toNatClampNeg (0 : Int32))))] H := hP
                  have hD : va_D A [(t, .inr (8, [.ref row, .ref kpt, .int images, .ref errs, .ref bitsOf, .ref sizeOf, .ref cels, .ref broken, .ref isFit, .ref breaks, .int mfit, .int known, .ref act, .ref wth, .ref facts, .ref pile, .int laid, .int hre, .int opnd, .int bad, .int usg, .ref trc, .int trcd, .int isP])), (errs, .inl (xI G, 7, .inl errs_f)), (bitsOf, .inl (xI G, 4, .inl (upd bitsOf_f si.toNatClampNeg wi))), (sizeOf, .inl (xI G, 4, .inl (upd sizeOf_f si.toNatClampNeg (0 : Int32)))), (cels, .inl (xI G, 96, .inl (upd v93_1 (((24 : Int32) * si) + v93_0).toNatClampNeg (0 : Int32))))] := hD
                  refine lv_iinc (v := (v93_0 + (1 : Int32))) (lv' := [(4, .int (v93_0 + (1 : Int32))), (0, .ref t), (1, .int si), (2, .int wi), (3, .int k)]) hx hb dX8_sheet_113 hl (k := 4) rfl (xInc_1 _) (by decide) rfl (fun ls hl => ?_)
                  refine lv_goto (tgt := 93) hx hb dX8_sheet_116 (by decide) ?_
                  exact ih93 (v93_0 + (1 : Int32)) (upd v93_1 (((24 : Int32) * si) + v93_0).toNatClampNeg (0 : Int32)) H locs ls ⟨hP, hD, hS, lv_sub hl [1, 2, 3, 4, 0] rfl⟩ hF
            · have hF := itN c58 hF
              refine lv_aload_n hx hb dX8_sheet_61 rfl (lv_at hl 0 rfl) ?_
              refine lv_ldc (v := -1000000001) hx hb hown (hts _ (tcons _ m185)) dX8_sheet_62 ?_
              obtain ⟨u2, e2, hF⟩ := bdS hF
              refine xEndI (xRunV (As := [.int (-1000000001 : Int32)]) (rest := []) hZ (c_X8_error G t row kpt errs bitsOf sizeOf cels broken isFit breaks act wth facts pile trc images mfit known laid hre opnd bad usg trcd isP errs_f (-1000000001 : Int32) u2 e2 l H.size) m193 m194 m195 m5 m196 1 ⟨rfl, hdX8_error⟩ ⟨Nat.le_of_ble_eq_true rfl, Nat.le_of_ble_eq_true rfl⟩ ⟨rfl, rfl⟩ hP hD hS 0 8 rfl rfl rfl [0, 1] rfl rfl rfl hl.1 rfl (Nat.le_of_ble_eq_true rfl) dX8_sheet_64 ⟨Nat.zero_le _, Nat.zero_le _⟩) hP hD hS hA [0, 1] rfl rfl rfl (fun H locs n2 hP hD hS => ?_)
              have hP : va_P G.1 vwCl [(t, .inr (8, [.ref row, .ref kpt, .int images, .ref errs, .ref bitsOf, .ref sizeOf, .ref cels, .ref broken, .ref isFit, .ref breaks, .int mfit, .int known, .ref act, .ref wth, .ref facts, .ref pile, .int laid, .int hre, .int opnd, .int bad, .int usg, .ref trc, .int trcd, .int isP])), (errs, .inl (xI G, 7, .inl u2.2)), (bitsOf, .inl (xI G, 4, .inl bitsOf_f)), (sizeOf, .inl (xI G, 4, .inl sizeOf_f)), (cels, .inl (xI G, 96, .inl cels_f))] H := hP
              have hD : va_D A [(t, .inr (8, [.ref row, .ref kpt, .int images, .ref errs, .ref bitsOf, .ref sizeOf, .ref cels, .ref broken, .ref isFit, .ref breaks, .int mfit, .int known, .ref act, .ref wth, .ref facts, .ref pile, .int laid, .int hre, .int opnd, .int bad, .int usg, .ref trc, .int trcd, .int isP])), (errs, .inl (xI G, 7, .inl u2.2)), (bitsOf, .inl (xI G, 4, .inl bitsOf_f)), (sizeOf, .inl (xI G, 4, .inl sizeOf_f)), (cels, .inl (xI G, 96, .inl cels_f))] := hD
              obtain rfl := Option.some.inj hF
              rw [← hQ]
              exact W.iret (v := u2.1) hx hb hr (fun t ht hW => ⟨⟨_, (), rfl, ⟨rfl, rfl⟩, xLf hP ht⟩, hS.F ht⟩) hS.2.2 dX8_sheet_67
        · have hF := itN c37 hF
          refine lv_iload_n hx hb dX8_sheet_40 rfl (lv_at hl 3 rfl) ?_
          refine lv_if_ge (tgt := 51) hx hb dX8_sheet_41 (by decide) (fun c41 => ?_) (fun c41 => ?_)
          · have hF := itP c41 hF
            refine lv_iload_n hx hb dX8_sheet_51 rfl (lv_at hl 2 rfl) ?_
            refine lv_if_le (tgt := 68) hx hb dX8_sheet_52 (by decide) (fun c52 => ?_) (fun c52 => ?_)
            · have hF := itP c52 hF
              refine lv_aload_n hx hb dX8_sheet_68 rfl (lv_at hl 0 rfl) ?_
              refine va_get (ci := 8) (v := .ref bitsOf) (C := RX8) (T := TX8) (N := 24) hx hb hts (fun w h => tcons w (xin8 w h)) hown hK hP 0 rfl rfl 4 (by decide) (hts _ (tcons _ m140)) (fun _ h9 => h9) rfl dX8_sheet_69 ?_
              refine lv_iload_n hx hb dX8_sheet_72 rfl (lv_at hl 1 rfl) ?_
              refine lv_iload_n hx hb dX8_sheet_73 rfl (lv_at hl 2 rfl) ?_
              obtain ⟨g74, hF⟩ := gdS hF
              refine va_iast hx hb hK hP hD hS 2 0 rfl rfl g74 dX8_sheet_74 (fun H locs hP hD hS => ?_)
              have hP : va_P G.1 vwCl [(t, .inr (8, [.ref row, .ref kpt, .int images, .ref errs, .ref bitsOf, .ref sizeOf, .ref cels, .ref broken, .ref isFit, .ref breaks, .int mfit, .int known, .ref act, .ref wth, .ref facts, .ref pile, .int laid, .int hre, .int opnd, .int bad, .int usg, .ref trc, .int trcd, .int isP])), (errs, .inl (xI G, 7, .inl errs_f)), (bitsOf, .inl (xI G, 4, .inl (upd bitsOf_f si.toNatClampNeg wi))), (sizeOf, .inl (xI G, 4, .inl sizeOf_f)), (cels, .inl (xI G, 96, .inl cels_f))] H := hP
              have hD : va_D A [(t, .inr (8, [.ref row, .ref kpt, .int images, .ref errs, .ref bitsOf, .ref sizeOf, .ref cels, .ref broken, .ref isFit, .ref breaks, .int mfit, .int known, .ref act, .ref wth, .ref facts, .ref pile, .int laid, .int hre, .int opnd, .int bad, .int usg, .ref trc, .int trcd, .int isP])), (errs, .inl (xI G, 7, .inl errs_f)), (bitsOf, .inl (xI G, 4, .inl (upd bitsOf_f si.toNatClampNeg wi))), (sizeOf, .inl (xI G, 4, .inl sizeOf_f)), (cels, .inl (xI G, 96, .inl cels_f))] := hD
              refine lv_aload_n hx hb dX8_sheet_75 rfl (lv_at hl 0 rfl) ?_
              refine va_get (ci := 8) (v := .ref sizeOf) (C := RX8) (T := TX8) (N := 24) hx hb hts (fun w h => tcons w (xin8 w h)) hown hK hP 0 rfl rfl 5 (by decide) (hts _ (tcons _ m141)) (fun _ h9 => h9) rfl dX8_sheet_76 ?_
              refine lv_iload_n hx hb dX8_sheet_79 rfl (lv_at hl 1 rfl) ?_
              refine lv_iload_n hx hb dX8_sheet_80 rfl (lv_at hl 2 rfl) ?_
              refine lv_if_ne (tgt := 88) hx hb dX8_sheet_81 (by decide) (fun c81 => ?_) (fun c81 => ?_)
              · have hF := itN c81 hF
                refine lv_iload_n hx hb dX8_sheet_88 rfl (lv_at hl 3 rfl) ?_
                obtain ⟨g89, hF⟩ := gdS hF
                refine va_iast hx hb hK hP hD hS 3 0 rfl rfl g89 dX8_sheet_89 (fun H locs hP hD hS => ?_)
                have hP : va_P G.1 vwCl [(t, .inr (8, [.ref row, .ref kpt, .int images, .ref errs, .ref bitsOf, .ref sizeOf, .ref cels, .ref broken, .ref isFit, .ref breaks, .int mfit, .int known, .ref act, .ref wth, .ref facts, .ref pile, .int laid, .int hre, .int opnd, .int bad, .int usg, .ref trc, .int trcd, .int isP])), (errs, .inl (xI G, 7, .inl errs_f)), (bitsOf, .inl (xI G, 4, .inl (upd bitsOf_f si.toNatClampNeg wi))), (sizeOf, .inl (xI G, 4, .inl (upd sizeOf_f si.toNatClampNeg k))), (cels, .inl (xI G, 96, .inl cels_f))] H := hP
                have hD : va_D A [(t, .inr (8, [.ref row, .ref kpt, .int images, .ref errs, .ref bitsOf, .ref sizeOf, .ref cels, .ref broken, .ref isFit, .ref breaks, .int mfit, .int known, .ref act, .ref wth, .ref facts, .ref pile, .int laid, .int hre, .int opnd, .int bad, .int usg, .ref trc, .int trcd, .int isP])), (errs, .inl (xI G, 7, .inl errs_f)), (bitsOf, .inl (xI G, 4, .inl (upd bitsOf_f si.toNatClampNeg wi))), (sizeOf, .inl (xI G, 4, .inl (upd sizeOf_f si.toNatClampNeg k))), (cels, .inl (xI G, 96, .inl cels_f))] := hD
                refine lv_iconst (v := 0) hx hb dX8_sheet_90 (by decide) ?_
                refine lv_istore (lv' := [(4, .int (0 : Int32)), (0, .ref t), (1, .int si), (2, .int wi), (3, .int k)]) hx hb dX8_sheet_91 hl (by decide) rfl (fun ls hl => ?_)
                refine xLoop2 (body := (B_X8_sheet_93 errs_f bitsOf_f sizeOf_f si wi k)) (fun (v93_0 : Int32) (v93_1 : Nat → Int32) H locs ls => va_P G.1 vwCl [(t, .inr (8, [.ref row, .ref kpt, .int images, .ref errs, .ref bitsOf, .ref sizeOf, .ref cels, .ref broken, .ref isFit, .ref breaks, .int mfit, .int known, .ref act, .ref wth, .ref facts, .ref pile, .int laid, .int hre, .int opnd, .int bad, .int usg, .ref trc, .int trcd, .int isP])), (errs, .inl (xI G, 7, .inl errs_f)), (bitsOf, .inl (xI G, 4, .inl (upd bitsOf_f si.toNatClampNeg wi))), (sizeOf, .inl (xI G, 4, .inl (upd sizeOf_f si.toNatClampNeg k))), (cels, .inl (xI G, 96, .inl v93_1))] H ∧ va_D A [(t, .inr (8, [.ref row, .ref kpt, .int images, .ref errs, .ref bitsOf, .ref sizeOf, .ref cels, .ref broken, .ref isFit, .ref breaks, .int mfit, .int known, .ref act, .ref wth, .ref facts, .ref pile, .int laid, .int hre, .int opnd, .int bad, .int usg, .ref trc, .int trcd, .int isP])), (errs, .inl (xI G, 7, .inl errs_f)), (bitsOf, .inl (xI G, 4, .inl (upd bitsOf_f si.toNatClampNeg wi))), (sizeOf, .inl (xI G, 4, .inl (upd sizeOf_f si.toNatClampNeg k))), (cels, .inl (xI G, 96, .inl v93_1))] ∧ va_S A s.heap H locs ∧ lv_has ls 5 [(0, .ref t), (1, .int si), (2, .int wi), (3, .int k), (4, .int v93_0)]) (fun N93 v93_0 v93_1 ih93 H locs ls hI hF => ?_) fuelC (0 : Int32) cels_f H locs ls ⟨hP, hD, hS, lv_sub hl [1, 2, 3, 4, 0] rfl⟩ hF
                obtain ⟨hP, hD, hS, hl⟩ := hI
                unfold B_X8_sheet_93 at hF
                refine lv_iload hx hb dX8_sheet_93 (lv_at hl 4 rfl) ?_
                refine lv_bipush (v := 24) hx hb dX8_sheet_95 (by decide) ?_
                refine lv_icmp_ge (tgt := 119) hx hb dX8_sheet_97 (by decide) (fun c97 => ?_) (fun c97 => ?_)
                · have hF := itP c97 hF
                  refine lv_iconst (v := 1) hx hb dX8_sheet_119 (by decide) ?_
                  obtain rfl := Option.some.inj hF
                  rw [← hQ]
                  exact W.iret (v := (1 : Int32)) hx hb hr (fun t ht hW => ⟨⟨_, (), rfl, ⟨rfl, rfl⟩, xLf hP ht⟩, hS.F ht⟩) hS.2.2 dX8_sheet_120
                · have hF := itN c97 hF
                  refine lv_aload_n hx hb dX8_sheet_100 rfl (lv_at hl 0 rfl) ?_
                  refine va_get (ci := 8) (v := .ref cels) (C := RX8) (T := TX8) (N := 24) hx hb hts (fun w h => tcons w (xin8 w h)) hown hK hP 0 rfl rfl 6 (by decide) (hts _ (tcons _ m142)) (fun _ h9 => h9) rfl dX8_sheet_101 ?_
                  refine lv_bipush (v := 24) hx hb dX8_sheet_104 (by decide) ?_
                  refine lv_iload_n hx hb dX8_sheet_106 rfl (lv_at hl 1 rfl) ?_
                  refine lv_imul hx hb dX8_sheet_107 ?_
                  refine lv_iload hx hb dX8_sheet_108 (lv_at hl 4 rfl) ?_
                  refine lv_iadd hx hb dX8_sheet_110 ?_
                  refine lv_iconst (v := 0) hx hb dX8_sheet_111 (by decide) ?_
                  obtain ⟨g112, hF⟩ := gdS hF
                  refine va_iast hx hb hK hP hD hS 4 0 rfl rfl g112 dX8_sheet_112 (fun H locs hP hD hS => ?_)
                  have hP : va_P G.1 vwCl [(t, .inr (8, [.ref row, .ref kpt, .int images, .ref errs, .ref bitsOf, .ref sizeOf, .ref cels, .ref broken, .ref isFit, .ref breaks, .int mfit, .int known, .ref act, .ref wth, .ref facts, .ref pile, .int laid, .int hre, .int opnd, .int bad, .int usg, .ref trc, .int trcd, .int isP])), (errs, .inl (xI G, 7, .inl errs_f)), (bitsOf, .inl (xI G, 4, .inl (upd bitsOf_f si.toNatClampNeg wi))), (sizeOf, .inl (xI G, 4, .inl (upd sizeOf_f si.toNatClampNeg k))), (cels, .inl (xI G, 96, .inl (upd v93_1 (((24 : Int32) * si) + v93_0).toNatClampNeg (0 : Int32))))] H := hP
                  have hD : va_D A [(t, .inr (8, [.ref row, .ref kpt, .int images, .ref errs, .ref bitsOf, .ref sizeOf, .ref cels, .ref broken, .ref isFit, .ref breaks, .int mfit, .int known, .ref act, .ref wth, .ref facts, .ref pile, .int laid, .int hre, .int opnd, .int bad, .int usg, .ref trc, .int trcd, .int isP])), (errs, .inl (xI G, 7, .inl errs_f)), (bitsOf, .inl (xI G, 4, .inl (upd bitsOf_f si.toNatClampNeg wi))), (sizeOf, .inl (xI G, 4, .inl (upd sizeOf_f si.toNatClampNeg k))), (cels, .inl (xI G, 96, .inl (upd v93_1 (((24 : Int32) * si) + v93_0).toNatClampNeg (0 : Int32))))] := hD
                  refine lv_iinc (v := (v93_0 + (1 : Int32))) (lv' := [(4, .int (v93_0 + (1 : Int32))), (0, .ref t), (1, .int si), (2, .int wi), (3, .int k)]) hx hb dX8_sheet_113 hl (k := 4) rfl (xInc_1 _) (by decide) rfl (fun ls hl => ?_)
                  refine lv_goto (tgt := 93) hx hb dX8_sheet_116 (by decide) ?_
                  exact ih93 (v93_0 + (1 : Int32)) (upd v93_1 (((24 : Int32) * si) + v93_0).toNatClampNeg (0 : Int32)) H locs ls ⟨hP, hD, hS, lv_sub hl [1, 2, 3, 4, 0] rfl⟩ hF
              · have hF := itP c81 hF
                refine lv_iconst (v := 0) hx hb dX8_sheet_84 (by decide) ?_
                refine lv_goto (tgt := 89) hx hb dX8_sheet_85 (by decide) ?_
                obtain ⟨g89, hF⟩ := gdS hF
                refine va_iast hx hb hK hP hD hS 3 0 rfl rfl g89 dX8_sheet_89 (fun H locs hP hD hS => ?_)
                have hP : va_P G.1 vwCl [(t, .inr (8, [.ref row, .ref kpt, .int images, .ref errs, .ref bitsOf, .ref sizeOf, .ref cels, .ref broken, .ref isFit, .ref breaks, .int mfit, .int known, .ref act, .ref wth, .ref facts, .ref pile, .int laid, .int hre, .int opnd, .int bad, .int usg, .ref trc, .int trcd, .int isP])), (errs, .inl (xI G, 7, .inl errs_f)), (bitsOf, .inl (xI G, 4, .inl (upd bitsOf_f si.toNatClampNeg wi))), (sizeOf, .inl (xI G, 4, .inl (upd sizeOf_f si.toNatClampNeg (0 : Int32)))), (cels, .inl (xI G, 96, .inl cels_f))] H := hP
                have hD : va_D A [(t, .inr (8, [.ref row, .ref kpt, .int images, .ref errs, .ref bitsOf, .ref sizeOf, .ref cels, .ref broken, .ref isFit, .ref breaks, .int mfit, .int known, .ref act, .ref wth, .ref facts, .ref pile, .int laid, .int hre, .int opnd, .int bad, .int usg, .ref trc, .int trcd, .int isP])), (errs, .inl (xI G, 7, .inl errs_f)), (bitsOf, .inl (xI G, 4, .inl (upd bitsOf_f si.toNatClampNeg wi))), (sizeOf, .inl (xI G, 4, .inl (upd sizeOf_f si.toNatClampNeg (0 : Int32)))), (cels, .inl (xI G, 96, .inl cels_f))] := hD
                refine lv_iconst (v := 0) hx hb dX8_sheet_90 (by decide) ?_
                refine lv_istore (lv' := [(4, .int (0 : Int32)), (0, .ref t), (1, .int si), (2, .int wi), (3, .int k)]) hx hb dX8_sheet_91 hl (by decide) rfl (fun ls hl => ?_)
                refine xLoop2 (body := (B_X8_sheet_93bbbbbbb errs_f bitsOf_f sizeOf_f si wi)) (fun (v93_0 : Int32) (v93_1 : Nat → Int32) H locs ls => va_P G.1 vwCl [(t, .inr (8, [.ref row, .ref kpt, .int images, .ref errs, .ref bitsOf, .ref sizeOf, .ref cels, .ref broken, .ref isFit, .ref breaks, .int mfit, .int known, .ref act, .ref wth, .ref facts, .ref pile, .int laid, .int hre, .int opnd, .int bad, .int usg, .ref trc, .int trcd, .int isP])), (errs, .inl (xI G, 7, .inl errs_f)), (bitsOf, .inl (xI G, 4, .inl (upd bitsOf_f si.toNatClampNeg wi))), (sizeOf, .inl (xI G, 4, .inl (upd sizeOf_f si.toNatClampNeg (0 : Int32)))), (cels, .inl (xI G, 96, .inl v93_1))] H ∧ va_D A [(t, .inr (8, [.ref row, .ref kpt, .int images, .ref errs, .ref bitsOf, .ref sizeOf, .ref cels, .ref broken, .ref isFit, .ref breaks, .int mfit, .int known, .ref act, .ref wth, .ref facts, .ref pile, .int laid, .int hre, .int opnd, .int bad, .int usg, .ref trc, .int trcd, .int isP])), (errs, .inl (xI G, 7, .inl errs_f)), (bitsOf, .inl (xI G, 4, .inl (upd bitsOf_f si.toNatClampNeg wi))), (sizeOf, .inl (xI G, 4, .inl (upd sizeOf_f si.toNatClampNeg (0 : Int32)))), (cels, .inl (xI G, 96, .inl v93_1))] ∧ va_S A s.heap H locs ∧ lv_has ls 5 [(0, .ref t), (1, .int si), (2, .int wi), (3, .int k), (4, .int v93_0)]) (fun N93 v93_0 v93_1 ih93 H locs ls hI hF => ?_) fuelC (0 : Int32) cels_f H locs ls ⟨hP, hD, hS, lv_sub hl [1, 2, 3, 4, 0] rfl⟩ hF
                obtain ⟨hP, hD, hS, hl⟩ := hI
                unfold B_X8_sheet_93bbbbbbb at hF
                refine lv_iload hx hb dX8_sheet_93 (lv_at hl 4 rfl) ?_
                refine lv_bipush (v := 24) hx hb dX8_sheet_95 (by decide) ?_
                refine lv_icmp_ge (tgt := 119) hx hb dX8_sheet_97 (by decide) (fun c97 => ?_) (fun c97 => ?_)
                · have hF := itP c97 hF
                  refine lv_iconst (v := 1) hx hb dX8_sheet_119 (by decide) ?_
                  obtain rfl := Option.some.inj hF
                  rw [← hQ]
                  exact W.iret (v := (1 : Int32)) hx hb hr (fun t ht hW => ⟨⟨_, (), rfl, ⟨rfl, rfl⟩, xLf hP ht⟩, hS.F ht⟩) hS.2.2 dX8_sheet_120
                · have hF := itN c97 hF
                  refine lv_aload_n hx hb dX8_sheet_100 rfl (lv_at hl 0 rfl) ?_
                  refine va_get (ci := 8) (v := .ref cels) (C := RX8) (T := TX8) (N := 24) hx hb hts (fun w h => tcons w (xin8 w h)) hown hK hP 0 rfl rfl 6 (by decide) (hts _ (tcons _ m142)) (fun _ h9 => h9) rfl dX8_sheet_101 ?_
                  refine lv_bipush (v := 24) hx hb dX8_sheet_104 (by decide) ?_
                  refine lv_iload_n hx hb dX8_sheet_106 rfl (lv_at hl 1 rfl) ?_
                  refine lv_imul hx hb dX8_sheet_107 ?_
                  refine lv_iload hx hb dX8_sheet_108 (lv_at hl 4 rfl) ?_
                  refine lv_iadd hx hb dX8_sheet_110 ?_
                  refine lv_iconst (v := 0) hx hb dX8_sheet_111 (by decide) ?_
                  obtain ⟨g112, hF⟩ := gdS hF
                  refine va_iast hx hb hK hP hD hS 4 0 rfl rfl g112 dX8_sheet_112 (fun H locs hP hD hS => ?_)
                  have hP : va_P G.1 vwCl [(t, .inr (8, [.ref row, .ref kpt, .int images, .ref errs, .ref bitsOf, .ref sizeOf, .ref cels, .ref broken, .ref isFit, .ref breaks, .int mfit, .int known, .ref act, .ref wth, .ref facts, .ref pile, .int laid, .int hre, .int opnd, .int bad, .int usg, .ref trc, .int trcd, .int isP])), (errs, .inl (xI G, 7, .inl errs_f)), (bitsOf, .inl (xI G, 4, .inl (upd bitsOf_f si.toNatClampNeg wi))), (sizeOf, .inl (xI G, 4, .inl (upd sizeOf_f si.toNatClampNeg (0 : Int32)))), (cels, .inl (xI G, 96, .inl (upd v93_1 (((24 : Int32) * si) + v93_0).toNatClampNeg (0 : Int32))))] H := hP
                  have hD : va_D A [(t, .inr (8, [.ref row, .ref kpt, .int images, .ref errs, .ref bitsOf, .ref sizeOf, .ref cels, .ref broken, .ref isFit, .ref breaks, .int mfit, .int known, .ref act, .ref wth, .ref facts, .ref pile, .int laid, .int hre, .int opnd, .int bad, .int usg, .ref trc, .int trcd, .int isP])), (errs, .inl (xI G, 7, .inl errs_f)), (bitsOf, .inl (xI G, 4, .inl (upd bitsOf_f si.toNatClampNeg wi))), (sizeOf, .inl (xI G, 4, .inl (upd sizeOf_f si.toNatClampNeg (0 : Int32)))), (cels, .inl (xI G, 96, .inl (upd v93_1 (((24 : Int32) * si) + v93_0).toNatClampNeg (0 : Int32))))] := hD
                  refine lv_iinc (v := (v93_0 + (1 : Int32))) (lv' := [(4, .int (v93_0 + (1 : Int32))), (0, .ref t), (1, .int si), (2, .int wi), (3, .int k)]) hx hb dX8_sheet_113 hl (k := 4) rfl (xInc_1 _) (by decide) rfl (fun ls hl => ?_)
                  refine lv_goto (tgt := 93) hx hb dX8_sheet_116 (by decide) ?_
                  exact ih93 (v93_0 + (1 : Int32)) (upd v93_1 (((24 : Int32) * si) + v93_0).toNatClampNeg (0 : Int32)) H locs ls ⟨hP, hD, hS, lv_sub hl [1, 2, 3, 4, 0] rfl⟩ hF
            · have hF := itN c52 hF
              refine lv_iload_n hx hb dX8_sheet_55 rfl (lv_at hl 3 rfl) ?_
              refine lv_bipush (v := 24) hx hb dX8_sheet_56 (by decide) ?_
              refine lv_icmp_le (tgt := 68) hx hb dX8_sheet_58 (by decide) (fun c58 => ?_) (fun c58 => ?_)
              · have hF := itP c58 hF
                refine lv_aload_n hx hb dX8_sheet_68 rfl (lv_at hl 0 rfl) ?_
                refine va_get (ci := 8) (v := .ref bitsOf) (C := RX8) (T := TX8) (N := 24) hx hb hts (fun w h => tcons w (xin8 w h)) hown hK hP 0 rfl rfl 4 (by decide) (hts _ (tcons _ m140)) (fun _ h9 => h9) rfl dX8_sheet_69 ?_
                refine lv_iload_n hx hb dX8_sheet_72 rfl (lv_at hl 1 rfl) ?_
                refine lv_iload_n hx hb dX8_sheet_73 rfl (lv_at hl 2 rfl) ?_
                obtain ⟨g74, hF⟩ := gdS hF
                refine va_iast hx hb hK hP hD hS 2 0 rfl rfl g74 dX8_sheet_74 (fun H locs hP hD hS => ?_)
                have hP : va_P G.1 vwCl [(t, .inr (8, [.ref row, .ref kpt, .int images, .ref errs, .ref bitsOf, .ref sizeOf, .ref cels, .ref broken, .ref isFit, .ref breaks, .int mfit, .int known, .ref act, .ref wth, .ref facts, .ref pile, .int laid, .int hre, .int opnd, .int bad, .int usg, .ref trc, .int trcd, .int isP])), (errs, .inl (xI G, 7, .inl errs_f)), (bitsOf, .inl (xI G, 4, .inl (upd bitsOf_f si.toNatClampNeg wi))), (sizeOf, .inl (xI G, 4, .inl sizeOf_f)), (cels, .inl (xI G, 96, .inl cels_f))] H := hP
                have hD : va_D A [(t, .inr (8, [.ref row, .ref kpt, .int images, .ref errs, .ref bitsOf, .ref sizeOf, .ref cels, .ref broken, .ref isFit, .ref breaks, .int mfit, .int known, .ref act, .ref wth, .ref facts, .ref pile, .int laid, .int hre, .int opnd, .int bad, .int usg, .ref trc, .int trcd, .int isP])), (errs, .inl (xI G, 7, .inl errs_f)), (bitsOf, .inl (xI G, 4, .inl (upd bitsOf_f si.toNatClampNeg wi))), (sizeOf, .inl (xI G, 4, .inl sizeOf_f)), (cels, .inl (xI G, 96, .inl cels_f))] := hD
                refine lv_aload_n hx hb dX8_sheet_75 rfl (lv_at hl 0 rfl) ?_
                refine va_get (ci := 8) (v := .ref sizeOf) (C := RX8) (T := TX8) (N := 24) hx hb hts (fun w h => tcons w (xin8 w h)) hown hK hP 0 rfl rfl 5 (by decide) (hts _ (tcons _ m141)) (fun _ h9 => h9) rfl dX8_sheet_76 ?_
                refine lv_iload_n hx hb dX8_sheet_79 rfl (lv_at hl 1 rfl) ?_
                refine lv_iload_n hx hb dX8_sheet_80 rfl (lv_at hl 2 rfl) ?_
                refine lv_if_ne (tgt := 88) hx hb dX8_sheet_81 (by decide) (fun c81 => ?_) (fun c81 => ?_)
                · have hF := itN c81 hF
                  refine lv_iload_n hx hb dX8_sheet_88 rfl (lv_at hl 3 rfl) ?_
                  obtain ⟨g89, hF⟩ := gdS hF
                  refine va_iast hx hb hK hP hD hS 3 0 rfl rfl g89 dX8_sheet_89 (fun H locs hP hD hS => ?_)
                  have hP : va_P G.1 vwCl [(t, .inr (8, [.ref row, .ref kpt, .int images, .ref errs, .ref bitsOf, .ref sizeOf, .ref cels, .ref broken, .ref isFit, .ref breaks, .int mfit, .int known, .ref act, .ref wth, .ref facts, .ref pile, .int laid, .int hre, .int opnd, .int bad, .int usg, .ref trc, .int trcd, .int isP])), (errs, .inl (xI G, 7, .inl errs_f)), (bitsOf, .inl (xI G, 4, .inl (upd bitsOf_f si.toNatClampNeg wi))), (sizeOf, .inl (xI G, 4, .inl (upd sizeOf_f si.toNatClampNeg k))), (cels, .inl (xI G, 96, .inl cels_f))] H := hP
                  have hD : va_D A [(t, .inr (8, [.ref row, .ref kpt, .int images, .ref errs, .ref bitsOf, .ref sizeOf, .ref cels, .ref broken, .ref isFit, .ref breaks, .int mfit, .int known, .ref act, .ref wth, .ref facts, .ref pile, .int laid, .int hre, .int opnd, .int bad, .int usg, .ref trc, .int trcd, .int isP])), (errs, .inl (xI G, 7, .inl errs_f)), (bitsOf, .inl (xI G, 4, .inl (upd bitsOf_f si.toNatClampNeg wi))), (sizeOf, .inl (xI G, 4, .inl (upd sizeOf_f si.toNatClampNeg k))), (cels, .inl (xI G, 96, .inl cels_f))] := hD
                  refine lv_iconst (v := 0) hx hb dX8_sheet_90 (by decide) ?_
                  refine lv_istore (lv' := [(4, .int (0 : Int32)), (0, .ref t), (1, .int si), (2, .int wi), (3, .int k)]) hx hb dX8_sheet_91 hl (by decide) rfl (fun ls hl => ?_)
                  refine xLoop2 (body := (B_X8_sheet_93 errs_f bitsOf_f sizeOf_f si wi k)) (fun (v93_0 : Int32) (v93_1 : Nat → Int32) H locs ls => va_P G.1 vwCl [(t, .inr (8, [.ref row, .ref kpt, .int images, .ref errs, .ref bitsOf, .ref sizeOf, .ref cels, .ref broken, .ref isFit, .ref breaks, .int mfit, .int known, .ref act, .ref wth, .ref facts, .ref pile, .int laid, .int hre, .int opnd, .int bad, .int usg, .ref trc, .int trcd, .int isP])), (errs, .inl (xI G, 7, .inl errs_f)), (bitsOf, .inl (xI G, 4, .inl (upd bitsOf_f si.toNatClampNeg wi))), (sizeOf, .inl (xI G, 4, .inl (upd sizeOf_f si.toNatClampNeg k))), (cels, .inl (xI G, 96, .inl v93_1))] H ∧ va_D A [(t, .inr (8, [.ref row, .ref kpt, .int images, .ref errs, .ref bitsOf, .ref sizeOf, .ref cels, .ref broken, .ref isFit, .ref breaks, .int mfit, .int known, .ref act, .ref wth, .ref facts, .ref pile, .int laid, .int hre, .int opnd, .int bad, .int usg, .ref trc, .int trcd, .int isP])), (errs, .inl (xI G, 7, .inl errs_f)), (bitsOf, .inl (xI G, 4, .inl (upd bitsOf_f si.toNatClampNeg wi))), (sizeOf, .inl (xI G, 4, .inl (upd sizeOf_f si.toNatClampNeg k))), (cels, .inl (xI G, 96, .inl v93_1))] ∧ va_S A s.heap H locs ∧ lv_has ls 5 [(0, .ref t), (1, .int si), (2, .int wi), (3, .int k), (4, .int v93_0)]) (fun N93 v93_0 v93_1 ih93 H locs ls hI hF => ?_) fuelC (0 : Int32) cels_f H locs ls ⟨hP, hD, hS, lv_sub hl [1, 2, 3, 4, 0] rfl⟩ hF
                  obtain ⟨hP, hD, hS, hl⟩ := hI
                  unfold B_X8_sheet_93 at hF
                  refine lv_iload hx hb dX8_sheet_93 (lv_at hl 4 rfl) ?_
                  refine lv_bipush (v := 24) hx hb dX8_sheet_95 (by decide) ?_
                  refine lv_icmp_ge (tgt := 119) hx hb dX8_sheet_97 (by decide) (fun c97 => ?_) (fun c97 => ?_)
                  · have hF := itP c97 hF
                    refine lv_iconst (v := 1) hx hb dX8_sheet_119 (by decide) ?_
                    obtain rfl := Option.some.inj hF
                    rw [← hQ]
                    exact W.iret (v := (1 : Int32)) hx hb hr (fun t ht hW => ⟨⟨_, (), rfl, ⟨rfl, rfl⟩, xLf hP ht⟩, hS.F ht⟩) hS.2.2 dX8_sheet_120
                  · have hF := itN c97 hF
                    refine lv_aload_n hx hb dX8_sheet_100 rfl (lv_at hl 0 rfl) ?_
                    refine va_get (ci := 8) (v := .ref cels) (C := RX8) (T := TX8) (N := 24) hx hb hts (fun w h => tcons w (xin8 w h)) hown hK hP 0 rfl rfl 6 (by decide) (hts _ (tcons _ m142)) (fun _ h9 => h9) rfl dX8_sheet_101 ?_
                    refine lv_bipush (v := 24) hx hb dX8_sheet_104 (by decide) ?_
                    refine lv_iload_n hx hb dX8_sheet_106 rfl (lv_at hl 1 rfl) ?_
                    refine lv_imul hx hb dX8_sheet_107 ?_
                    refine lv_iload hx hb dX8_sheet_108 (lv_at hl 4 rfl) ?_
                    refine lv_iadd hx hb dX8_sheet_110 ?_
                    refine lv_iconst (v := 0) hx hb dX8_sheet_111 (by decide) ?_
                    obtain ⟨g112, hF⟩ := gdS hF
                    refine va_iast hx hb hK hP hD hS 4 0 rfl rfl g112 dX8_sheet_112 (fun H locs hP hD hS => ?_)
                    have hP : va_P G.1 vwCl [(t, .inr (8, [.ref row, .ref kpt, .int images, .ref errs, .ref bitsOf, .ref sizeOf, .ref cels, .ref broken, .ref isFit, .ref breaks, .int mfit, .int known, .ref act, .ref wth, .ref facts, .ref pile, .int laid, .int hre, .int opnd, .int bad, .int usg, .ref trc, .int trcd, .int isP])), (errs, .inl (xI G, 7, .inl errs_f)), (bitsOf, .inl (xI G, 4, .inl (upd bitsOf_f si.toNatClampNeg wi))), (sizeOf, .inl (xI G, 4, .inl (upd sizeOf_f si.toNatClampNeg k))), (cels, .inl (xI G, 96, .inl (upd v93_1 (((24 : Int32) * si) + v93_0).toNatClampNeg (0 : Int32))))] H := hP
                    have hD : va_D A [(t, .inr (8, [.ref row, .ref kpt, .int images, .ref errs, .ref bitsOf, .ref sizeOf, .ref cels, .ref broken, .ref isFit, .ref breaks, .int mfit, .int known, .ref act, .ref wth, .ref facts, .ref pile, .int laid, .int hre, .int opnd, .int bad, .int usg, .ref trc, .int trcd, .int isP])), (errs, .inl (xI G, 7, .inl errs_f)), (bitsOf, .inl (xI G, 4, .inl (upd bitsOf_f si.toNatClampNeg wi))), (sizeOf, .inl (xI G, 4, .inl (upd sizeOf_f si.toNatClampNeg k))), (cels, .inl (xI G, 96, .inl (upd v93_1 (((24 : Int32) * si) + v93_0).toNatClampNeg (0 : Int32))))] := hD
                    refine lv_iinc (v := (v93_0 + (1 : Int32))) (lv' := [(4, .int (v93_0 + (1 : Int32))), (0, .ref t), (1, .int si), (2, .int wi), (3, .int k)]) hx hb dX8_sheet_113 hl (k := 4) rfl (xInc_1 _) (by decide) rfl (fun ls hl => ?_)
                    refine lv_goto (tgt := 93) hx hb dX8_sheet_116 (by decide) ?_
                    exact ih93 (v93_0 + (1 : Int32)) (upd v93_1 (((24 : Int32) * si) + v93_0).toNatClampNeg (0 : Int32)) H locs ls ⟨hP, hD, hS, lv_sub hl [1, 2, 3, 4, 0] rfl⟩ hF
                · have hF := itP c81 hF
                  refine lv_iconst (v := 0) hx hb dX8_sheet_84 (by decide) ?_
                  refine lv_goto (tgt := 89) hx hb dX8_sheet_85 (by decide) ?_
                  obtain ⟨g89, hF⟩ := gdS hF
                  refine va_iast hx hb hK hP hD hS 3 0 rfl rfl g89 dX8_sheet_89 (fun H locs hP hD hS => ?_)
                  have hP : va_P G.1 vwCl [(t, .inr (8, [.ref row, .ref kpt, .int images, .ref errs, .ref bitsOf, .ref sizeOf, .ref cels, .ref broken, .ref isFit, .ref breaks, .int mfit, .int known, .ref act, .ref wth, .ref facts, .ref pile, .int laid, .int hre, .int opnd, .int bad, .int usg, .ref trc, .int trcd, .int isP])), (errs, .inl (xI G, 7, .inl errs_f)), (bitsOf, .inl (xI G, 4, .inl (upd bitsOf_f si.toNatClampNeg wi))), (sizeOf, .inl (xI G, 4, .inl (upd sizeOf_f si.toNatClampNeg (0 : Int32)))), (cels, .inl (xI G, 96, .inl cels_f))] H := hP
                  have hD : va_D A [(t, .inr (8, [.ref row, .ref kpt, .int images, .ref errs, .ref bitsOf, .ref sizeOf, .ref cels, .ref broken, .ref isFit, .ref breaks, .int mfit, .int known, .ref act, .ref wth, .ref facts, .ref pile, .int laid, .int hre, .int opnd, .int bad, .int usg, .ref trc, .int trcd, .int isP])), (errs, .inl (xI G, 7, .inl errs_f)), (bitsOf, .inl (xI G, 4, .inl (upd bitsOf_f si.toNatClampNeg wi))), (sizeOf, .inl (xI G, 4, .inl (upd sizeOf_f si.toNatClampNeg (0 : Int32)))), (cels, .inl (xI G, 96, .inl cels_f))] := hD
                  refine lv_iconst (v := 0) hx hb dX8_sheet_90 (by decide) ?_
                  refine lv_istore (lv' := [(4, .int (0 : Int32)), (0, .ref t), (1, .int si), (2, .int wi), (3, .int k)]) hx hb dX8_sheet_91 hl (by decide) rfl (fun ls hl => ?_)
                  refine xLoop2 (body := (B_X8_sheet_93bbbbbbbb errs_f bitsOf_f sizeOf_f si wi)) (fun (v93_0 : Int32) (v93_1 : Nat → Int32) H locs ls => va_P G.1 vwCl [(t, .inr (8, [.ref row, .ref kpt, .int images, .ref errs, .ref bitsOf, .ref sizeOf, .ref cels, .ref broken, .ref isFit, .ref breaks, .int mfit, .int known, .ref act, .ref wth, .ref facts, .ref pile, .int laid, .int hre, .int opnd, .int bad, .int usg, .ref trc, .int trcd, .int isP])), (errs, .inl (xI G, 7, .inl errs_f)), (bitsOf, .inl (xI G, 4, .inl (upd bitsOf_f si.toNatClampNeg wi))), (sizeOf, .inl (xI G, 4, .inl (upd sizeOf_f si.toNatClampNeg (0 : Int32)))), (cels, .inl (xI G, 96, .inl v93_1))] H ∧ va_D A [(t, .inr (8, [.ref row, .ref kpt, .int images, .ref errs, .ref bitsOf, .ref sizeOf, .ref cels, .ref broken, .ref isFit, .ref breaks, .int mfit, .int known, .ref act, .ref wth, .ref facts, .ref pile, .int laid, .int hre, .int opnd, .int bad, .int usg, .ref trc, .int trcd, .int isP])), (errs, .inl (xI G, 7, .inl errs_f)), (bitsOf, .inl (xI G, 4, .inl (upd bitsOf_f si.toNatClampNeg wi))), (sizeOf, .inl (xI G, 4, .inl (upd sizeOf_f si.toNatClampNeg (0 : Int32)))), (cels, .inl (xI G, 96, .inl v93_1))] ∧ va_S A s.heap H locs ∧ lv_has ls 5 [(0, .ref t), (1, .int si), (2, .int wi), (3, .int k), (4, .int v93_0)]) (fun N93 v93_0 v93_1 ih93 H locs ls hI hF => ?_) fuelC (0 : Int32) cels_f H locs ls ⟨hP, hD, hS, lv_sub hl [1, 2, 3, 4, 0] rfl⟩ hF
                  obtain ⟨hP, hD, hS, hl⟩ := hI
                  unfold B_X8_sheet_93bbbbbbbb at hF
                  refine lv_iload hx hb dX8_sheet_93 (lv_at hl 4 rfl) ?_
                  refine lv_bipush (v := 24) hx hb dX8_sheet_95 (by decide) ?_
                  refine lv_icmp_ge (tgt := 119) hx hb dX8_sheet_97 (by decide) (fun c97 => ?_) (fun c97 => ?_)
                  · have hF := itP c97 hF
                    refine lv_iconst (v := 1) hx hb dX8_sheet_119 (by decide) ?_
                    obtain rfl := Option.some.inj hF
                    rw [← hQ]
                    exact W.iret (v := (1 : Int32)) hx hb hr (fun t ht hW => ⟨⟨_, (), rfl, ⟨rfl, rfl⟩, xLf hP ht⟩, hS.F ht⟩) hS.2.2 dX8_sheet_120
                  · have hF := itN c97 hF
                    refine lv_aload_n hx hb dX8_sheet_100 rfl (lv_at hl 0 rfl) ?_
                    refine va_get (ci := 8) (v := .ref cels) (C := RX8) (T := TX8) (N := 24) hx hb hts (fun w h => tcons w (xin8 w h)) hown hK hP 0 rfl rfl 6 (by decide) (hts _ (tcons _ m142)) (fun _ h9 => h9) rfl dX8_sheet_101 ?_
                    refine lv_bipush (v := 24) hx hb dX8_sheet_104 (by decide) ?_
                    refine lv_iload_n hx hb dX8_sheet_106 rfl (lv_at hl 1 rfl) ?_
                    refine lv_imul hx hb dX8_sheet_107 ?_
                    refine lv_iload hx hb dX8_sheet_108 (lv_at hl 4 rfl) ?_
                    refine lv_iadd hx hb dX8_sheet_110 ?_
                    refine lv_iconst (v := 0) hx hb dX8_sheet_111 (by decide) ?_
                    obtain ⟨g112, hF⟩ := gdS hF
                    refine va_iast hx hb hK hP hD hS 4 0 rfl rfl g112 dX8_sheet_112 (fun H locs hP hD hS => ?_)
                    have hP : va_P G.1 vwCl [(t, .inr (8, [.ref row, .ref kpt, .int images, .ref errs, .ref bitsOf, .ref sizeOf, .ref cels, .ref broken, .ref isFit, .ref breaks, .int mfit, .int known, .ref act, .ref wth, .ref facts, .ref pile, .int laid, .int hre, .int opnd, .int bad, .int usg, .ref trc, .int trcd, .int isP])), (errs, .inl (xI G, 7, .inl errs_f)), (bitsOf, .inl (xI G, 4, .inl (upd bitsOf_f si.toNatClampNeg wi))), (sizeOf, .inl (xI G, 4, .inl (upd sizeOf_f si.toNatClampNeg (0 : Int32)))), (cels, .inl (xI G, 96, .inl (upd v93_1 (((24 : Int32) * si) + v93_0).toNatClampNeg (0 : Int32))))] H := hP
                    have hD : va_D A [(t, .inr (8, [.ref row, .ref kpt, .int images, .ref errs, .ref bitsOf, .ref sizeOf, .ref cels, .ref broken, .ref isFit, .ref breaks, .int mfit, .int known, .ref act, .ref wth, .ref facts, .ref pile, .int laid, .int hre, .int opnd, .int bad, .int usg, .ref trc, .int trcd, .int isP])), (errs, .inl (xI G, 7, .inl errs_f)), (bitsOf, .inl (xI G, 4, .inl (upd bitsOf_f si.toNatClampNeg wi))), (sizeOf, .inl (xI G, 4, .inl (upd sizeOf_f si.toNatClampNeg (0 : Int32)))), (cels, .inl (xI G, 96, .inl (upd v93_1 (((24 : Int32) * si) + v93_0).toNatClampNeg (0 : Int32))))] := hD
                    refine lv_iinc (v := (v93_0 + (1 : Int32))) (lv' := [(4, .int (v93_0 + (1 : Int32))), (0, .ref t), (1, .int si), (2, .int wi), (3, .int k)]) hx hb dX8_sheet_113 hl (k := 4) rfl (xInc_1 _) (by decide) rfl (fun ls hl => ?_)
                    refine lv_goto (tgt := 93) hx hb dX8_sheet_116 (by decide) ?_
                    exact ih93 (v93_0 + (1 : Int32)) (upd v93_1 (((24 : Int32) * si) + v93_0).toNatClampNeg (0 : Int32)) H locs ls ⟨hP, hD, hS, lv_sub hl [1, 2, 3, 4, 0] rfl⟩ hF
              · have hF := itN c58 hF
                refine lv_aload_n hx hb dX8_sheet_61 rfl (lv_at hl 0 rfl) ?_
                refine lv_ldc (v := -1000000001) hx hb hown (hts _ (tcons _ m185)) dX8_sheet_62 ?_
                obtain ⟨u2, e2, hF⟩ := bdS hF
                refine xEndI (xRunV (As := [.int (-1000000001 : Int32)]) (rest := []) hZ (c_X8_error G t row kpt errs bitsOf sizeOf cels broken isFit breaks act wth facts pile trc images mfit known laid hre opnd bad usg trcd isP errs_f (-1000000001 : Int32) u2 e2 l H.size) m193 m194 m195 m5 m196 1 ⟨rfl, hdX8_error⟩ ⟨Nat.le_of_ble_eq_true rfl, Nat.le_of_ble_eq_true rfl⟩ ⟨rfl, rfl⟩ hP hD hS 0 8 rfl rfl rfl [0, 1] rfl rfl rfl hl.1 rfl (Nat.le_of_ble_eq_true rfl) dX8_sheet_64 ⟨Nat.zero_le _, Nat.zero_le _⟩) hP hD hS hA [0, 1] rfl rfl rfl (fun H locs n2 hP hD hS => ?_)
                have hP : va_P G.1 vwCl [(t, .inr (8, [.ref row, .ref kpt, .int images, .ref errs, .ref bitsOf, .ref sizeOf, .ref cels, .ref broken, .ref isFit, .ref breaks, .int mfit, .int known, .ref act, .ref wth, .ref facts, .ref pile, .int laid, .int hre, .int opnd, .int bad, .int usg, .ref trc, .int trcd, .int isP])), (errs, .inl (xI G, 7, .inl u2.2)), (bitsOf, .inl (xI G, 4, .inl bitsOf_f)), (sizeOf, .inl (xI G, 4, .inl sizeOf_f)), (cels, .inl (xI G, 96, .inl cels_f))] H := hP
                have hD : va_D A [(t, .inr (8, [.ref row, .ref kpt, .int images, .ref errs, .ref bitsOf, .ref sizeOf, .ref cels, .ref broken, .ref isFit, .ref breaks, .int mfit, .int known, .ref act, .ref wth, .ref facts, .ref pile, .int laid, .int hre, .int opnd, .int bad, .int usg, .ref trc, .int trcd, .int isP])), (errs, .inl (xI G, 7, .inl u2.2)), (bitsOf, .inl (xI G, 4, .inl bitsOf_f)), (sizeOf, .inl (xI G, 4, .inl sizeOf_f)), (cels, .inl (xI G, 96, .inl cels_f))] := hD
                obtain rfl := Option.some.inj hF
                rw [← hQ]
                exact W.iret (v := u2.1) hx hb hr (fun t ht hW => ⟨⟨_, (), rfl, ⟨rfl, rfl⟩, xLf hP ht⟩, hS.F ht⟩) hS.2.2 dX8_sheet_67
          · have hF := itN c41 hF
            refine lv_aload_n hx hb dX8_sheet_44 rfl (lv_at hl 0 rfl) ?_
            refine lv_ldc (v := -1000000003) hx hb hown (hts _ (tcons _ m477)) dX8_sheet_45 ?_
            obtain ⟨u2, e2, hF⟩ := bdS hF
            refine xEndI (xRunV (As := [.int (-1000000003 : Int32)]) (rest := []) hZ (c_X8_error G t row kpt errs bitsOf sizeOf cels broken isFit breaks act wth facts pile trc images mfit known laid hre opnd bad usg trcd isP errs_f (-1000000003 : Int32) u2 e2 l H.size) m193 m194 m195 m5 m196 1 ⟨rfl, hdX8_error⟩ ⟨Nat.le_of_ble_eq_true rfl, Nat.le_of_ble_eq_true rfl⟩ ⟨rfl, rfl⟩ hP hD hS 0 8 rfl rfl rfl [0, 1] rfl rfl rfl hl.1 rfl (Nat.le_of_ble_eq_true rfl) dX8_sheet_47 ⟨Nat.zero_le _, Nat.zero_le _⟩) hP hD hS hA [0, 1] rfl rfl rfl (fun H locs n2 hP hD hS => ?_)
            have hP : va_P G.1 vwCl [(t, .inr (8, [.ref row, .ref kpt, .int images, .ref errs, .ref bitsOf, .ref sizeOf, .ref cels, .ref broken, .ref isFit, .ref breaks, .int mfit, .int known, .ref act, .ref wth, .ref facts, .ref pile, .int laid, .int hre, .int opnd, .int bad, .int usg, .ref trc, .int trcd, .int isP])), (errs, .inl (xI G, 7, .inl u2.2)), (bitsOf, .inl (xI G, 4, .inl bitsOf_f)), (sizeOf, .inl (xI G, 4, .inl sizeOf_f)), (cels, .inl (xI G, 96, .inl cels_f))] H := hP
            have hD : va_D A [(t, .inr (8, [.ref row, .ref kpt, .int images, .ref errs, .ref bitsOf, .ref sizeOf, .ref cels, .ref broken, .ref isFit, .ref breaks, .int mfit, .int known, .ref act, .ref wth, .ref facts, .ref pile, .int laid, .int hre, .int opnd, .int bad, .int usg, .ref trc, .int trcd, .int isP])), (errs, .inl (xI G, 7, .inl u2.2)), (bitsOf, .inl (xI G, 4, .inl bitsOf_f)), (sizeOf, .inl (xI G, 4, .inl sizeOf_f)), (cels, .inl (xI G, 96, .inl cels_f))] := hD
            obtain rfl := Option.some.inj hF
            rw [← hQ]
            exact W.iret (v := u2.1) hx hb hr (fun t ht hW => ⟨⟨_, (), rfl, ⟨rfl, rfl⟩, xLf hP ht⟩, hS.F ht⟩) hS.2.2 dX8_sheet_50
      · have hF := itN c14 hF
        refine lv_iload_n hx hb dX8_sheet_17 rfl (lv_at hl 2 rfl) ?_
        refine lv_bipush (v := 16) hx hb dX8_sheet_18 (by decide) ?_
        refine lv_icmp_eq (tgt := 36) hx hb dX8_sheet_20 (by decide) (fun c20 => ?_) (fun c20 => ?_)
        · have hF := itP c20 hF
          refine lv_iload_n hx hb dX8_sheet_36 rfl (lv_at hl 2 rfl) ?_
          refine lv_if_le (tgt := 51) hx hb dX8_sheet_37 (by decide) (fun c37 => ?_) (fun c37 => ?_)
          · have hF := itP c37 hF
            refine lv_iload_n hx hb dX8_sheet_51 rfl (lv_at hl 2 rfl) ?_
            refine lv_if_le (tgt := 68) hx hb dX8_sheet_52 (by decide) (fun c52 => ?_) (fun c52 => ?_)
            · have hF := itP c52 hF
              refine lv_aload_n hx hb dX8_sheet_68 rfl (lv_at hl 0 rfl) ?_
              refine va_get (ci := 8) (v := .ref bitsOf) (C := RX8) (T := TX8) (N := 24) hx hb hts (fun w h => tcons w (xin8 w h)) hown hK hP 0 rfl rfl 4 (by decide) (hts _ (tcons _ m140)) (fun _ h9 => h9) rfl dX8_sheet_69 ?_
              refine lv_iload_n hx hb dX8_sheet_72 rfl (lv_at hl 1 rfl) ?_
              refine lv_iload_n hx hb dX8_sheet_73 rfl (lv_at hl 2 rfl) ?_
              obtain ⟨g74, hF⟩ := gdS hF
              refine va_iast hx hb hK hP hD hS 2 0 rfl rfl g74 dX8_sheet_74 (fun H locs hP hD hS => ?_)
              have hP : va_P G.1 vwCl [(t, .inr (8, [.ref row, .ref kpt, .int images, .ref errs, .ref bitsOf, .ref sizeOf, .ref cels, .ref broken, .ref isFit, .ref breaks, .int mfit, .int known, .ref act, .ref wth, .ref facts, .ref pile, .int laid, .int hre, .int opnd, .int bad, .int usg, .ref trc, .int trcd, .int isP])), (errs, .inl (xI G, 7, .inl errs_f)), (bitsOf, .inl (xI G, 4, .inl (upd bitsOf_f si.toNatClampNeg wi))), (sizeOf, .inl (xI G, 4, .inl sizeOf_f)), (cels, .inl (xI G, 96, .inl cels_f))] H := hP
              have hD : va_D A [(t, .inr (8, [.ref row, .ref kpt, .int images, .ref errs, .ref bitsOf, .ref sizeOf, .ref cels, .ref broken, .ref isFit, .ref breaks, .int mfit, .int known, .ref act, .ref wth, .ref facts, .ref pile, .int laid, .int hre, .int opnd, .int bad, .int usg, .ref trc, .int trcd, .int isP])), (errs, .inl (xI G, 7, .inl errs_f)), (bitsOf, .inl (xI G, 4, .inl (upd bitsOf_f si.toNatClampNeg wi))), (sizeOf, .inl (xI G, 4, .inl sizeOf_f)), (cels, .inl (xI G, 96, .inl cels_f))] := hD
              refine lv_aload_n hx hb dX8_sheet_75 rfl (lv_at hl 0 rfl) ?_
              refine va_get (ci := 8) (v := .ref sizeOf) (C := RX8) (T := TX8) (N := 24) hx hb hts (fun w h => tcons w (xin8 w h)) hown hK hP 0 rfl rfl 5 (by decide) (hts _ (tcons _ m141)) (fun _ h9 => h9) rfl dX8_sheet_76 ?_
              refine lv_iload_n hx hb dX8_sheet_79 rfl (lv_at hl 1 rfl) ?_
              refine lv_iload_n hx hb dX8_sheet_80 rfl (lv_at hl 2 rfl) ?_
              refine lv_if_ne (tgt := 88) hx hb dX8_sheet_81 (by decide) (fun c81 => ?_) (fun c81 => ?_)
              · have hF := itN c81 hF
                refine lv_iload_n hx hb dX8_sheet_88 rfl (lv_at hl 3 rfl) ?_
                obtain ⟨g89, hF⟩ := gdS hF
                refine va_iast hx hb hK hP hD hS 3 0 rfl rfl g89 dX8_sheet_89 (fun H locs hP hD hS => ?_)
                have hP : va_P G.1 vwCl [(t, .inr (8, [.ref row, .ref kpt, .int images, .ref errs, .ref bitsOf, .ref sizeOf, .ref cels, .ref broken, .ref isFit, .ref breaks, .int mfit, .int known, .ref act, .ref wth, .ref facts, .ref pile, .int laid, .int hre, .int opnd, .int bad, .int usg, .ref trc, .int trcd, .int isP])), (errs, .inl (xI G, 7, .inl errs_f)), (bitsOf, .inl (xI G, 4, .inl (upd bitsOf_f si.toNatClampNeg wi))), (sizeOf, .inl (xI G, 4, .inl (upd sizeOf_f si.toNatClampNeg k))), (cels, .inl (xI G, 96, .inl cels_f))] H := hP
                have hD : va_D A [(t, .inr (8, [.ref row, .ref kpt, .int images, .ref errs, .ref bitsOf, .ref sizeOf, .ref cels, .ref broken, .ref isFit, .ref breaks, .int mfit, .int known, .ref act, .ref wth, .ref facts, .ref pile, .int laid, .int hre, .int opnd, .int bad, .int usg, .ref trc, .int trcd, .int isP])), (errs, .inl (xI G, 7, .inl errs_f)), (bitsOf, .inl (xI G, 4, .inl (upd bitsOf_f si.toNatClampNeg wi))), (sizeOf, .inl (xI G, 4, .inl (upd sizeOf_f si.toNatClampNeg k))), (cels, .inl (xI G, 96, .inl cels_f))] := hD
                refine lv_iconst (v := 0) hx hb dX8_sheet_90 (by decide) ?_
                refine lv_istore (lv' := [(4, .int (0 : Int32)), (0, .ref t), (1, .int si), (2, .int wi), (3, .int k)]) hx hb dX8_sheet_91 hl (by decide) rfl (fun ls hl => ?_)
                refine xLoop2 (body := (B_X8_sheet_93 errs_f bitsOf_f sizeOf_f si wi k)) (fun (v93_0 : Int32) (v93_1 : Nat → Int32) H locs ls => va_P G.1 vwCl [(t, .inr (8, [.ref row, .ref kpt, .int images, .ref errs, .ref bitsOf, .ref sizeOf, .ref cels, .ref broken, .ref isFit, .ref breaks, .int mfit, .int known, .ref act, .ref wth, .ref facts, .ref pile, .int laid, .int hre, .int opnd, .int bad, .int usg, .ref trc, .int trcd, .int isP])), (errs, .inl (xI G, 7, .inl errs_f)), (bitsOf, .inl (xI G, 4, .inl (upd bitsOf_f si.toNatClampNeg wi))), (sizeOf, .inl (xI G, 4, .inl (upd sizeOf_f si.toNatClampNeg k))), (cels, .inl (xI G, 96, .inl v93_1))] H ∧ va_D A [(t, .inr (8, [.ref row, .ref kpt, .int images, .ref errs, .ref bitsOf, .ref sizeOf, .ref cels, .ref broken, .ref isFit, .ref breaks, .int mfit, .int known, .ref act, .ref wth, .ref facts, .ref pile, .int laid, .int hre, .int opnd, .int bad, .int usg, .ref trc, .int trcd, .int isP])), (errs, .inl (xI G, 7, .inl errs_f)), (bitsOf, .inl (xI G, 4, .inl (upd bitsOf_f si.toNatClampNeg wi))), (sizeOf, .inl (xI G, 4, .inl (upd sizeOf_f si.toNatClampNeg k))), (cels, .inl (xI G, 96, .inl v93_1))] ∧ va_S A s.heap H locs ∧ lv_has ls 5 [(0, .ref t), (1, .int si), (2, .int wi), (3, .int k), (4, .int v93_0)]) (fun N93 v93_0 v93_1 ih93 H locs ls hI hF => ?_) fuelC (0 : Int32) cels_f H locs ls ⟨hP, hD, hS, lv_sub hl [1, 2, 3, 4, 0] rfl⟩ hF
                obtain ⟨hP, hD, hS, hl⟩ := hI
                unfold B_X8_sheet_93 at hF
                refine lv_iload hx hb dX8_sheet_93 (lv_at hl 4 rfl) ?_
                refine lv_bipush (v := 24) hx hb dX8_sheet_95 (by decide) ?_
                refine lv_icmp_ge (tgt := 119) hx hb dX8_sheet_97 (by decide) (fun c97 => ?_) (fun c97 => ?_)
                · have hF := itP c97 hF
                  refine lv_iconst (v := 1) hx hb dX8_sheet_119 (by decide) ?_
                  obtain rfl := Option.some.inj hF
                  rw [← hQ]
                  exact W.iret (v := (1 : Int32)) hx hb hr (fun t ht hW => ⟨⟨_, (), rfl, ⟨rfl, rfl⟩, xLf hP ht⟩, hS.F ht⟩) hS.2.2 dX8_sheet_120
                · have hF := itN c97 hF
                  refine lv_aload_n hx hb dX8_sheet_100 rfl (lv_at hl 0 rfl) ?_
                  refine va_get (ci := 8) (v := .ref cels) (C := RX8) (T := TX8) (N := 24) hx hb hts (fun w h => tcons w (xin8 w h)) hown hK hP 0 rfl rfl 6 (by decide) (hts _ (tcons _ m142)) (fun _ h9 => h9) rfl dX8_sheet_101 ?_
                  refine lv_bipush (v := 24) hx hb dX8_sheet_104 (by decide) ?_
                  refine lv_iload_n hx hb dX8_sheet_106 rfl (lv_at hl 1 rfl) ?_
                  refine lv_imul hx hb dX8_sheet_107 ?_
                  refine lv_iload hx hb dX8_sheet_108 (lv_at hl 4 rfl) ?_
                  refine lv_iadd hx hb dX8_sheet_110 ?_
                  refine lv_iconst (v := 0) hx hb dX8_sheet_111 (by decide) ?_
                  obtain ⟨g112, hF⟩ := gdS hF
                  refine va_iast hx hb hK hP hD hS 4 0 rfl rfl g112 dX8_sheet_112 (fun H locs hP hD hS => ?_)
                  have hP : va_P G.1 vwCl [(t, .inr (8, [.ref row, .ref kpt, .int images, .ref errs, .ref bitsOf, .ref sizeOf, .ref cels, .ref broken, .ref isFit, .ref breaks, .int mfit, .int known, .ref act, .ref wth, .ref facts, .ref pile, .int laid, .int hre, .int opnd, .int bad, .int usg, .ref trc, .int trcd, .int isP])), (errs, .inl (xI G, 7, .inl errs_f)), (bitsOf, .inl (xI G, 4, .inl (upd bitsOf_f si.toNatClampNeg wi))), (sizeOf, .inl (xI G, 4, .inl (upd sizeOf_f si.toNatClampNeg k))), (cels, .inl (xI G, 96, .inl (upd v93_1 (((24 : Int32) * si) + v93_0).toNatClampNeg (0 : Int32))))] H := hP
                  have hD : va_D A [(t, .inr (8, [.ref row, .ref kpt, .int images, .ref errs, .ref bitsOf, .ref sizeOf, .ref cels, .ref broken, .ref isFit, .ref breaks, .int mfit, .int known, .ref act, .ref wth, .ref facts, .ref pile, .int laid, .int hre, .int opnd, .int bad, .int usg, .ref trc, .int trcd, .int isP])), (errs, .inl (xI G, 7, .inl errs_f)), (bitsOf, .inl (xI G, 4, .inl (upd bitsOf_f si.toNatClampNeg wi))), (sizeOf, .inl (xI G, 4, .inl (upd sizeOf_f si.toNatClampNeg k))), (cels, .inl (xI G, 96, .inl (upd v93_1 (((24 : Int32) * si) + v93_0).toNatClampNeg (0 : Int32))))] := hD
                  refine lv_iinc (v := (v93_0 + (1 : Int32))) (lv' := [(4, .int (v93_0 + (1 : Int32))), (0, .ref t), (1, .int si), (2, .int wi), (3, .int k)]) hx hb dX8_sheet_113 hl (k := 4) rfl (xInc_1 _) (by decide) rfl (fun ls hl => ?_)
                  refine lv_goto (tgt := 93) hx hb dX8_sheet_116 (by decide) ?_
                  exact ih93 (v93_0 + (1 : Int32)) (upd v93_1 (((24 : Int32) * si) + v93_0).toNatClampNeg (0 : Int32)) H locs ls ⟨hP, hD, hS, lv_sub hl [1, 2, 3, 4, 0] rfl⟩ hF
              · have hF := itP c81 hF
                refine lv_iconst (v := 0) hx hb dX8_sheet_84 (by decide) ?_
                refine lv_goto (tgt := 89) hx hb dX8_sheet_85 (by decide) ?_
                obtain ⟨g89, hF⟩ := gdS hF
                refine va_iast hx hb hK hP hD hS 3 0 rfl rfl g89 dX8_sheet_89 (fun H locs hP hD hS => ?_)
                have hP : va_P G.1 vwCl [(t, .inr (8, [.ref row, .ref kpt, .int images, .ref errs, .ref bitsOf, .ref sizeOf, .ref cels, .ref broken, .ref isFit, .ref breaks, .int mfit, .int known, .ref act, .ref wth, .ref facts, .ref pile, .int laid, .int hre, .int opnd, .int bad, .int usg, .ref trc, .int trcd, .int isP])), (errs, .inl (xI G, 7, .inl errs_f)), (bitsOf, .inl (xI G, 4, .inl (upd bitsOf_f si.toNatClampNeg wi))), (sizeOf, .inl (xI G, 4, .inl (upd sizeOf_f si.toNatClampNeg (0 : Int32)))), (cels, .inl (xI G, 96, .inl cels_f))] H := hP
                have hD : va_D A [(t, .inr (8, [.ref row, .ref kpt, .int images, .ref errs, .ref bitsOf, .ref sizeOf, .ref cels, .ref broken, .ref isFit, .ref breaks, .int mfit, .int known, .ref act, .ref wth, .ref facts, .ref pile, .int laid, .int hre, .int opnd, .int bad, .int usg, .ref trc, .int trcd, .int isP])), (errs, .inl (xI G, 7, .inl errs_f)), (bitsOf, .inl (xI G, 4, .inl (upd bitsOf_f si.toNatClampNeg wi))), (sizeOf, .inl (xI G, 4, .inl (upd sizeOf_f si.toNatClampNeg (0 : Int32)))), (cels, .inl (xI G, 96, .inl cels_f))] := hD
                refine lv_iconst (v := 0) hx hb dX8_sheet_90 (by decide) ?_
                refine lv_istore (lv' := [(4, .int (0 : Int32)), (0, .ref t), (1, .int si), (2, .int wi), (3, .int k)]) hx hb dX8_sheet_91 hl (by decide) rfl (fun ls hl => ?_)
                refine xLoop2 (body := (B_X8_sheet_93bbbbbbbbb errs_f bitsOf_f sizeOf_f si wi)) (fun (v93_0 : Int32) (v93_1 : Nat → Int32) H locs ls => va_P G.1 vwCl [(t, .inr (8, [.ref row, .ref kpt, .int images, .ref errs, .ref bitsOf, .ref sizeOf, .ref cels, .ref broken, .ref isFit, .ref breaks, .int mfit, .int known, .ref act, .ref wth, .ref facts, .ref pile, .int laid, .int hre, .int opnd, .int bad, .int usg, .ref trc, .int trcd, .int isP])), (errs, .inl (xI G, 7, .inl errs_f)), (bitsOf, .inl (xI G, 4, .inl (upd bitsOf_f si.toNatClampNeg wi))), (sizeOf, .inl (xI G, 4, .inl (upd sizeOf_f si.toNatClampNeg (0 : Int32)))), (cels, .inl (xI G, 96, .inl v93_1))] H ∧ va_D A [(t, .inr (8, [.ref row, .ref kpt, .int images, .ref errs, .ref bitsOf, .ref sizeOf, .ref cels, .ref broken, .ref isFit, .ref breaks, .int mfit, .int known, .ref act, .ref wth, .ref facts, .ref pile, .int laid, .int hre, .int opnd, .int bad, .int usg, .ref trc, .int trcd, .int isP])), (errs, .inl (xI G, 7, .inl errs_f)), (bitsOf, .inl (xI G, 4, .inl (upd bitsOf_f si.toNatClampNeg wi))), (sizeOf, .inl (xI G, 4, .inl (upd sizeOf_f si.toNatClampNeg (0 : Int32)))), (cels, .inl (xI G, 96, .inl v93_1))] ∧ va_S A s.heap H locs ∧ lv_has ls 5 [(0, .ref t), (1, .int si), (2, .int wi), (3, .int k), (4, .int v93_0)]) (fun N93 v93_0 v93_1 ih93 H locs ls hI hF => ?_) fuelC (0 : Int32) cels_f H locs ls ⟨hP, hD, hS, lv_sub hl [1, 2, 3, 4, 0] rfl⟩ hF
                obtain ⟨hP, hD, hS, hl⟩ := hI
                unfold B_X8_sheet_93bbbbbbbbb at hF
                refine lv_iload hx hb dX8_sheet_93 (lv_at hl 4 rfl) ?_
                refine lv_bipush (v := 24) hx hb dX8_sheet_95 (by decide) ?_
                refine lv_icmp_ge (tgt := 119) hx hb dX8_sheet_97 (by decide) (fun c97 => ?_) (fun c97 => ?_)
                · have hF := itP c97 hF
                  refine lv_iconst (v := 1) hx hb dX8_sheet_119 (by decide) ?_
                  obtain rfl := Option.some.inj hF
                  rw [← hQ]
                  exact W.iret (v := (1 : Int32)) hx hb hr (fun t ht hW => ⟨⟨_, (), rfl, ⟨rfl, rfl⟩, xLf hP ht⟩, hS.F ht⟩) hS.2.2 dX8_sheet_120
                · have hF := itN c97 hF
                  refine lv_aload_n hx hb dX8_sheet_100 rfl (lv_at hl 0 rfl) ?_
                  refine va_get (ci := 8) (v := .ref cels) (C := RX8) (T := TX8) (N := 24) hx hb hts (fun w h => tcons w (xin8 w h)) hown hK hP 0 rfl rfl 6 (by decide) (hts _ (tcons _ m142)) (fun _ h9 => h9) rfl dX8_sheet_101 ?_
                  refine lv_bipush (v := 24) hx hb dX8_sheet_104 (by decide) ?_
                  refine lv_iload_n hx hb dX8_sheet_106 rfl (lv_at hl 1 rfl) ?_
                  refine lv_imul hx hb dX8_sheet_107 ?_
                  refine lv_iload hx hb dX8_sheet_108 (lv_at hl 4 rfl) ?_
                  refine lv_iadd hx hb dX8_sheet_110 ?_
                  refine lv_iconst (v := 0) hx hb dX8_sheet_111 (by decide) ?_
                  obtain ⟨g112, hF⟩ := gdS hF
                  refine va_iast hx hb hK hP hD hS 4 0 rfl rfl g112 dX8_sheet_112 (fun H locs hP hD hS => ?_)
                  have hP : va_P G.1 vwCl [(t, .inr (8, [.ref row, .ref kpt, .int images, .ref errs, .ref bitsOf, .ref sizeOf, .ref cels, .ref broken, .ref isFit, .ref breaks, .int mfit, .int known, .ref act, .ref wth, .ref facts, .ref pile, .int laid, .int hre, .int opnd, .int bad, .int usg, .ref trc, .int trcd, .int isP])), (errs, .inl (xI G, 7, .inl errs_f)), (bitsOf, .inl (xI G, 4, .inl (upd bitsOf_f si.toNatClampNeg wi))), (sizeOf, .inl (xI G, 4, .inl (upd sizeOf_f si.toNatClampNeg (0 : Int32)))), (cels, .inl (xI G, 96, .inl (upd v93_1 (((24 : Int32) * si) + v93_0).toNatClampNeg (0 : Int32))))] H := hP
                  have hD : va_D A [(t, .inr (8, [.ref row, .ref kpt, .int images, .ref errs, .ref bitsOf, .ref sizeOf, .ref cels, .ref broken, .ref isFit, .ref breaks, .int mfit, .int known, .ref act, .ref wth, .ref facts, .ref pile, .int laid, .int hre, .int opnd, .int bad, .int usg, .ref trc, .int trcd, .int isP])), (errs, .inl (xI G, 7, .inl errs_f)), (bitsOf, .inl (xI G, 4, .inl (upd bitsOf_f si.toNatClampNeg wi))), (sizeOf, .inl (xI G, 4, .inl (upd sizeOf_f si.toNatClampNeg (0 : Int32)))), (cels, .inl (xI G, 96, .inl (upd v93_1 (((24 : Int32) * si) + v93_0).toNatClampNeg (0 : Int32))))] := hD
                  refine lv_iinc (v := (v93_0 + (1 : Int32))) (lv' := [(4, .int (v93_0 + (1 : Int32))), (0, .ref t), (1, .int si), (2, .int wi), (3, .int k)]) hx hb dX8_sheet_113 hl (k := 4) rfl (xInc_1 _) (by decide) rfl (fun ls hl => ?_)
                  refine lv_goto (tgt := 93) hx hb dX8_sheet_116 (by decide) ?_
                  exact ih93 (v93_0 + (1 : Int32)) (upd v93_1 (((24 : Int32) * si) + v93_0).toNatClampNeg (0 : Int32)) H locs ls ⟨hP, hD, hS, lv_sub hl [1, 2, 3, 4, 0] rfl⟩ hF
            · have hF := itN c52 hF
              refine lv_iload_n hx hb dX8_sheet_55 rfl (lv_at hl 3 rfl) ?_
              refine lv_bipush (v := 24) hx hb dX8_sheet_56 (by decide) ?_
              refine lv_icmp_le (tgt := 68) hx hb dX8_sheet_58 (by decide) (fun c58 => ?_) (fun c58 => ?_)
              · have hF := itP c58 hF
                refine lv_aload_n hx hb dX8_sheet_68 rfl (lv_at hl 0 rfl) ?_
                refine va_get (ci := 8) (v := .ref bitsOf) (C := RX8) (T := TX8) (N := 24) hx hb hts (fun w h => tcons w (xin8 w h)) hown hK hP 0 rfl rfl 4 (by decide) (hts _ (tcons _ m140)) (fun _ h9 => h9) rfl dX8_sheet_69 ?_
                refine lv_iload_n hx hb dX8_sheet_72 rfl (lv_at hl 1 rfl) ?_
                refine lv_iload_n hx hb dX8_sheet_73 rfl (lv_at hl 2 rfl) ?_
                obtain ⟨g74, hF⟩ := gdS hF
                refine va_iast hx hb hK hP hD hS 2 0 rfl rfl g74 dX8_sheet_74 (fun H locs hP hD hS => ?_)
                have hP : va_P G.1 vwCl [(t, .inr (8, [.ref row, .ref kpt, .int images, .ref errs, .ref bitsOf, .ref sizeOf, .ref cels, .ref broken, .ref isFit, .ref breaks, .int mfit, .int known, .ref act, .ref wth, .ref facts, .ref pile, .int laid, .int hre, .int opnd, .int bad, .int usg, .ref trc, .int trcd, .int isP])), (errs, .inl (xI G, 7, .inl errs_f)), (bitsOf, .inl (xI G, 4, .inl (upd bitsOf_f si.toNatClampNeg wi))), (sizeOf, .inl (xI G, 4, .inl sizeOf_f)), (cels, .inl (xI G, 96, .inl cels_f))] H := hP
                have hD : va_D A [(t, .inr (8, [.ref row, .ref kpt, .int images, .ref errs, .ref bitsOf, .ref sizeOf, .ref cels, .ref broken, .ref isFit, .ref breaks, .int mfit, .int known, .ref act, .ref wth, .ref facts, .ref pile, .int laid, .int hre, .int opnd, .int bad, .int usg, .ref trc, .int trcd, .int isP])), (errs, .inl (xI G, 7, .inl errs_f)), (bitsOf, .inl (xI G, 4, .inl (upd bitsOf_f si.toNatClampNeg wi))), (sizeOf, .inl (xI G, 4, .inl sizeOf_f)), (cels, .inl (xI G, 96, .inl cels_f))] := hD
                refine lv_aload_n hx hb dX8_sheet_75 rfl (lv_at hl 0 rfl) ?_
                refine va_get (ci := 8) (v := .ref sizeOf) (C := RX8) (T := TX8) (N := 24) hx hb hts (fun w h => tcons w (xin8 w h)) hown hK hP 0 rfl rfl 5 (by decide) (hts _ (tcons _ m141)) (fun _ h9 => h9) rfl dX8_sheet_76 ?_
                refine lv_iload_n hx hb dX8_sheet_79 rfl (lv_at hl 1 rfl) ?_
                refine lv_iload_n hx hb dX8_sheet_80 rfl (lv_at hl 2 rfl) ?_
                refine lv_if_ne (tgt := 88) hx hb dX8_sheet_81 (by decide) (fun c81 => ?_) (fun c81 => ?_)
                · have hF := itN c81 hF
                  refine lv_iload_n hx hb dX8_sheet_88 rfl (lv_at hl 3 rfl) ?_
                  obtain ⟨g89, hF⟩ := gdS hF
                  refine va_iast hx hb hK hP hD hS 3 0 rfl rfl g89 dX8_sheet_89 (fun H locs hP hD hS => ?_)
                  have hP : va_P G.1 vwCl [(t, .inr (8, [.ref row, .ref kpt, .int images, .ref errs, .ref bitsOf, .ref sizeOf, .ref cels, .ref broken, .ref isFit, .ref breaks, .int mfit, .int known, .ref act, .ref wth, .ref facts, .ref pile, .int laid, .int hre, .int opnd, .int bad, .int usg, .ref trc, .int trcd, .int isP])), (errs, .inl (xI G, 7, .inl errs_f)), (bitsOf, .inl (xI G, 4, .inl (upd bitsOf_f si.toNatClampNeg wi))), (sizeOf, .inl (xI G, 4, .inl (upd sizeOf_f si.toNatClampNeg k))), (cels, .inl (xI G, 96, .inl cels_f))] H := hP
                  have hD : va_D A [(t, .inr (8, [.ref row, .ref kpt, .int images, .ref errs, .ref bitsOf, .ref sizeOf, .ref cels, .ref broken, .ref isFit, .ref breaks, .int mfit, .int known, .ref act, .ref wth, .ref facts, .ref pile, .int laid, .int hre, .int opnd, .int bad, .int usg, .ref trc, .int trcd, .int isP])), (errs, .inl (xI G, 7, .inl errs_f)), (bitsOf, .inl (xI G, 4, .inl (upd bitsOf_f si.toNatClampNeg wi))), (sizeOf, .inl (xI G, 4, .inl (upd sizeOf_f si.toNatClampNeg k))), (cels, .inl (xI G, 96, .inl cels_f))] := hD
                  refine lv_iconst (v := 0) hx hb dX8_sheet_90 (by decide) ?_
                  refine lv_istore (lv' := [(4, .int (0 : Int32)), (0, .ref t), (1, .int si), (2, .int wi), (3, .int k)]) hx hb dX8_sheet_91 hl (by decide) rfl (fun ls hl => ?_)
                  refine xLoop2 (body := (B_X8_sheet_93 errs_f bitsOf_f sizeOf_f si wi k)) (fun (v93_0 : Int32) (v93_1 : Nat → Int32) H locs ls => va_P G.1 vwCl [(t, .inr (8, [.ref row, .ref kpt, .int images, .ref errs, .ref bitsOf, .ref sizeOf, .ref cels, .ref broken, .ref isFit, .ref breaks, .int mfit, .int known, .ref act, .ref wth, .ref facts, .ref pile, .int laid, .int hre, .int opnd, .int bad, .int usg, .ref trc, .int trcd, .int isP])), (errs, .inl (xI G, 7, .inl errs_f)), (bitsOf, .inl (xI G, 4, .inl (upd bitsOf_f si.toNatClampNeg wi))), (sizeOf, .inl (xI G, 4, .inl (upd sizeOf_f si.toNatClampNeg k))), (cels, .inl (xI G, 96, .inl v93_1))] H ∧ va_D A [(t, .inr (8, [.ref row, .ref kpt, .int images, .ref errs, .ref bitsOf, .ref sizeOf, .ref cels, .ref broken, .ref isFit, .ref breaks, .int mfit, .int known, .ref act, .ref wth, .ref facts, .ref pile, .int laid, .int hre, .int opnd, .int bad, .int usg, .ref trc, .int trcd, .int isP])), (errs, .inl (xI G, 7, .inl errs_f)), (bitsOf, .inl (xI G, 4, .inl (upd bitsOf_f si.toNatClampNeg wi))), (sizeOf, .inl (xI G, 4, .inl (upd sizeOf_f si.toNatClampNeg k))), (cels, .inl (xI G, 96, .inl v93_1))] ∧ va_S A s.heap H locs ∧ lv_has ls 5 [(0, .ref t), (1, .int si), (2, .int wi), (3, .int k), (4, .int v93_0)]) (fun N93 v93_0 v93_1 ih93 H locs ls hI hF => ?_) fuelC (0 : Int32) cels_f H locs ls ⟨hP, hD, hS, lv_sub hl [1, 2, 3, 4, 0] rfl⟩ hF
                  obtain ⟨hP, hD, hS, hl⟩ := hI
                  unfold B_X8_sheet_93 at hF
                  refine lv_iload hx hb dX8_sheet_93 (lv_at hl 4 rfl) ?_
                  refine lv_bipush (v := 24) hx hb dX8_sheet_95 (by decide) ?_
                  refine lv_icmp_ge (tgt := 119) hx hb dX8_sheet_97 (by decide) (fun c97 => ?_) (fun c97 => ?_)
                  · have hF := itP c97 hF
                    refine lv_iconst (v := 1) hx hb dX8_sheet_119 (by decide) ?_
                    obtain rfl := Option.some.inj hF
                    rw [← hQ]
                    exact W.iret (v := (1 : Int32)) hx hb hr (fun t ht hW => ⟨⟨_, (), rfl, ⟨rfl, rfl⟩, xLf hP ht⟩, hS.F ht⟩) hS.2.2 dX8_sheet_120
                  · have hF := itN c97 hF
                    refine lv_aload_n hx hb dX8_sheet_100 rfl (lv_at hl 0 rfl) ?_
                    refine va_get (ci := 8) (v := .ref cels) (C := RX8) (T := TX8) (N := 24) hx hb hts (fun w h => tcons w (xin8 w h)) hown hK hP 0 rfl rfl 6 (by decide) (hts _ (tcons _ m142)) (fun _ h9 => h9) rfl dX8_sheet_101 ?_
                    refine lv_bipush (v := 24) hx hb dX8_sheet_104 (by decide) ?_
                    refine lv_iload_n hx hb dX8_sheet_106 rfl (lv_at hl 1 rfl) ?_
                    refine lv_imul hx hb dX8_sheet_107 ?_
                    refine lv_iload hx hb dX8_sheet_108 (lv_at hl 4 rfl) ?_
                    refine lv_iadd hx hb dX8_sheet_110 ?_
                    refine lv_iconst (v := 0) hx hb dX8_sheet_111 (by decide) ?_
                    obtain ⟨g112, hF⟩ := gdS hF
                    refine va_iast hx hb hK hP hD hS 4 0 rfl rfl g112 dX8_sheet_112 (fun H locs hP hD hS => ?_)
                    have hP : va_P G.1 vwCl [(t, .inr (8, [.ref row, .ref kpt, .int images, .ref errs, .ref bitsOf, .ref sizeOf, .ref cels, .ref broken, .ref isFit, .ref breaks, .int mfit, .int known, .ref act, .ref wth, .ref facts, .ref pile, .int laid, .int hre, .int opnd, .int bad, .int usg, .ref trc, .int trcd, .int isP])), (errs, .inl (xI G, 7, .inl errs_f)), (bitsOf, .inl (xI G, 4, .inl (upd bitsOf_f si.toNatClampNeg wi))), (sizeOf, .inl (xI G, 4, .inl (upd sizeOf_f si.toNatClampNeg k))), (cels, .inl (xI G, 96, .inl (upd v93_1 (((24 : Int32) * si) + v93_0).toNatClampNeg (0 : Int32))))] H := hP
                    have hD : va_D A [(t, .inr (8, [.ref row, .ref kpt, .int images, .ref errs, .ref bitsOf, .ref sizeOf, .ref cels, .ref broken, .ref isFit, .ref breaks, .int mfit, .int known, .ref act, .ref wth, .ref facts, .ref pile, .int laid, .int hre, .int opnd, .int bad, .int usg, .ref trc, .int trcd, .int isP])), (errs, .inl (xI G, 7, .inl errs_f)), (bitsOf, .inl (xI G, 4, .inl (upd bitsOf_f si.toNatClampNeg wi))), (sizeOf, .inl (xI G, 4, .inl (upd sizeOf_f si.toNatClampNeg k))), (cels, .inl (xI G, 96, .inl (upd v93_1 (((24 : Int32) * si) + v93_0).toNatClampNeg (0 : Int32))))] := hD
                    refine lv_iinc (v := (v93_0 + (1 : Int32))) (lv' := [(4, .int (v93_0 + (1 : Int32))), (0, .ref t), (1, .int si), (2, .int wi), (3, .int k)]) hx hb dX8_sheet_113 hl (k := 4) rfl (xInc_1 _) (by decide) rfl (fun ls hl => ?_)
                    refine lv_goto (tgt := 93) hx hb dX8_sheet_116 (by decide) ?_
                    exact ih93 (v93_0 + (1 : Int32)) (upd v93_1 (((24 : Int32) * si) + v93_0).toNatClampNeg (0 : Int32)) H locs ls ⟨hP, hD, hS, lv_sub hl [1, 2, 3, 4, 0] rfl⟩ hF
                · have hF := itP c81 hF
                  refine lv_iconst (v := 0) hx hb dX8_sheet_84 (by decide) ?_
                  refine lv_goto (tgt := 89) hx hb dX8_sheet_85 (by decide) ?_
                  obtain ⟨g89, hF⟩ := gdS hF
                  refine va_iast hx hb hK hP hD hS 3 0 rfl rfl g89 dX8_sheet_89 (fun H locs hP hD hS => ?_)
                  have hP : va_P G.1 vwCl [(t, .inr (8, [.ref row, .ref kpt, .int images, .ref errs, .ref bitsOf, .ref sizeOf, .ref cels, .ref broken, .ref isFit, .ref breaks, .int mfit, .int known, .ref act, .ref wth, .ref facts, .ref pile, .int laid, .int hre, .int opnd, .int bad, .int usg, .ref trc, .int trcd, .int isP])), (errs, .inl (xI G, 7, .inl errs_f)), (bitsOf, .inl (xI G, 4, .inl (upd bitsOf_f si.toNatClampNeg wi))), (sizeOf, .inl (xI G, 4, .inl (upd sizeOf_f si.toNatClampNeg (0 : Int32)))), (cels, .inl (xI G, 96, .inl cels_f))] H := hP
                  have hD : va_D A [(t, .inr (8, [.ref row, .ref kpt, .int images, .ref errs, .ref bitsOf, .ref sizeOf, .ref cels, .ref broken, .ref isFit, .ref breaks, .int mfit, .int known, .ref act, .ref wth, .ref facts, .ref pile, .int laid, .int hre, .int opnd, .int bad, .int usg, .ref trc, .int trcd, .int isP])), (errs, .inl (xI G, 7, .inl errs_f)), (bitsOf, .inl (xI G, 4, .inl (upd bitsOf_f si.toNatClampNeg wi))), (sizeOf, .inl (xI G, 4, .inl (upd sizeOf_f si.toNatClampNeg (0 : Int32)))), (cels, .inl (xI G, 96, .inl cels_f))] := hD
                  refine lv_iconst (v := 0) hx hb dX8_sheet_90 (by decide) ?_
                  refine lv_istore (lv' := [(4, .int (0 : Int32)), (0, .ref t), (1, .int si), (2, .int wi), (3, .int k)]) hx hb dX8_sheet_91 hl (by decide) rfl (fun ls hl => ?_)
                  refine xLoop2 (body := (B_X8_sheet_93bbbbbbbbbb errs_f bitsOf_f sizeOf_f si wi)) (fun (v93_0 : Int32) (v93_1 : Nat → Int32) H locs ls => va_P G.1 vwCl [(t, .inr (8, [.ref row, .ref kpt, .int images, .ref errs, .ref bitsOf, .ref sizeOf, .ref cels, .ref broken, .ref isFit, .ref breaks, .int mfit, .int known, .ref act, .ref wth, .ref facts, .ref pile, .int laid, .int hre, .int opnd, .int bad, .int usg, .ref trc, .int trcd, .int isP])), (errs, .inl (xI G, 7, .inl errs_f)), (bitsOf, .inl (xI G, 4, .inl (upd bitsOf_f si.toNatClampNeg wi))), (sizeOf, .inl (xI G, 4, .inl (upd sizeOf_f si.toNatClampNeg (0 : Int32)))), (cels, .inl (xI G, 96, .inl v93_1))] H ∧ va_D A [(t, .inr (8, [.ref row, .ref kpt, .int images, .ref errs, .ref bitsOf, .ref sizeOf, .ref cels, .ref broken, .ref isFit, .ref breaks, .int mfit, .int known, .ref act, .ref wth, .ref facts, .ref pile, .int laid, .int hre, .int opnd, .int bad, .int usg, .ref trc, .int trcd, .int isP])), (errs, .inl (xI G, 7, .inl errs_f)), (bitsOf, .inl (xI G, 4, .inl (upd bitsOf_f si.toNatClampNeg wi))), (sizeOf, .inl (xI G, 4, .inl (upd sizeOf_f si.toNatClampNeg (0 : Int32)))), (cels, .inl (xI G, 96, .inl v93_1))] ∧ va_S A s.heap H locs ∧ lv_has ls 5 [(0, .ref t), (1, .int si), (2, .int wi), (3, .int k), (4, .int v93_0)]) (fun N93 v93_0 v93_1 ih93 H locs ls hI hF => ?_) fuelC (0 : Int32) cels_f H locs ls ⟨hP, hD, hS, lv_sub hl [1, 2, 3, 4, 0] rfl⟩ hF
                  obtain ⟨hP, hD, hS, hl⟩ := hI
                  unfold B_X8_sheet_93bbbbbbbbbb at hF
                  refine lv_iload hx hb dX8_sheet_93 (lv_at hl 4 rfl) ?_
                  refine lv_bipush (v := 24) hx hb dX8_sheet_95 (by decide) ?_
                  refine lv_icmp_ge (tgt := 119) hx hb dX8_sheet_97 (by decide) (fun c97 => ?_) (fun c97 => ?_)
                  · have hF := itP c97 hF
                    refine lv_iconst (v := 1) hx hb dX8_sheet_119 (by decide) ?_
                    obtain rfl := Option.some.inj hF
                    rw [← hQ]
                    exact W.iret (v := (1 : Int32)) hx hb hr (fun t ht hW => ⟨⟨_, (), rfl, ⟨rfl, rfl⟩, xLf hP ht⟩, hS.F ht⟩) hS.2.2 dX8_sheet_120
                  · have hF := itN c97 hF
                    refine lv_aload_n hx hb dX8_sheet_100 rfl (lv_at hl 0 rfl) ?_
                    refine va_get (ci := 8) (v := .ref cels) (C := RX8) (T := TX8) (N := 24) hx hb hts (fun w h => tcons w (xin8 w h)) hown hK hP 0 rfl rfl 6 (by decide) (hts _ (tcons _ m142)) (fun _ h9 => h9) rfl dX8_sheet_101 ?_
                    refine lv_bipush (v := 24) hx hb dX8_sheet_104 (by decide) ?_
                    refine lv_iload_n hx hb dX8_sheet_106 rfl (lv_at hl 1 rfl) ?_
                    refine lv_imul hx hb dX8_sheet_107 ?_
                    refine lv_iload hx hb dX8_sheet_108 (lv_at hl 4 rfl) ?_
                    refine lv_iadd hx hb dX8_sheet_110 ?_
                    refine lv_iconst (v := 0) hx hb dX8_sheet_111 (by decide) ?_
                    obtain ⟨g112, hF⟩ := gdS hF
                    refine va_iast hx hb hK hP hD hS 4 0 rfl rfl g112 dX8_sheet_112 (fun H locs hP hD hS => ?_)
                    have hP : va_P G.1 vwCl [(t, .inr (8, [.ref row, .ref kpt, .int images, .ref errs, .ref bitsOf, .ref sizeOf, .ref cels, .ref broken, .ref isFit, .ref breaks, .int mfit, .int known, .ref act, .ref wth, .ref facts, .ref pile, .int laid, .int hre, .int opnd, .int bad, .int usg, .ref trc, .int trcd, .int isP])), (errs, .inl (xI G, 7, .inl errs_f)), (bitsOf, .inl (xI G, 4, .inl (upd bitsOf_f si.toNatClampNeg wi))), (sizeOf, .inl (xI G, 4, .inl (upd sizeOf_f si.toNatClampNeg (0 : Int32)))), (cels, .inl (xI G, 96, .inl (upd v93_1 (((24 : Int32) * si) + v93_0).toNatClampNeg (0 : Int32))))] H := hP
                    have hD : va_D A [(t, .inr (8, [.ref row, .ref kpt, .int images, .ref errs, .ref bitsOf, .ref sizeOf, .ref cels, .ref broken, .ref isFit, .ref breaks, .int mfit, .int known, .ref act, .ref wth, .ref facts, .ref pile, .int laid, .int hre, .int opnd, .int bad, .int usg, .ref trc, .int trcd, .int isP])), (errs, .inl (xI G, 7, .inl errs_f)), (bitsOf, .inl (xI G, 4, .inl (upd bitsOf_f si.toNatClampNeg wi))), (sizeOf, .inl (xI G, 4, .inl (upd sizeOf_f si.toNatClampNeg (0 : Int32)))), (cels, .inl (xI G, 96, .inl (upd v93_1 (((24 : Int32) * si) + v93_0).toNatClampNeg (0 : Int32))))] := hD
                    refine lv_iinc (v := (v93_0 + (1 : Int32))) (lv' := [(4, .int (v93_0 + (1 : Int32))), (0, .ref t), (1, .int si), (2, .int wi), (3, .int k)]) hx hb dX8_sheet_113 hl (k := 4) rfl (xInc_1 _) (by decide) rfl (fun ls hl => ?_)
                    refine lv_goto (tgt := 93) hx hb dX8_sheet_116 (by decide) ?_
                    exact ih93 (v93_0 + (1 : Int32)) (upd v93_1 (((24 : Int32) * si) + v93_0).toNatClampNeg (0 : Int32)) H locs ls ⟨hP, hD, hS, lv_sub hl [1, 2, 3, 4, 0] rfl⟩ hF
              · have hF := itN c58 hF
                refine lv_aload_n hx hb dX8_sheet_61 rfl (lv_at hl 0 rfl) ?_
                refine lv_ldc (v := -1000000001) hx hb hown (hts _ (tcons _ m185)) dX8_sheet_62 ?_
                obtain ⟨u2, e2, hF⟩ := bdS hF
                refine xEndI (xRunV (As := [.int (-1000000001 : Int32)]) (rest := []) hZ (c_X8_error G t row kpt errs bitsOf sizeOf cels broken isFit breaks act wth facts pile trc images mfit known laid hre opnd bad usg trcd isP errs_f (-1000000001 : Int32) u2 e2 l H.size) m193 m194 m195 m5 m196 1 ⟨rfl, hdX8_error⟩ ⟨Nat.le_of_ble_eq_true rfl, Nat.le_of_ble_eq_true rfl⟩ ⟨rfl, rfl⟩ hP hD hS 0 8 rfl rfl rfl [0, 1] rfl rfl rfl hl.1 rfl (Nat.le_of_ble_eq_true rfl) dX8_sheet_64 ⟨Nat.zero_le _, Nat.zero_le _⟩) hP hD hS hA [0, 1] rfl rfl rfl (fun H locs n2 hP hD hS => ?_)
                have hP : va_P G.1 vwCl [(t, .inr (8, [.ref row, .ref kpt, .int images, .ref errs, .ref bitsOf, .ref sizeOf, .ref cels, .ref broken, .ref isFit, .ref breaks, .int mfit, .int known, .ref act, .ref wth, .ref facts, .ref pile, .int laid, .int hre, .int opnd, .int bad, .int usg, .ref trc, .int trcd, .int isP])), (errs, .inl (xI G, 7, .inl u2.2)), (bitsOf, .inl (xI G, 4, .inl bitsOf_f)), (sizeOf, .inl (xI G, 4, .inl sizeOf_f)), (cels, .inl (xI G, 96, .inl cels_f))] H := hP
                have hD : va_D A [(t, .inr (8, [.ref row, .ref kpt, .int images, .ref errs, .ref bitsOf, .ref sizeOf, .ref cels, .ref broken, .ref isFit, .ref breaks, .int mfit, .int known, .ref act, .ref wth, .ref facts, .ref pile, .int laid, .int hre, .int opnd, .int bad, .int usg, .ref trc, .int trcd, .int isP])), (errs, .inl (xI G, 7, .inl u2.2)), (bitsOf, .inl (xI G, 4, .inl bitsOf_f)), (sizeOf, .inl (xI G, 4, .inl sizeOf_f)), (cels, .inl (xI G, 96, .inl cels_f))] := hD
                obtain rfl := Option.some.inj hF
                rw [← hQ]
                exact W.iret (v := u2.1) hx hb hr (fun t ht hW => ⟨⟨_, (), rfl, ⟨rfl, rfl⟩, xLf hP ht⟩, hS.F ht⟩) hS.2.2 dX8_sheet_67
          · have hF := itN c37 hF
            refine lv_iload_n hx hb dX8_sheet_40 rfl (lv_at hl 3 rfl) ?_
            refine lv_if_ge (tgt := 51) hx hb dX8_sheet_41 (by decide) (fun c41 => ?_) (fun c41 => ?_)
            · have hF := itP c41 hF
              refine lv_iload_n hx hb dX8_sheet_51 rfl (lv_at hl 2 rfl) ?_
              refine lv_if_le (tgt := 68) hx hb dX8_sheet_52 (by decide) (fun c52 => ?_) (fun c52 => ?_)
              · have hF := itP c52 hF
                refine lv_aload_n hx hb dX8_sheet_68 rfl (lv_at hl 0 rfl) ?_
                refine va_get (ci := 8) (v := .ref bitsOf) (C := RX8) (T := TX8) (N := 24) hx hb hts (fun w h => tcons w (xin8 w h)) hown hK hP 0 rfl rfl 4 (by decide) (hts _ (tcons _ m140)) (fun _ h9 => h9) rfl dX8_sheet_69 ?_
                refine lv_iload_n hx hb dX8_sheet_72 rfl (lv_at hl 1 rfl) ?_
                refine lv_iload_n hx hb dX8_sheet_73 rfl (lv_at hl 2 rfl) ?_
                obtain ⟨g74, hF⟩ := gdS hF
                refine va_iast hx hb hK hP hD hS 2 0 rfl rfl g74 dX8_sheet_74 (fun H locs hP hD hS => ?_)
                have hP : va_P G.1 vwCl [(t, .inr (8, [.ref row, .ref kpt, .int images, .ref errs, .ref bitsOf, .ref sizeOf, .ref cels, .ref broken, .ref isFit, .ref breaks, .int mfit, .int known, .ref act, .ref wth, .ref facts, .ref pile, .int laid, .int hre, .int opnd, .int bad, .int usg, .ref trc, .int trcd, .int isP])), (errs, .inl (xI G, 7, .inl errs_f)), (bitsOf, .inl (xI G, 4, .inl (upd bitsOf_f si.toNatClampNeg wi))), (sizeOf, .inl (xI G, 4, .inl sizeOf_f)), (cels, .inl (xI G, 96, .inl cels_f))] H := hP
                have hD : va_D A [(t, .inr (8, [.ref row, .ref kpt, .int images, .ref errs, .ref bitsOf, .ref sizeOf, .ref cels, .ref broken, .ref isFit, .ref breaks, .int mfit, .int known, .ref act, .ref wth, .ref facts, .ref pile, .int laid, .int hre, .int opnd, .int bad, .int usg, .ref trc, .int trcd, .int isP])), (errs, .inl (xI G, 7, .inl errs_f)), (bitsOf, .inl (xI G, 4, .inl (upd bitsOf_f si.toNatClampNeg wi))), (sizeOf, .inl (xI G, 4, .inl sizeOf_f)), (cels, .inl (xI G, 96, .inl cels_f))] := hD
                refine lv_aload_n hx hb dX8_sheet_75 rfl (lv_at hl 0 rfl) ?_
                refine va_get (ci := 8) (v := .ref sizeOf) (C := RX8) (T := TX8) (N := 24) hx hb hts (fun w h => tcons w (xin8 w h)) hown hK hP 0 rfl rfl 5 (by decide) (hts _ (tcons _ m141)) (fun _ h9 => h9) rfl dX8_sheet_76 ?_
                refine lv_iload_n hx hb dX8_sheet_79 rfl (lv_at hl 1 rfl) ?_
                refine lv_iload_n hx hb dX8_sheet_80 rfl (lv_at hl 2 rfl) ?_
                refine lv_if_ne (tgt := 88) hx hb dX8_sheet_81 (by decide) (fun c81 => ?_) (fun c81 => ?_)
                · have hF := itN c81 hF
                  refine lv_iload_n hx hb dX8_sheet_88 rfl (lv_at hl 3 rfl) ?_
                  obtain ⟨g89, hF⟩ := gdS hF
                  refine va_iast hx hb hK hP hD hS 3 0 rfl rfl g89 dX8_sheet_89 (fun H locs hP hD hS => ?_)
                  have hP : va_P G.1 vwCl [(t, .inr (8, [.ref row, .ref kpt, .int images, .ref errs, .ref bitsOf, .ref sizeOf, .ref cels, .ref broken, .ref isFit, .ref breaks, .int mfit, .int known, .ref act, .ref wth, .ref facts, .ref pile, .int laid, .int hre, .int opnd, .int bad, .int usg, .ref trc, .int trcd, .int isP])), (errs, .inl (xI G, 7, .inl errs_f)), (bitsOf, .inl (xI G, 4, .inl (upd bitsOf_f si.toNatClampNeg wi))), (sizeOf, .inl (xI G, 4, .inl (upd sizeOf_f si.toNatClampNeg k))), (cels, .inl (xI G, 96, .inl cels_f))] H := hP
                  have hD : va_D A [(t, .inr (8, [.ref row, .ref kpt, .int images, .ref errs, .ref bitsOf, .ref sizeOf, .ref cels, .ref broken, .ref isFit, .ref breaks, .int mfit, .int known, .ref act, .ref wth, .ref facts, .ref pile, .int laid, .int hre, .int opnd, .int bad, .int usg, .ref trc, .int trcd, .int isP])), (errs, .inl (xI G, 7, .inl errs_f)), (bitsOf, .inl (xI G, 4, .inl (upd bitsOf_f si.toNatClampNeg wi))), (sizeOf, .inl (xI G, 4, .inl (upd sizeOf_f si.toNatClampNeg k))), (cels, .inl (xI G, 96, .inl cels_f))] := hD
                  refine lv_iconst (v := 0) hx hb dX8_sheet_90 (by decide) ?_
                  refine lv_istore (lv' := [(4, .int (0 : Int32)), (0, .ref t), (1, .int si), (2, .int wi), (3, .int k)]) hx hb dX8_sheet_91 hl (by decide) rfl (fun ls hl => ?_)
                  refine xLoop2 (body := (B_X8_sheet_93 errs_f bitsOf_f sizeOf_f si wi k)) (fun (v93_0 : Int32) (v93_1 : Nat → Int32) H locs ls => va_P G.1 vwCl [(t, .inr (8, [.ref row, .ref kpt, .int images, .ref errs, .ref bitsOf, .ref sizeOf, .ref cels, .ref broken, .ref isFit, .ref breaks, .int mfit, .int known, .ref act, .ref wth, .ref facts, .ref pile, .int laid, .int hre, .int opnd, .int bad, .int usg, .ref trc, .int trcd, .int isP])), (errs, .inl (xI G, 7, .inl errs_f)), (bitsOf, .inl (xI G, 4, .inl (upd bitsOf_f si.toNatClampNeg wi))), (sizeOf, .inl (xI G, 4, .inl (upd sizeOf_f si.toNatClampNeg k))), (cels, .inl (xI G, 96, .inl v93_1))] H ∧ va_D A [(t, .inr (8, [.ref row, .ref kpt, .int images, .ref errs, .ref bitsOf, .ref sizeOf, .ref cels, .ref broken, .ref isFit, .ref breaks, .int mfit, .int known, .ref act, .ref wth, .ref facts, .ref pile, .int laid, .int hre, .int opnd, .int bad, .int usg, .ref trc, .int trcd, .int isP])), (errs, .inl (xI G, 7, .inl errs_f)), (bitsOf, .inl (xI G, 4, .inl (upd bitsOf_f si.toNatClampNeg wi))), (sizeOf, .inl (xI G, 4, .inl (upd sizeOf_f si.toNatClampNeg k))), (cels, .inl (xI G, 96, .inl v93_1))] ∧ va_S A s.heap H locs ∧ lv_has ls 5 [(0, .ref t), (1, .int si), (2, .int wi), (3, .int k), (4, .int v93_0)]) (fun N93 v93_0 v93_1 ih93 H locs ls hI hF => ?_) fuelC (0 : Int32) cels_f H locs ls ⟨hP, hD, hS, lv_sub hl [1, 2, 3, 4, 0] rfl⟩ hF
                  obtain ⟨hP, hD, hS, hl⟩ := hI
                  unfold B_X8_sheet_93 at hF
                  refine lv_iload hx hb dX8_sheet_93 (lv_at hl 4 rfl) ?_
                  refine lv_bipush (v := 24) hx hb dX8_sheet_95 (by decide) ?_
                  refine lv_icmp_ge (tgt := 119) hx hb dX8_sheet_97 (by decide) (fun c97 => ?_) (fun c97 => ?_)
                  · have hF := itP c97 hF
                    refine lv_iconst (v := 1) hx hb dX8_sheet_119 (by decide) ?_
                    obtain rfl := Option.some.inj hF
                    rw [← hQ]
                    exact W.iret (v := (1 : Int32)) hx hb hr (fun t ht hW => ⟨⟨_, (), rfl, ⟨rfl, rfl⟩, xLf hP ht⟩, hS.F ht⟩) hS.2.2 dX8_sheet_120
                  · have hF := itN c97 hF
                    refine lv_aload_n hx hb dX8_sheet_100 rfl (lv_at hl 0 rfl) ?_
                    refine va_get (ci := 8) (v := .ref cels) (C := RX8) (T := TX8) (N := 24) hx hb hts (fun w h => tcons w (xin8 w h)) hown hK hP 0 rfl rfl 6 (by decide) (hts _ (tcons _ m142)) (fun _ h9 => h9) rfl dX8_sheet_101 ?_
                    refine lv_bipush (v := 24) hx hb dX8_sheet_104 (by decide) ?_
                    refine lv_iload_n hx hb dX8_sheet_106 rfl (lv_at hl 1 rfl) ?_
                    refine lv_imul hx hb dX8_sheet_107 ?_
                    refine lv_iload hx hb dX8_sheet_108 (lv_at hl 4 rfl) ?_
                    refine lv_iadd hx hb dX8_sheet_110 ?_
                    refine lv_iconst (v := 0) hx hb dX8_sheet_111 (by decide) ?_
                    obtain ⟨g112, hF⟩ := gdS hF
                    refine va_iast hx hb hK hP hD hS 4 0 rfl rfl g112 dX8_sheet_112 (fun H locs hP hD hS => ?_)
                    have hP : va_P G.1 vwCl [(t, .inr (8, [.ref row, .ref kpt, .int images, .ref errs, .ref bitsOf, .ref sizeOf, .ref cels, .ref broken, .ref isFit, .ref breaks, .int mfit, .int known, .ref act, .ref wth, .ref facts, .ref pile, .int laid, .int hre, .int opnd, .int bad, .int usg, .ref trc, .int trcd, .int isP])), (errs, .inl (xI G, 7, .inl errs_f)), (bitsOf, .inl (xI G, 4, .inl (upd bitsOf_f si.toNatClampNeg wi))), (sizeOf, .inl (xI G, 4, .inl (upd sizeOf_f si.toNatClampNeg k))), (cels, .inl (xI G, 96, .inl (upd v93_1 (((24 : Int32) * si) + v93_0).toNatClampNeg (0 : Int32))))] H := hP
                    have hD : va_D A [(t, .inr (8, [.ref row, .ref kpt, .int images, .ref errs, .ref bitsOf, .ref sizeOf, .ref cels, .ref broken, .ref isFit, .ref breaks, .int mfit, .int known, .ref act, .ref wth, .ref facts, .ref pile, .int laid, .int hre, .int opnd, .int bad, .int usg, .ref trc, .int trcd, .int isP])), (errs, .inl (xI G, 7, .inl errs_f)), (bitsOf, .inl (xI G, 4, .inl (upd bitsOf_f si.toNatClampNeg wi))), (sizeOf, .inl (xI G, 4, .inl (upd sizeOf_f si.toNatClampNeg k))), (cels, .inl (xI G, 96, .inl (upd v93_1 (((24 : Int32) * si) + v93_0).toNatClampNeg (0 : Int32))))] := hD
                    refine lv_iinc (v := (v93_0 + (1 : Int32))) (lv' := [(4, .int (v93_0 + (1 : Int32))), (0, .ref t), (1, .int si), (2, .int wi), (3, .int k)]) hx hb dX8_sheet_113 hl (k := 4) rfl (xInc_1 _) (by decide) rfl (fun ls hl => ?_)
                    refine lv_goto (tgt := 93) hx hb dX8_sheet_116 (by decide) ?_
                    exact ih93 (v93_0 + (1 : Int32)) (upd v93_1 (((24 : Int32) * si) + v93_0).toNatClampNeg (0 : Int32)) H locs ls ⟨hP, hD, hS, lv_sub hl [1, 2, 3, 4, 0] rfl⟩ hF
                · have hF := itP c81 hF
                  refine lv_iconst (v := 0) hx hb dX8_sheet_84 (by decide) ?_
                  refine lv_goto (tgt := 89) hx hb dX8_sheet_85 (by decide) ?_
                  obtain ⟨g89, hF⟩ := gdS hF
                  refine va_iast hx hb hK hP hD hS 3 0 rfl rfl g89 dX8_sheet_89 (fun H locs hP hD hS => ?_)
                  have hP : va_P G.1 vwCl [(t, .inr (8, [.ref row, .ref kpt, .int images, .ref errs, .ref bitsOf, .ref sizeOf, .ref cels, .ref broken, .ref isFit, .ref breaks, .int mfit, .int known, .ref act, .ref wth, .ref facts, .ref pile, .int laid, .int hre, .int opnd, .int bad, .int usg, .ref trc, .int trcd, .int isP])), (errs, .inl (xI G, 7, .inl errs_f)), (bitsOf, .inl (xI G, 4, .inl (upd bitsOf_f si.toNatClampNeg wi))), (sizeOf, .inl (xI G, 4, .inl (upd sizeOf_f si.toNatClampNeg (0 : Int32)))), (cels, .inl (xI G, 96, .inl cels_f))] H := hP
                  have hD : va_D A [(t, .inr (8, [.ref row, .ref kpt, .int images, .ref errs, .ref bitsOf, .ref sizeOf, .ref cels, .ref broken, .ref isFit, .ref breaks, .int mfit, .int known, .ref act, .ref wth, .ref facts, .ref pile, .int laid, .int hre, .int opnd, .int bad, .int usg, .ref trc, .int trcd, .int isP])), (errs, .inl (xI G, 7, .inl errs_f)), (bitsOf, .inl (xI G, 4, .inl (upd bitsOf_f si.toNatClampNeg wi))), (sizeOf, .inl (xI G, 4, .inl (upd sizeOf_f si.toNatClampNeg (0 : Int32)))), (cels, .inl (xI G, 96, .inl cels_f))] := hD
                  refine lv_iconst (v := 0) hx hb dX8_sheet_90 (by decide) ?_
                  refine lv_istore (lv' := [(4, .int (0 : Int32)), (0, .ref t), (1, .int si), (2, .int wi), (3, .int k)]) hx hb dX8_sheet_91 hl (by decide) rfl (fun ls hl => ?_)
                  refine xLoop2 (body := (B_X8_sheet_93bbbbbbbbbbb errs_f bitsOf_f sizeOf_f si wi)) (fun (v93_0 : Int32) (v93_1 : Nat → Int32) H locs ls => va_P G.1 vwCl [(t, .inr (8, [.ref row, .ref kpt, .int images, .ref errs, .ref bitsOf, .ref sizeOf, .ref cels, .ref broken, .ref isFit, .ref breaks, .int mfit, .int known, .ref act, .ref wth, .ref facts, .ref pile, .int laid, .int hre, .int opnd, .int bad, .int usg, .ref trc, .int trcd, .int isP])), (errs, .inl (xI G, 7, .inl errs_f)), (bitsOf, .inl (xI G, 4, .inl (upd bitsOf_f si.toNatClampNeg wi))), (sizeOf, .inl (xI G, 4, .inl (upd sizeOf_f si.toNatClampNeg (0 : Int32)))), (cels, .inl (xI G, 96, .inl v93_1))] H ∧ va_D A [(t, .inr (8, [.ref row, .ref kpt, .int images, .ref errs, .ref bitsOf, .ref sizeOf, .ref cels, .ref broken, .ref isFit, .ref breaks, .int mfit, .int known, .ref act, .ref wth, .ref facts, .ref pile, .int laid, .int hre, .int opnd, .int bad, .int usg, .ref trc, .int trcd, .int isP])), (errs, .inl (xI G, 7, .inl errs_f)), (bitsOf, .inl (xI G, 4, .inl (upd bitsOf_f si.toNatClampNeg wi))), (sizeOf, .inl (xI G, 4, .inl (upd sizeOf_f si.toNatClampNeg (0 : Int32)))), (cels, .inl (xI G, 96, .inl v93_1))] ∧ va_S A s.heap H locs ∧ lv_has ls 5 [(0, .ref t), (1, .int si), (2, .int wi), (3, .int k), (4, .int v93_0)]) (fun N93 v93_0 v93_1 ih93 H locs ls hI hF => ?_) fuelC (0 : Int32) cels_f H locs ls ⟨hP, hD, hS, lv_sub hl [1, 2, 3, 4, 0] rfl⟩ hF
                  obtain ⟨hP, hD, hS, hl⟩ := hI
                  unfold B_X8_sheet_93bbbbbbbbbbb at hF
                  refine lv_iload hx hb dX8_sheet_93 (lv_at hl 4 rfl) ?_
                  refine lv_bipush (v := 24) hx hb dX8_sheet_95 (by decide) ?_
                  refine lv_icmp_ge (tgt := 119) hx hb dX8_sheet_97 (by decide) (fun c97 => ?_) (fun c97 => ?_)
                  · have hF := itP c97 hF
                    refine lv_iconst (v := 1) hx hb dX8_sheet_119 (by decide) ?_
                    obtain rfl := Option.some.inj hF
                    rw [← hQ]
                    exact W.iret (v := (1 : Int32)) hx hb hr (fun t ht hW => ⟨⟨_, (), rfl, ⟨rfl, rfl⟩, xLf hP ht⟩, hS.F ht⟩) hS.2.2 dX8_sheet_120
                  · have hF := itN c97 hF
                    refine lv_aload_n hx hb dX8_sheet_100 rfl (lv_at hl 0 rfl) ?_
                    refine va_get (ci := 8) (v := .ref cels) (C := RX8) (T := TX8) (N := 24) hx hb hts (fun w h => tcons w (xin8 w h)) hown hK hP 0 rfl rfl 6 (by decide) (hts _ (tcons _ m142)) (fun _ h9 => h9) rfl dX8_sheet_101 ?_
                    refine lv_bipush (v := 24) hx hb dX8_sheet_104 (by decide) ?_
                    refine lv_iload_n hx hb dX8_sheet_106 rfl (lv_at hl 1 rfl) ?_
                    refine lv_imul hx hb dX8_sheet_107 ?_
                    refine lv_iload hx hb dX8_sheet_108 (lv_at hl 4 rfl) ?_
                    refine lv_iadd hx hb dX8_sheet_110 ?_
                    refine lv_iconst (v := 0) hx hb dX8_sheet_111 (by decide) ?_
                    obtain ⟨g112, hF⟩ := gdS hF
                    refine va_iast hx hb hK hP hD hS 4 0 rfl rfl g112 dX8_sheet_112 (fun H locs hP hD hS => ?_)
                    have hP : va_P G.1 vwCl [(t, .inr (8, [.ref row, .ref kpt, .int images, .ref errs, .ref bitsOf, .ref sizeOf, .ref cels, .ref broken, .ref isFit, .ref breaks, .int mfit, .int known, .ref act, .ref wth, .ref facts, .ref pile, .int laid, .int hre, .int opnd, .int bad, .int usg, .ref trc, .int trcd, .int isP])), (errs, .inl (xI G, 7, .inl errs_f)), (bitsOf, .inl (xI G, 4, .inl (upd bitsOf_f si.toNatClampNeg wi))), (sizeOf, .inl (xI G, 4, .inl (upd sizeOf_f si.toNatClampNeg (0 : Int32)))), (cels, .inl (xI G, 96, .inl (upd v93_1 (((24 : Int32) * si) + v93_0).toNatClampNeg (0 : Int32))))] H := hP
                    have hD : va_D A [(t, .inr (8, [.ref row, .ref kpt, .int images, .ref errs, .ref bitsOf, .ref sizeOf, .ref cels, .ref broken, .ref isFit, .ref breaks, .int mfit, .int known, .ref act, .ref wth, .ref facts, .ref pile, .int laid, .int hre, .int opnd, .int bad, .int usg, .ref trc, .int trcd, .int isP])), (errs, .inl (xI G, 7, .inl errs_f)), (bitsOf, .inl (xI G, 4, .inl (upd bitsOf_f si.toNatClampNeg wi))), (sizeOf, .inl (xI G, 4, .inl (upd sizeOf_f si.toNatClampNeg (0 : Int32)))), (cels, .inl (xI G, 96, .inl (upd v93_1 (((24 : Int32) * si) + v93_0).toNatClampNeg (0 : Int32))))] := hD
                    refine lv_iinc (v := (v93_0 + (1 : Int32))) (lv' := [(4, .int (v93_0 + (1 : Int32))), (0, .ref t), (1, .int si), (2, .int wi), (3, .int k)]) hx hb dX8_sheet_113 hl (k := 4) rfl (xInc_1 _) (by decide) rfl (fun ls hl => ?_)
                    refine lv_goto (tgt := 93) hx hb dX8_sheet_116 (by decide) ?_
                    exact ih93 (v93_0 + (1 : Int32)) (upd v93_1 (((24 : Int32) * si) + v93_0).toNatClampNeg (0 : Int32)) H locs ls ⟨hP, hD, hS, lv_sub hl [1, 2, 3, 4, 0] rfl⟩ hF
              · have hF := itN c52 hF
                refine lv_iload_n hx hb dX8_sheet_55 rfl (lv_at hl 3 rfl) ?_
                refine lv_bipush (v := 24) hx hb dX8_sheet_56 (by decide) ?_
                refine lv_icmp_le (tgt := 68) hx hb dX8_sheet_58 (by decide) (fun c58 => ?_) (fun c58 => ?_)
                · have hF := itP c58 hF
                  refine lv_aload_n hx hb dX8_sheet_68 rfl (lv_at hl 0 rfl) ?_
                  refine va_get (ci := 8) (v := .ref bitsOf) (C := RX8) (T := TX8) (N := 24) hx hb hts (fun w h => tcons w (xin8 w h)) hown hK hP 0 rfl rfl 4 (by decide) (hts _ (tcons _ m140)) (fun _ h9 => h9) rfl dX8_sheet_69 ?_
                  refine lv_iload_n hx hb dX8_sheet_72 rfl (lv_at hl 1 rfl) ?_
                  refine lv_iload_n hx hb dX8_sheet_73 rfl (lv_at hl 2 rfl) ?_
                  obtain ⟨g74, hF⟩ := gdS hF
                  refine va_iast hx hb hK hP hD hS 2 0 rfl rfl g74 dX8_sheet_74 (fun H locs hP hD hS => ?_)
                  have hP : va_P G.1 vwCl [(t, .inr (8, [.ref row, .ref kpt, .int images, .ref errs, .ref bitsOf, .ref sizeOf, .ref cels, .ref broken, .ref isFit, .ref breaks, .int mfit, .int known, .ref act, .ref wth, .ref facts, .ref pile, .int laid, .int hre, .int opnd, .int bad, .int usg, .ref trc, .int trcd, .int isP])), (errs, .inl (xI G, 7, .inl errs_f)), (bitsOf, .inl (xI G, 4, .inl (upd bitsOf_f si.toNatClampNeg wi))), (sizeOf, .inl (xI G, 4, .inl sizeOf_f)), (cels, .inl (xI G, 96, .inl cels_f))] H := hP
                  have hD : va_D A [(t, .inr (8, [.ref row, .ref kpt, .int images, .ref errs, .ref bitsOf, .ref sizeOf, .ref cels, .ref broken, .ref isFit, .ref breaks, .int mfit, .int known, .ref act, .ref wth, .ref facts, .ref pile, .int laid, .int hre, .int opnd, .int bad, .int usg, .ref trc, .int trcd, .int isP])), (errs, .inl (xI G, 7, .inl errs_f)), (bitsOf, .inl (xI G, 4, .inl (upd bitsOf_f si.toNatClampNeg wi))), (sizeOf, .inl (xI G, 4, .inl sizeOf_f)), (cels, .inl (xI G, 96, .inl cels_f))] := hD
                  refine lv_aload_n hx hb dX8_sheet_75 rfl (lv_at hl 0 rfl) ?_
                  refine va_get (ci := 8) (v := .ref sizeOf) (C := RX8) (T := TX8) (N := 24) hx hb hts (fun w h => tcons w (xin8 w h)) hown hK hP 0 rfl rfl 5 (by decide) (hts _ (tcons _ m141)) (fun _ h9 => h9) rfl dX8_sheet_76 ?_
                  refine lv_iload_n hx hb dX8_sheet_79 rfl (lv_at hl 1 rfl) ?_
                  refine lv_iload_n hx hb dX8_sheet_80 rfl (lv_at hl 2 rfl) ?_
                  refine lv_if_ne (tgt := 88) hx hb dX8_sheet_81 (by decide) (fun c81 => ?_) (fun c81 => ?_)
                  · have hF := itN c81 hF
                    refine lv_iload_n hx hb dX8_sheet_88 rfl (lv_at hl 3 rfl) ?_
                    obtain ⟨g89, hF⟩ := gdS hF
                    refine va_iast hx hb hK hP hD hS 3 0 rfl rfl g89 dX8_sheet_89 (fun H locs hP hD hS => ?_)
                    have hP : va_P G.1 vwCl [(t, .inr (8, [.ref row, .ref kpt, .int images, .ref errs, .ref bitsOf, .ref sizeOf, .ref cels, .ref broken, .ref isFit, .ref breaks, .int mfit, .int known, .ref act, .ref wth, .ref facts, .ref pile, .int laid, .int hre, .int opnd, .int bad, .int usg, .ref trc, .int trcd, .int isP])), (errs, .inl (xI G, 7, .inl errs_f)), (bitsOf, .inl (xI G, 4, .inl (upd bitsOf_f si.toNatClampNeg wi))), (sizeOf, .inl (xI G, 4, .inl (upd sizeOf_f si.toNatClampNeg k))), (cels, .inl (xI G, 96, .inl cels_f))] H := hP
                    have hD : va_D A [(t, .inr (8, [.ref row, .ref kpt, .int images, .ref errs, .ref bitsOf, .ref sizeOf, .ref cels, .ref broken, .ref isFit, .ref breaks, .int mfit, .int known, .ref act, .ref wth, .ref facts, .ref pile, .int laid, .int hre, .int opnd, .int bad, .int usg, .ref trc, .int trcd, .int isP])), (errs, .inl (xI G, 7, .inl errs_f)), (bitsOf, .inl (xI G, 4, .inl (upd bitsOf_f si.toNatClampNeg wi))), (sizeOf, .inl (xI G, 4, .inl (upd sizeOf_f si.toNatClampNeg k))), (cels, .inl (xI G, 96, .inl cels_f))] := hD
                    refine lv_iconst (v := 0) hx hb dX8_sheet_90 (by decide) ?_
                    refine lv_istore (lv' := [(4, .int (0 : Int32)), (0, .ref t), (1, .int si), (2, .int wi), (3, .int k)]) hx hb dX8_sheet_91 hl (by decide) rfl (fun ls hl => ?_)
                    refine xLoop2 (body := (B_X8_sheet_93 errs_f bitsOf_f sizeOf_f si wi k)) (fun (v93_0 : Int32) (v93_1 : Nat → Int32) H locs ls => va_P G.1 vwCl [(t, .inr (8, [.ref row, .ref kpt, .int images, .ref errs, .ref bitsOf, .ref sizeOf, .ref cels, .ref broken, .ref isFit, .ref breaks, .int mfit, .int known, .ref act, .ref wth, .ref facts, .ref pile, .int laid, .int hre, .int opnd, .int bad, .int usg, .ref trc, .int trcd, .int isP])), (errs, .inl (xI G, 7, .inl errs_f)), (bitsOf, .inl (xI G, 4, .inl (upd bitsOf_f si.toNatClampNeg wi))), (sizeOf, .inl (xI G, 4, .inl (upd sizeOf_f si.toNatClampNeg k))), (cels, .inl (xI G, 96, .inl v93_1))] H ∧ va_D A [(t, .inr (8, [.ref row, .ref kpt, .int images, .ref errs, .ref bitsOf, .ref sizeOf, .ref cels, .ref broken, .ref isFit, .ref breaks, .int mfit, .int known, .ref act, .ref wth, .ref facts, .ref pile, .int laid, .int hre, .int opnd, .int bad, .int usg, .ref trc, .int trcd, .int isP])), (errs, .inl (xI G, 7, .inl errs_f)), (bitsOf, .inl (xI G, 4, .inl (upd bitsOf_f si.toNatClampNeg wi))), (sizeOf, .inl (xI G, 4, .inl (upd sizeOf_f si.toNatClampNeg k))), (cels, .inl (xI G, 96, .inl v93_1))] ∧ va_S A s.heap H locs ∧ lv_has ls 5 [(0, .ref t), (1, .int si), (2, .int wi), (3, .int k), (4, .int v93_0)]) (fun N93 v93_0 v93_1 ih93 H locs ls hI hF => ?_) fuelC (0 : Int32) cels_f H locs ls ⟨hP, hD, hS, lv_sub hl [1, 2, 3, 4, 0] rfl⟩ hF
                    obtain ⟨hP, hD, hS, hl⟩ := hI
                    unfold B_X8_sheet_93 at hF
                    refine lv_iload hx hb dX8_sheet_93 (lv_at hl 4 rfl) ?_
                    refine lv_bipush (v := 24) hx hb dX8_sheet_95 (by decide) ?_
                    refine lv_icmp_ge (tgt := 119) hx hb dX8_sheet_97 (by decide) (fun c97 => ?_) (fun c97 => ?_)
                    · have hF := itP c97 hF
                      refine lv_iconst (v := 1) hx hb dX8_sheet_119 (by decide) ?_
                      obtain rfl := Option.some.inj hF
                      rw [← hQ]
                      exact W.iret (v := (1 : Int32)) hx hb hr (fun t ht hW => ⟨⟨_, (), rfl, ⟨rfl, rfl⟩, xLf hP ht⟩, hS.F ht⟩) hS.2.2 dX8_sheet_120
                    · have hF := itN c97 hF
                      refine lv_aload_n hx hb dX8_sheet_100 rfl (lv_at hl 0 rfl) ?_
                      refine va_get (ci := 8) (v := .ref cels) (C := RX8) (T := TX8) (N := 24) hx hb hts (fun w h => tcons w (xin8 w h)) hown hK hP 0 rfl rfl 6 (by decide) (hts _ (tcons _ m142)) (fun _ h9 => h9) rfl dX8_sheet_101 ?_
                      refine lv_bipush (v := 24) hx hb dX8_sheet_104 (by decide) ?_
                      refine lv_iload_n hx hb dX8_sheet_106 rfl (lv_at hl 1 rfl) ?_
                      refine lv_imul hx hb dX8_sheet_107 ?_
                      refine lv_iload hx hb dX8_sheet_108 (lv_at hl 4 rfl) ?_
                      refine lv_iadd hx hb dX8_sheet_110 ?_
                      refine lv_iconst (v := 0) hx hb dX8_sheet_111 (by decide) ?_
                      obtain ⟨g112, hF⟩ := gdS hF
                      refine va_iast hx hb hK hP hD hS 4 0 rfl rfl g112 dX8_sheet_112 (fun H locs hP hD hS => ?_)
                      have hP : va_P G.1 vwCl [(t, .inr (8, [.ref row, .ref kpt, .int images, .ref errs, .ref bitsOf, .ref sizeOf, .ref cels, .ref broken, .ref isFit, .ref breaks, .int mfit, .int known, .ref act, .ref wth, .ref facts, .ref pile, .int laid, .int hre, .int opnd, .int bad, .int usg, .ref trc, .int trcd, .int isP])), (errs, .inl (xI G, 7, .inl errs_f)), (bitsOf, .inl (xI G, 4, .inl (upd bitsOf_f si.toNatClampNeg wi))), (sizeOf, .inl (xI G, 4, .inl (upd sizeOf_f si.toNatClampNeg k))), (cels, .inl (xI G, 96, .inl (upd v93_1 (((24 : Int32) * si) + v93_0).toNatClampNeg (0 : Int32))))] H := hP
                      have hD : va_D A [(t, .inr (8, [.ref row, .ref kpt, .int images, .ref errs, .ref bitsOf, .ref sizeOf, .ref cels, .ref broken, .ref isFit, .ref breaks, .int mfit, .int known, .ref act, .ref wth, .ref facts, .ref pile, .int laid, .int hre, .int opnd, .int bad, .int usg, .ref trc, .int trcd, .int isP])), (errs, .inl (xI G, 7, .inl errs_f)), (bitsOf, .inl (xI G, 4, .inl (upd bitsOf_f si.toNatClampNeg wi))), (sizeOf, .inl (xI G, 4, .inl (upd sizeOf_f si.toNatClampNeg k))), (cels, .inl (xI G, 96, .inl (upd v93_1 (((24 : Int32) * si) + v93_0).toNatClampNeg (0 : Int32))))] := hD
                      refine lv_iinc (v := (v93_0 + (1 : Int32))) (lv' := [(4, .int (v93_0 + (1 : Int32))), (0, .ref t), (1, .int si), (2, .int wi), (3, .int k)]) hx hb dX8_sheet_113 hl (k := 4) rfl (xInc_1 _) (by decide) rfl (fun ls hl => ?_)
                      refine lv_goto (tgt := 93) hx hb dX8_sheet_116 (by decide) ?_
                      exact ih93 (v93_0 + (1 : Int32)) (upd v93_1 (((24 : Int32) * si) + v93_0).toNatClampNeg (0 : Int32)) H locs ls ⟨hP, hD, hS, lv_sub hl [1, 2, 3, 4, 0] rfl⟩ hF
                  · have hF := itP c81 hF
                    refine lv_iconst (v := 0) hx hb dX8_sheet_84 (by decide) ?_
                    refine lv_goto (tgt := 89) hx hb dX8_sheet_85 (by decide) ?_
                    obtain ⟨g89, hF⟩ := gdS hF
                    refine va_iast hx hb hK hP hD hS 3 0 rfl rfl g89 dX8_sheet_89 (fun H locs hP hD hS => ?_)
                    have hP : va_P G.1 vwCl [(t, .inr (8, [.ref row, .ref kpt, .int images, .ref errs, .ref bitsOf, .ref sizeOf, .ref cels, .ref broken, .ref isFit, .ref breaks, .int mfit, .int known, .ref act, .ref wth, .ref facts, .ref pile, .int laid, .int hre, .int opnd, .int bad, .int usg, .ref trc, .int trcd, .int isP])), (errs, .inl (xI G, 7, .inl errs_f)), (bitsOf, .inl (xI G, 4, .inl (upd bitsOf_f si.toNatClampNeg wi))), (sizeOf, .inl (xI G, 4, .inl (upd sizeOf_f si.toNatClampNeg (0 : Int32)))), (cels, .inl (xI G, 96, .inl cels_f))] H := hP
                    have hD : va_D A [(t, .inr (8, [.ref row, .ref kpt, .int images, .ref errs, .ref bitsOf, .ref sizeOf, .ref cels, .ref broken, .ref isFit, .ref breaks, .int mfit, .int known, .ref act, .ref wth, .ref facts, .ref pile, .int laid, .int hre, .int opnd, .int bad, .int usg, .ref trc, .int trcd, .int isP])), (errs, .inl (xI G, 7, .inl errs_f)), (bitsOf, .inl (xI G, 4, .inl (upd bitsOf_f si.toNatClampNeg wi))), (sizeOf, .inl (xI G, 4, .inl (upd sizeOf_f si.toNatClampNeg (0 : Int32)))), (cels, .inl (xI G, 96, .inl cels_f))] := hD
                    refine lv_iconst (v := 0) hx hb dX8_sheet_90 (by decide) ?_
                    refine lv_istore (lv' := [(4, .int (0 : Int32)), (0, .ref t), (1, .int si), (2, .int wi), (3, .int k)]) hx hb dX8_sheet_91 hl (by decide) rfl (fun ls hl => ?_)
                    refine xLoop2 (body := (B_X8_sheet_93bbbbbbbbbbbb errs_f bitsOf_f sizeOf_f si wi)) (fun (v93_0 : Int32) (v93_1 : Nat → Int32) H locs ls => va_P G.1 vwCl [(t, .inr (8, [.ref row, .ref kpt, .int images, .ref errs, .ref bitsOf, .ref sizeOf, .ref cels, .ref broken, .ref isFit, .ref breaks, .int mfit, .int known, .ref act, .ref wth, .ref facts, .ref pile, .int laid, .int hre, .int opnd, .int bad, .int usg, .ref trc, .int trcd, .int isP])), (errs, .inl (xI G, 7, .inl errs_f)), (bitsOf, .inl (xI G, 4, .inl (upd bitsOf_f si.toNatClampNeg wi))), (sizeOf, .inl (xI G, 4, .inl (upd sizeOf_f si.toNatClampNeg (0 : Int32)))), (cels, .inl (xI G, 96, .inl v93_1))] H ∧ va_D A [(t, .inr (8, [.ref row, .ref kpt, .int images, .ref errs, .ref bitsOf, .ref sizeOf, .ref cels, .ref broken, .ref isFit, .ref breaks, .int mfit, .int known, .ref act, .ref wth, .ref facts, .ref pile, .int laid, .int hre, .int opnd, .int bad, .int usg, .ref trc, .int trcd, .int isP])), (errs, .inl (xI G, 7, .inl errs_f)), (bitsOf, .inl (xI G, 4, .inl (upd bitsOf_f si.toNatClampNeg wi))), (sizeOf, .inl (xI G, 4, .inl (upd sizeOf_f si.toNatClampNeg (0 : Int32)))), (cels, .inl (xI G, 96, .inl v93_1))] ∧ va_S A s.heap H locs ∧ lv_has ls 5 [(0, .ref t), (1, .int si), (2, .int wi), (3, .int k), (4, .int v93_0)]) (fun N93 v93_0 v93_1 ih93 H locs ls hI hF => ?_) fuelC (0 : Int32) cels_f H locs ls ⟨hP, hD, hS, lv_sub hl [1, 2, 3, 4, 0] rfl⟩ hF
                    obtain ⟨hP, hD, hS, hl⟩ := hI
                    unfold B_X8_sheet_93bbbbbbbbbbbb at hF
                    refine lv_iload hx hb dX8_sheet_93 (lv_at hl 4 rfl) ?_
                    refine lv_bipush (v := 24) hx hb dX8_sheet_95 (by decide) ?_
                    refine lv_icmp_ge (tgt := 119) hx hb dX8_sheet_97 (by decide) (fun c97 => ?_) (fun c97 => ?_)
                    · have hF := itP c97 hF
                      refine lv_iconst (v := 1) hx hb dX8_sheet_119 (by decide) ?_
                      obtain rfl := Option.some.inj hF
                      rw [← hQ]
                      exact W.iret (v := (1 : Int32)) hx hb hr (fun t ht hW => ⟨⟨_, (), rfl, ⟨rfl, rfl⟩, xLf hP ht⟩, hS.F ht⟩) hS.2.2 dX8_sheet_120
                    · have hF := itN c97 hF
                      refine lv_aload_n hx hb dX8_sheet_100 rfl (lv_at hl 0 rfl) ?_
                      refine va_get (ci := 8) (v := .ref cels) (C := RX8) (T := TX8) (N := 24) hx hb hts (fun w h => tcons w (xin8 w h)) hown hK hP 0 rfl rfl 6 (by decide) (hts _ (tcons _ m142)) (fun _ h9 => h9) rfl dX8_sheet_101 ?_
                      refine lv_bipush (v := 24) hx hb dX8_sheet_104 (by decide) ?_
                      refine lv_iload_n hx hb dX8_sheet_106 rfl (lv_at hl 1 rfl) ?_
                      refine lv_imul hx hb dX8_sheet_107 ?_
                      refine lv_iload hx hb dX8_sheet_108 (lv_at hl 4 rfl) ?_
                      refine lv_iadd hx hb dX8_sheet_110 ?_
                      refine lv_iconst (v := 0) hx hb dX8_sheet_111 (by decide) ?_
                      obtain ⟨g112, hF⟩ := gdS hF
                      refine va_iast hx hb hK hP hD hS 4 0 rfl rfl g112 dX8_sheet_112 (fun H locs hP hD hS => ?_)
                      have hP : va_P G.1 vwCl [(t, .inr (8, [.ref row, .ref kpt, .int images, .ref errs, .ref bitsOf, .ref sizeOf, .ref cels, .ref broken, .ref isFit, .ref breaks, .int mfit, .int known, .ref act, .ref wth, .ref facts, .ref pile, .int laid, .int hre, .int opnd, .int bad, .int usg, .ref trc, .int trcd, .int isP])), (errs, .inl (xI G, 7, .inl errs_f)), (bitsOf, .inl (xI G, 4, .inl (upd bitsOf_f si.toNatClampNeg wi))), (sizeOf, .inl (xI G, 4, .inl (upd sizeOf_f si.toNatClampNeg (0 : Int32)))), (cels, .inl (xI G, 96, .inl (upd v93_1 (((24 : Int32) * si) + v93_0).toNatClampNeg (0 : Int32))))] H := hP
                      have hD : va_D A [(t, .inr (8, [.ref row, .ref kpt, .int images, .ref errs, .ref bitsOf, .ref sizeOf, .ref cels, .ref broken, .ref isFit, .ref breaks, .int mfit, .int known, .ref act, .ref wth, .ref facts, .ref pile, .int laid, .int hre, .int opnd, .int bad, .int usg, .ref trc, .int trcd, .int isP])), (errs, .inl (xI G, 7, .inl errs_f)), (bitsOf, .inl (xI G, 4, .inl (upd bitsOf_f si.toNatClampNeg wi))), (sizeOf, .inl (xI G, 4, .inl (upd sizeOf_f si.toNatClampNeg (0 : Int32)))), (cels, .inl (xI G, 96, .inl (upd v93_1 (((24 : Int32) * si) + v93_0).toNatClampNeg (0 : Int32))))] := hD
                      refine lv_iinc (v := (v93_0 + (1 : Int32))) (lv' := [(4, .int (v93_0 + (1 : Int32))), (0, .ref t), (1, .int si), (2, .int wi), (3, .int k)]) hx hb dX8_sheet_113 hl (k := 4) rfl (xInc_1 _) (by decide) rfl (fun ls hl => ?_)
                      refine lv_goto (tgt := 93) hx hb dX8_sheet_116 (by decide) ?_
                      exact ih93 (v93_0 + (1 : Int32)) (upd v93_1 (((24 : Int32) * si) + v93_0).toNatClampNeg (0 : Int32)) H locs ls ⟨hP, hD, hS, lv_sub hl [1, 2, 3, 4, 0] rfl⟩ hF
                · have hF := itN c58 hF
                  refine lv_aload_n hx hb dX8_sheet_61 rfl (lv_at hl 0 rfl) ?_
                  refine lv_ldc (v := -1000000001) hx hb hown (hts _ (tcons _ m185)) dX8_sheet_62 ?_
                  obtain ⟨u2, e2, hF⟩ := bdS hF
                  refine xEndI (xRunV (As := [.int (-1000000001 : Int32)]) (rest := []) hZ (c_X8_error G t row kpt errs bitsOf sizeOf cels broken isFit breaks act wth facts pile trc images mfit known laid hre opnd bad usg trcd isP errs_f (-1000000001 : Int32) u2 e2 l H.size) m193 m194 m195 m5 m196 1 ⟨rfl, hdX8_error⟩ ⟨Nat.le_of_ble_eq_true rfl, Nat.le_of_ble_eq_true rfl⟩ ⟨rfl, rfl⟩ hP hD hS 0 8 rfl rfl rfl [0, 1] rfl rfl rfl hl.1 rfl (Nat.le_of_ble_eq_true rfl) dX8_sheet_64 ⟨Nat.zero_le _, Nat.zero_le _⟩) hP hD hS hA [0, 1] rfl rfl rfl (fun H locs n2 hP hD hS => ?_)
                  have hP : va_P G.1 vwCl [(t, .inr (8, [.ref row, .ref kpt, .int images, .ref errs, .ref bitsOf, .ref sizeOf, .ref cels, .ref broken, .ref isFit, .ref breaks, .int mfit, .int known, .ref act, .ref wth, .ref facts, .ref pile, .int laid, .int hre, .int opnd, .int bad, .int usg, .ref trc, .int trcd, .int isP])), (errs, .inl (xI G, 7, .inl u2.2)), (bitsOf, .inl (xI G, 4, .inl bitsOf_f)), (sizeOf, .inl (xI G, 4, .inl sizeOf_f)), (cels, .inl (xI G, 96, .inl cels_f))] H := hP
                  have hD : va_D A [(t, .inr (8, [.ref row, .ref kpt, .int images, .ref errs, .ref bitsOf, .ref sizeOf, .ref cels, .ref broken, .ref isFit, .ref breaks, .int mfit, .int known, .ref act, .ref wth, .ref facts, .ref pile, .int laid, .int hre, .int opnd, .int bad, .int usg, .ref trc, .int trcd, .int isP])), (errs, .inl (xI G, 7, .inl u2.2)), (bitsOf, .inl (xI G, 4, .inl bitsOf_f)), (sizeOf, .inl (xI G, 4, .inl sizeOf_f)), (cels, .inl (xI G, 96, .inl cels_f))] := hD
                  obtain rfl := Option.some.inj hF
                  rw [← hQ]
                  exact W.iret (v := u2.1) hx hb hr (fun t ht hW => ⟨⟨_, (), rfl, ⟨rfl, rfl⟩, xLf hP ht⟩, hS.F ht⟩) hS.2.2 dX8_sheet_67
            · have hF := itN c41 hF
              refine lv_aload_n hx hb dX8_sheet_44 rfl (lv_at hl 0 rfl) ?_
              refine lv_ldc (v := -1000000003) hx hb hown (hts _ (tcons _ m477)) dX8_sheet_45 ?_
              obtain ⟨u2, e2, hF⟩ := bdS hF
              refine xEndI (xRunV (As := [.int (-1000000003 : Int32)]) (rest := []) hZ (c_X8_error G t row kpt errs bitsOf sizeOf cels broken isFit breaks act wth facts pile trc images mfit known laid hre opnd bad usg trcd isP errs_f (-1000000003 : Int32) u2 e2 l H.size) m193 m194 m195 m5 m196 1 ⟨rfl, hdX8_error⟩ ⟨Nat.le_of_ble_eq_true rfl, Nat.le_of_ble_eq_true rfl⟩ ⟨rfl, rfl⟩ hP hD hS 0 8 rfl rfl rfl [0, 1] rfl rfl rfl hl.1 rfl (Nat.le_of_ble_eq_true rfl) dX8_sheet_47 ⟨Nat.zero_le _, Nat.zero_le _⟩) hP hD hS hA [0, 1] rfl rfl rfl (fun H locs n2 hP hD hS => ?_)
              have hP : va_P G.1 vwCl [(t, .inr (8, [.ref row, .ref kpt, .int images, .ref errs, .ref bitsOf, .ref sizeOf, .ref cels, .ref broken, .ref isFit, .ref breaks, .int mfit, .int known, .ref act, .ref wth, .ref facts, .ref pile, .int laid, .int hre, .int opnd, .int bad, .int usg, .ref trc, .int trcd, .int isP])), (errs, .inl (xI G, 7, .inl u2.2)), (bitsOf, .inl (xI G, 4, .inl bitsOf_f)), (sizeOf, .inl (xI G, 4, .inl sizeOf_f)), (cels, .inl (xI G, 96, .inl cels_f))] H := hP
              have hD : va_D A [(t, .inr (8, [.ref row, .ref kpt, .int images, .ref errs, .ref bitsOf, .ref sizeOf, .ref cels, .ref broken, .ref isFit, .ref breaks, .int mfit, .int known, .ref act, .ref wth, .ref facts, .ref pile, .int laid, .int hre, .int opnd, .int bad, .int usg, .ref trc, .int trcd, .int isP])), (errs, .inl (xI G, 7, .inl u2.2)), (bitsOf, .inl (xI G, 4, .inl bitsOf_f)), (sizeOf, .inl (xI G, 4, .inl sizeOf_f)), (cels, .inl (xI G, 96, .inl cels_f))] := hD
              obtain rfl := Option.some.inj hF
              rw [← hQ]
              exact W.iret (v := u2.1) hx hb hr (fun t ht hW => ⟨⟨_, (), rfl, ⟨rfl, rfl⟩, xLf hP ht⟩, hS.F ht⟩) hS.2.2 dX8_sheet_50
        · have hF := itN c20 hF
          refine lv_iload_n hx hb dX8_sheet_23 rfl (lv_at hl 2 rfl) ?_
          refine lv_bipush (v := 32) hx hb dX8_sheet_24 (by decide) ?_
          refine lv_icmp_eq (tgt := 36) hx hb dX8_sheet_26 (by decide) (fun c26 => ?_) (fun c26 => ?_)
          · have hF := itP c26 hF
            refine lv_iload_n hx hb dX8_sheet_36 rfl (lv_at hl 2 rfl) ?_
            refine lv_if_le (tgt := 51) hx hb dX8_sheet_37 (by decide) (fun c37 => ?_) (fun c37 => ?_)
            · have hF := itP c37 hF
              refine lv_iload_n hx hb dX8_sheet_51 rfl (lv_at hl 2 rfl) ?_
              refine lv_if_le (tgt := 68) hx hb dX8_sheet_52 (by decide) (fun c52 => ?_) (fun c52 => ?_)
              · have hF := itP c52 hF
                refine lv_aload_n hx hb dX8_sheet_68 rfl (lv_at hl 0 rfl) ?_
                refine va_get (ci := 8) (v := .ref bitsOf) (C := RX8) (T := TX8) (N := 24) hx hb hts (fun w h => tcons w (xin8 w h)) hown hK hP 0 rfl rfl 4 (by decide) (hts _ (tcons _ m140)) (fun _ h9 => h9) rfl dX8_sheet_69 ?_
                refine lv_iload_n hx hb dX8_sheet_72 rfl (lv_at hl 1 rfl) ?_
                refine lv_iload_n hx hb dX8_sheet_73 rfl (lv_at hl 2 rfl) ?_
                obtain ⟨g74, hF⟩ := gdS hF
                refine va_iast hx hb hK hP hD hS 2 0 rfl rfl g74 dX8_sheet_74 (fun H locs hP hD hS => ?_)
                have hP : va_P G.1 vwCl [(t, .inr (8, [.ref row, .ref kpt, .int images, .ref errs, .ref bitsOf, .ref sizeOf, .ref cels, .ref broken, .ref isFit, .ref breaks, .int mfit, .int known, .ref act, .ref wth, .ref facts, .ref pile, .int laid, .int hre, .int opnd, .int bad, .int usg, .ref trc, .int trcd, .int isP])), (errs, .inl (xI G, 7, .inl errs_f)), (bitsOf, .inl (xI G, 4, .inl (upd bitsOf_f si.toNatClampNeg wi))), (sizeOf, .inl (xI G, 4, .inl sizeOf_f)), (cels, .inl (xI G, 96, .inl cels_f))] H := hP
                have hD : va_D A [(t, .inr (8, [.ref row, .ref kpt, .int images, .ref errs, .ref bitsOf, .ref sizeOf, .ref cels, .ref broken, .ref isFit, .ref breaks, .int mfit, .int known, .ref act, .ref wth, .ref facts, .ref pile, .int laid, .int hre, .int opnd, .int bad, .int usg, .ref trc, .int trcd, .int isP])), (errs, .inl (xI G, 7, .inl errs_f)), (bitsOf, .inl (xI G, 4, .inl (upd bitsOf_f si.toNatClampNeg wi))), (sizeOf, .inl (xI G, 4, .inl sizeOf_f)), (cels, .inl (xI G, 96, .inl cels_f))] := hD
                refine lv_aload_n hx hb dX8_sheet_75 rfl (lv_at hl 0 rfl) ?_
                refine va_get (ci := 8) (v := .ref sizeOf) (C := RX8) (T := TX8) (N := 24) hx hb hts (fun w h => tcons w (xin8 w h)) hown hK hP 0 rfl rfl 5 (by decide) (hts _ (tcons _ m141)) (fun _ h9 => h9) rfl dX8_sheet_76 ?_
                refine lv_iload_n hx hb dX8_sheet_79 rfl (lv_at hl 1 rfl) ?_
                refine lv_iload_n hx hb dX8_sheet_80 rfl (lv_at hl 2 rfl) ?_
                refine lv_if_ne (tgt := 88) hx hb dX8_sheet_81 (by decide) (fun c81 => ?_) (fun c81 => ?_)
                · have hF := itN c81 hF
                  refine lv_iload_n hx hb dX8_sheet_88 rfl (lv_at hl 3 rfl) ?_
                  obtain ⟨g89, hF⟩ := gdS hF
                  refine va_iast hx hb hK hP hD hS 3 0 rfl rfl g89 dX8_sheet_89 (fun H locs hP hD hS => ?_)
                  have hP : va_P G.1 vwCl [(t, .inr (8, [.ref row, .ref kpt, .int images, .ref errs, .ref bitsOf, .ref sizeOf, .ref cels, .ref broken, .ref isFit, .ref breaks, .int mfit, .int known, .ref act, .ref wth, .ref facts, .ref pile, .int laid, .int hre, .int opnd, .int bad, .int usg, .ref trc, .int trcd, .int isP])), (errs, .inl (xI G, 7, .inl errs_f)), (bitsOf, .inl (xI G, 4, .inl (upd bitsOf_f si.toNatClampNeg wi))), (sizeOf, .inl (xI G, 4, .inl (upd sizeOf_f si.toNatClampNeg k))), (cels, .inl (xI G, 96, .inl cels_f))] H := hP
                  have hD : va_D A [(t, .inr (8, [.ref row, .ref kpt, .int images, .ref errs, .ref bitsOf, .ref sizeOf, .ref cels, .ref broken, .ref isFit, .ref breaks, .int mfit, .int known, .ref act, .ref wth, .ref facts, .ref pile, .int laid, .int hre, .int opnd, .int bad, .int usg, .ref trc, .int trcd, .int isP])), (errs, .inl (xI G, 7, .inl errs_f)), (bitsOf, .inl (xI G, 4, .inl (upd bitsOf_f si.toNatClampNeg wi))), (sizeOf, .inl (xI G, 4, .inl (upd sizeOf_f si.toNatClampNeg k))), (cels, .inl (xI G, 96, .inl cels_f))] := hD
                  refine lv_iconst (v := 0) hx hb dX8_sheet_90 (by decide) ?_
                  refine lv_istore (lv' := [(4, .int (0 : Int32)), (0, .ref t), (1, .int si), (2, .int wi), (3, .int k)]) hx hb dX8_sheet_91 hl (by decide) rfl (fun ls hl => ?_)
                  refine xLoop2 (body := (B_X8_sheet_93 errs_f bitsOf_f sizeOf_f si wi k)) (fun (v93_0 : Int32) (v93_1 : Nat → Int32) H locs ls => va_P G.1 vwCl [(t, .inr (8, [.ref row, .ref kpt, .int images, .ref errs, .ref bitsOf, .ref sizeOf, .ref cels, .ref broken, .ref isFit, .ref breaks, .int mfit, .int known, .ref act, .ref wth, .ref facts, .ref pile, .int laid, .int hre, .int opnd, .int bad, .int usg, .ref trc, .int trcd, .int isP])), (errs, .inl (xI G, 7, .inl errs_f)), (bitsOf, .inl (xI G, 4, .inl (upd bitsOf_f si.toNatClampNeg wi))), (sizeOf, .inl (xI G, 4, .inl (upd sizeOf_f si.toNatClampNeg k))), (cels, .inl (xI G, 96, .inl v93_1))] H ∧ va_D A [(t, .inr (8, [.ref row, .ref kpt, .int images, .ref errs, .ref bitsOf, .ref sizeOf, .ref cels, .ref broken, .ref isFit, .ref breaks, .int mfit, .int known, .ref act, .ref wth, .ref facts, .ref pile, .int laid, .int hre, .int opnd, .int bad, .int usg, .ref trc, .int trcd, .int isP])), (errs, .inl (xI G, 7, .inl errs_f)), (bitsOf, .inl (xI G, 4, .inl (upd bitsOf_f si.toNatClampNeg wi))), (sizeOf, .inl (xI G, 4, .inl (upd sizeOf_f si.toNatClampNeg k))), (cels, .inl (xI G, 96, .inl v93_1))] ∧ va_S A s.heap H locs ∧ lv_has ls 5 [(0, .ref t), (1, .int si), (2, .int wi), (3, .int k), (4, .int v93_0)]) (fun N93 v93_0 v93_1 ih93 H locs ls hI hF => ?_) fuelC (0 : Int32) cels_f H locs ls ⟨hP, hD, hS, lv_sub hl [1, 2, 3, 4, 0] rfl⟩ hF
                  obtain ⟨hP, hD, hS, hl⟩ := hI
                  unfold B_X8_sheet_93 at hF
                  refine lv_iload hx hb dX8_sheet_93 (lv_at hl 4 rfl) ?_
                  refine lv_bipush (v := 24) hx hb dX8_sheet_95 (by decide) ?_
                  refine lv_icmp_ge (tgt := 119) hx hb dX8_sheet_97 (by decide) (fun c97 => ?_) (fun c97 => ?_)
                  · have hF := itP c97 hF
                    refine lv_iconst (v := 1) hx hb dX8_sheet_119 (by decide) ?_
                    obtain rfl := Option.some.inj hF
                    rw [← hQ]
                    exact W.iret (v := (1 : Int32)) hx hb hr (fun t ht hW => ⟨⟨_, (), rfl, ⟨rfl, rfl⟩, xLf hP ht⟩, hS.F ht⟩) hS.2.2 dX8_sheet_120
                  · have hF := itN c97 hF
                    refine lv_aload_n hx hb dX8_sheet_100 rfl (lv_at hl 0 rfl) ?_
                    refine va_get (ci := 8) (v := .ref cels) (C := RX8) (T := TX8) (N := 24) hx hb hts (fun w h => tcons w (xin8 w h)) hown hK hP 0 rfl rfl 6 (by decide) (hts _ (tcons _ m142)) (fun _ h9 => h9) rfl dX8_sheet_101 ?_
                    refine lv_bipush (v := 24) hx hb dX8_sheet_104 (by decide) ?_
                    refine lv_iload_n hx hb dX8_sheet_106 rfl (lv_at hl 1 rfl) ?_
                    refine lv_imul hx hb dX8_sheet_107 ?_
                    refine lv_iload hx hb dX8_sheet_108 (lv_at hl 4 rfl) ?_
                    refine lv_iadd hx hb dX8_sheet_110 ?_
                    refine lv_iconst (v := 0) hx hb dX8_sheet_111 (by decide) ?_
                    obtain ⟨g112, hF⟩ := gdS hF
                    refine va_iast hx hb hK hP hD hS 4 0 rfl rfl g112 dX8_sheet_112 (fun H locs hP hD hS => ?_)
                    have hP : va_P G.1 vwCl [(t, .inr (8, [.ref row, .ref kpt, .int images, .ref errs, .ref bitsOf, .ref sizeOf, .ref cels, .ref broken, .ref isFit, .ref breaks, .int mfit, .int known, .ref act, .ref wth, .ref facts, .ref pile, .int laid, .int hre, .int opnd, .int bad, .int usg, .ref trc, .int trcd, .int isP])), (errs, .inl (xI G, 7, .inl errs_f)), (bitsOf, .inl (xI G, 4, .inl (upd bitsOf_f si.toNatClampNeg wi))), (sizeOf, .inl (xI G, 4, .inl (upd sizeOf_f si.toNatClampNeg k))), (cels, .inl (xI G, 96, .inl (upd v93_1 (((24 : Int32) * si) + v93_0).toNatClampNeg (0 : Int32))))] H := hP
                    have hD : va_D A [(t, .inr (8, [.ref row, .ref kpt, .int images, .ref errs, .ref bitsOf, .ref sizeOf, .ref cels, .ref broken, .ref isFit, .ref breaks, .int mfit, .int known, .ref act, .ref wth, .ref facts, .ref pile, .int laid, .int hre, .int opnd, .int bad, .int usg, .ref trc, .int trcd, .int isP])), (errs, .inl (xI G, 7, .inl errs_f)), (bitsOf, .inl (xI G, 4, .inl (upd bitsOf_f si.toNatClampNeg wi))), (sizeOf, .inl (xI G, 4, .inl (upd sizeOf_f si.toNatClampNeg k))), (cels, .inl (xI G, 96, .inl (upd v93_1 (((24 : Int32) * si) + v93_0).toNatClampNeg (0 : Int32))))] := hD
                    refine lv_iinc (v := (v93_0 + (1 : Int32))) (lv' := [(4, .int (v93_0 + (1 : Int32))), (0, .ref t), (1, .int si), (2, .int wi), (3, .int k)]) hx hb dX8_sheet_113 hl (k := 4) rfl (xInc_1 _) (by decide) rfl (fun ls hl => ?_)
                    refine lv_goto (tgt := 93) hx hb dX8_sheet_116 (by decide) ?_
                    exact ih93 (v93_0 + (1 : Int32)) (upd v93_1 (((24 : Int32) * si) + v93_0).toNatClampNeg (0 : Int32)) H locs ls ⟨hP, hD, hS, lv_sub hl [1, 2, 3, 4, 0] rfl⟩ hF
                · have hF := itP c81 hF
                  refine lv_iconst (v := 0) hx hb dX8_sheet_84 (by decide) ?_
                  refine lv_goto (tgt := 89) hx hb dX8_sheet_85 (by decide) ?_
                  obtain ⟨g89, hF⟩ := gdS hF
                  refine va_iast hx hb hK hP hD hS 3 0 rfl rfl g89 dX8_sheet_89 (fun H locs hP hD hS => ?_)
                  have hP : va_P G.1 vwCl [(t, .inr (8, [.ref row, .ref kpt, .int images, .ref errs, .ref bitsOf, .ref sizeOf, .ref cels, .ref broken, .ref isFit, .ref breaks, .int mfit, .int known, .ref act, .ref wth, .ref facts, .ref pile, .int laid, .int hre, .int opnd, .int bad, .int usg, .ref trc, .int trcd, .int isP])), (errs, .inl (xI G, 7, .inl errs_f)), (bitsOf, .inl (xI G, 4, .inl (upd bitsOf_f si.toNatClampNeg wi))), (sizeOf, .inl (xI G, 4, .inl (upd sizeOf_f si.toNatClampNeg (0 : Int32)))), (cels, .inl (xI G, 96, .inl cels_f))] H := hP
                  have hD : va_D A [(t, .inr (8, [.ref row, .ref kpt, .int images, .ref errs, .ref bitsOf, .ref sizeOf, .ref cels, .ref broken, .ref isFit, .ref breaks, .int mfit, .int known, .ref act, .ref wth, .ref facts, .ref pile, .int laid, .int hre, .int opnd, .int bad, .int usg, .ref trc, .int trcd, .int isP])), (errs, .inl (xI G, 7, .inl errs_f)), (bitsOf, .inl (xI G, 4, .inl (upd bitsOf_f si.toNatClampNeg wi))), (sizeOf, .inl (xI G, 4, .inl (upd sizeOf_f si.toNatClampNeg (0 : Int32)))), (cels, .inl (xI G, 96, .inl cels_f))] := hD
                  refine lv_iconst (v := 0) hx hb dX8_sheet_90 (by decide) ?_
                  refine lv_istore (lv' := [(4, .int (0 : Int32)), (0, .ref t), (1, .int si), (2, .int wi), (3, .int k)]) hx hb dX8_sheet_91 hl (by decide) rfl (fun ls hl => ?_)
                  refine xLoop2 (body := (B_X8_sheet_93bbbbbbbbbbbbb errs_f bitsOf_f sizeOf_f si wi)) (fun (v93_0 : Int32) (v93_1 : Nat → Int32) H locs ls => va_P G.1 vwCl [(t, .inr (8, [.ref row, .ref kpt, .int images, .ref errs, .ref bitsOf, .ref sizeOf, .ref cels, .ref broken, .ref isFit, .ref breaks, .int mfit, .int known, .ref act, .ref wth, .ref facts, .ref pile, .int laid, .int hre, .int opnd, .int bad, .int usg, .ref trc, .int trcd, .int isP])), (errs, .inl (xI G, 7, .inl errs_f)), (bitsOf, .inl (xI G, 4, .inl (upd bitsOf_f si.toNatClampNeg wi))), (sizeOf, .inl (xI G, 4, .inl (upd sizeOf_f si.toNatClampNeg (0 : Int32)))), (cels, .inl (xI G, 96, .inl v93_1))] H ∧ va_D A [(t, .inr (8, [.ref row, .ref kpt, .int images, .ref errs, .ref bitsOf, .ref sizeOf, .ref cels, .ref broken, .ref isFit, .ref breaks, .int mfit, .int known, .ref act, .ref wth, .ref facts, .ref pile, .int laid, .int hre, .int opnd, .int bad, .int usg, .ref trc, .int trcd, .int isP])), (errs, .inl (xI G, 7, .inl errs_f)), (bitsOf, .inl (xI G, 4, .inl (upd bitsOf_f si.toNatClampNeg wi))), (sizeOf, .inl (xI G, 4, .inl (upd sizeOf_f si.toNatClampNeg (0 : Int32)))), (cels, .inl (xI G, 96, .inl v93_1))] ∧ va_S A s.heap H locs ∧ lv_has ls 5 [(0, .ref t), (1, .int si), (2, .int wi), (3, .int k), (4, .int v93_0)]) (fun N93 v93_0 v93_1 ih93 H locs ls hI hF => ?_) fuelC (0 : Int32) cels_f H locs ls ⟨hP, hD, hS, lv_sub hl [1, 2, 3, 4, 0] rfl⟩ hF
                  obtain ⟨hP, hD, hS, hl⟩ := hI
                  unfold B_X8_sheet_93bbbbbbbbbbbbb at hF
                  refine lv_iload hx hb dX8_sheet_93 (lv_at hl 4 rfl) ?_
                  refine lv_bipush (v := 24) hx hb dX8_sheet_95 (by decide) ?_
                  refine lv_icmp_ge (tgt := 119) hx hb dX8_sheet_97 (by decide) (fun c97 => ?_) (fun c97 => ?_)
                  · have hF := itP c97 hF
                    refine lv_iconst (v := 1) hx hb dX8_sheet_119 (by decide) ?_
                    obtain rfl := Option.some.inj hF
                    rw [← hQ]
                    exact W.iret (v := (1 : Int32)) hx hb hr (fun t ht hW => ⟨⟨_, (), rfl, ⟨rfl, rfl⟩, xLf hP ht⟩, hS.F ht⟩) hS.2.2 dX8_sheet_120
                  · have hF := itN c97 hF
                    refine lv_aload_n hx hb dX8_sheet_100 rfl (lv_at hl 0 rfl) ?_
                    refine va_get (ci := 8) (v := .ref cels) (C := RX8) (T := TX8) (N := 24) hx hb hts (fun w h => tcons w (xin8 w h)) hown hK hP 0 rfl rfl 6 (by decide) (hts _ (tcons _ m142)) (fun _ h9 => h9) rfl dX8_sheet_101 ?_
                    refine lv_bipush (v := 24) hx hb dX8_sheet_104 (by decide) ?_
                    refine lv_iload_n hx hb dX8_sheet_106 rfl (lv_at hl 1 rfl) ?_
                    refine lv_imul hx hb dX8_sheet_107 ?_
                    refine lv_iload hx hb dX8_sheet_108 (lv_at hl 4 rfl) ?_
                    refine lv_iadd hx hb dX8_sheet_110 ?_
                    refine lv_iconst (v := 0) hx hb dX8_sheet_111 (by decide) ?_
                    obtain ⟨g112, hF⟩ := gdS hF
                    refine va_iast hx hb hK hP hD hS 4 0 rfl rfl g112 dX8_sheet_112 (fun H locs hP hD hS => ?_)
                    have hP : va_P G.1 vwCl [(t, .inr (8, [.ref row, .ref kpt, .int images, .ref errs, .ref bitsOf, .ref sizeOf, .ref cels, .ref broken, .ref isFit, .ref breaks, .int mfit, .int known, .ref act, .ref wth, .ref facts, .ref pile, .int laid, .int hre, .int opnd, .int bad, .int usg, .ref trc, .int trcd, .int isP])), (errs, .inl (xI G, 7, .inl errs_f)), (bitsOf, .inl (xI G, 4, .inl (upd bitsOf_f si.toNatClampNeg wi))), (sizeOf, .inl (xI G, 4, .inl (upd sizeOf_f si.toNatClampNeg (0 : Int32)))), (cels, .inl (xI G, 96, .inl (upd v93_1 (((24 : Int32) * si) + v93_0).toNatClampNeg (0 : Int32))))] H := hP
                    have hD : va_D A [(t, .inr (8, [.ref row, .ref kpt, .int images, .ref errs, .ref bitsOf, .ref sizeOf, .ref cels, .ref broken, .ref isFit, .ref breaks, .int mfit, .int known, .ref act, .ref wth, .ref facts, .ref pile, .int laid, .int hre, .int opnd, .int bad, .int usg, .ref trc, .int trcd, .int isP])), (errs, .inl (xI G, 7, .inl errs_f)), (bitsOf, .inl (xI G, 4, .inl (upd bitsOf_f si.toNatClampNeg wi))), (sizeOf, .inl (xI G, 4, .inl (upd sizeOf_f si.toNatClampNeg (0 : Int32)))), (cels, .inl (xI G, 96, .inl (upd v93_1 (((24 : Int32) * si) + v93_0).toNatClampNeg (0 : Int32))))] := hD
                    refine lv_iinc (v := (v93_0 + (1 : Int32))) (lv' := [(4, .int (v93_0 + (1 : Int32))), (0, .ref t), (1, .int si), (2, .int wi), (3, .int k)]) hx hb dX8_sheet_113 hl (k := 4) rfl (xInc_1 _) (by decide) rfl (fun ls hl => ?_)
                    refine lv_goto (tgt := 93) hx hb dX8_sheet_116 (by decide) ?_
                    exact ih93 (v93_0 + (1 : Int32)) (upd v93_1 (((24 : Int32) * si) + v93_0).toNatClampNeg (0 : Int32)) H locs ls ⟨hP, hD, hS, lv_sub hl [1, 2, 3, 4, 0] rfl⟩ hF
              · have hF := itN c52 hF
                refine lv_iload_n hx hb dX8_sheet_55 rfl (lv_at hl 3 rfl) ?_
                refine lv_bipush (v := 24) hx hb dX8_sheet_56 (by decide) ?_
                refine lv_icmp_le (tgt := 68) hx hb dX8_sheet_58 (by decide) (fun c58 => ?_) (fun c58 => ?_)
                · have hF := itP c58 hF
                  refine lv_aload_n hx hb dX8_sheet_68 rfl (lv_at hl 0 rfl) ?_
                  refine va_get (ci := 8) (v := .ref bitsOf) (C := RX8) (T := TX8) (N := 24) hx hb hts (fun w h => tcons w (xin8 w h)) hown hK hP 0 rfl rfl 4 (by decide) (hts _ (tcons _ m140)) (fun _ h9 => h9) rfl dX8_sheet_69 ?_
                  refine lv_iload_n hx hb dX8_sheet_72 rfl (lv_at hl 1 rfl) ?_
                  refine lv_iload_n hx hb dX8_sheet_73 rfl (lv_at hl 2 rfl) ?_
                  obtain ⟨g74, hF⟩ := gdS hF
                  refine va_iast hx hb hK hP hD hS 2 0 rfl rfl g74 dX8_sheet_74 (fun H locs hP hD hS => ?_)
                  have hP : va_P G.1 vwCl [(t, .inr (8, [.ref row, .ref kpt, .int images, .ref errs, .ref bitsOf, .ref sizeOf, .ref cels, .ref broken, .ref isFit, .ref breaks, .int mfit, .int known, .ref act, .ref wth, .ref facts, .ref pile, .int laid, .int hre, .int opnd, .int bad, .int usg, .ref trc, .int trcd, .int isP])), (errs, .inl (xI G, 7, .inl errs_f)), (bitsOf, .inl (xI G, 4, .inl (upd bitsOf_f si.toNatClampNeg wi))), (sizeOf, .inl (xI G, 4, .inl sizeOf_f)), (cels, .inl (xI G, 96, .inl cels_f))] H := hP
                  have hD : va_D A [(t, .inr (8, [.ref row, .ref kpt, .int images, .ref errs, .ref bitsOf, .ref sizeOf, .ref cels, .ref broken, .ref isFit, .ref breaks, .int mfit, .int known, .ref act, .ref wth, .ref facts, .ref pile, .int laid, .int hre, .int opnd, .int bad, .int usg, .ref trc, .int trcd, .int isP])), (errs, .inl (xI G, 7, .inl errs_f)), (bitsOf, .inl (xI G, 4, .inl (upd bitsOf_f si.toNatClampNeg wi))), (sizeOf, .inl (xI G, 4, .inl sizeOf_f)), (cels, .inl (xI G, 96, .inl cels_f))] := hD
                  refine lv_aload_n hx hb dX8_sheet_75 rfl (lv_at hl 0 rfl) ?_
                  refine va_get (ci := 8) (v := .ref sizeOf) (C := RX8) (T := TX8) (N := 24) hx hb hts (fun w h => tcons w (xin8 w h)) hown hK hP 0 rfl rfl 5 (by decide) (hts _ (tcons _ m141)) (fun _ h9 => h9) rfl dX8_sheet_76 ?_
                  refine lv_iload_n hx hb dX8_sheet_79 rfl (lv_at hl 1 rfl) ?_
                  refine lv_iload_n hx hb dX8_sheet_80 rfl (lv_at hl 2 rfl) ?_
                  refine lv_if_ne (tgt := 88) hx hb dX8_sheet_81 (by decide) (fun c81 => ?_) (fun c81 => ?_)
                  · have hF := itN c81 hF
                    refine lv_iload_n hx hb dX8_sheet_88 rfl (lv_at hl 3 rfl) ?_
                    obtain ⟨g89, hF⟩ := gdS hF
                    refine va_iast hx hb hK hP hD hS 3 0 rfl rfl g89 dX8_sheet_89 (fun H locs hP hD hS => ?_)
                    have hP : va_P G.1 vwCl [(t, .inr (8, [.ref row, .ref kpt, .int images, .ref errs, .ref bitsOf, .ref sizeOf, .ref cels, .ref broken, .ref isFit, .ref breaks, .int mfit, .int known, .ref act, .ref wth, .ref facts, .ref pile, .int laid, .int hre, .int opnd, .int bad, .int usg, .ref trc, .int trcd, .int isP])), (errs, .inl (xI G, 7, .inl errs_f)), (bitsOf, .inl (xI G, 4, .inl (upd bitsOf_f si.toNatClampNeg wi))), (sizeOf, .inl (xI G, 4, .inl (upd sizeOf_f si.toNatClampNeg k))), (cels, .inl (xI G, 96, .inl cels_f))] H := hP
                    have hD : va_D A [(t, .inr (8, [.ref row, .ref kpt, .int images, .ref errs, .ref bitsOf, .ref sizeOf, .ref cels, .ref broken, .ref isFit, .ref breaks, .int mfit, .int known, .ref act, .ref wth, .ref facts, .ref pile, .int laid, .int hre, .int opnd, .int bad, .int usg, .ref trc, .int trcd, .int isP])), (errs, .inl (xI G, 7, .inl errs_f)), (bitsOf, .inl (xI G, 4, .inl (upd bitsOf_f si.toNatClampNeg wi))), (sizeOf, .inl (xI G, 4, .inl (upd sizeOf_f si.toNatClampNeg k))), (cels, .inl (xI G, 96, .inl cels_f))] := hD
                    refine lv_iconst (v := 0) hx hb dX8_sheet_90 (by decide) ?_
                    refine lv_istore (lv' := [(4, .int (0 : Int32)), (0, .ref t), (1, .int si), (2, .int wi), (3, .int k)]) hx hb dX8_sheet_91 hl (by decide) rfl (fun ls hl => ?_)
                    refine xLoop2 (body := (B_X8_sheet_93 errs_f bitsOf_f sizeOf_f si wi k)) (fun (v93_0 : Int32) (v93_1 : Nat → Int32) H locs ls => va_P G.1 vwCl [(t, .inr (8, [.ref row, .ref kpt, .int images, .ref errs, .ref bitsOf, .ref sizeOf, .ref cels, .ref broken, .ref isFit, .ref breaks, .int mfit, .int known, .ref act, .ref wth, .ref facts, .ref pile, .int laid, .int hre, .int opnd, .int bad, .int usg, .ref trc, .int trcd, .int isP])), (errs, .inl (xI G, 7, .inl errs_f)), (bitsOf, .inl (xI G, 4, .inl (upd bitsOf_f si.toNatClampNeg wi))), (sizeOf, .inl (xI G, 4, .inl (upd sizeOf_f si.toNatClampNeg k))), (cels, .inl (xI G, 96, .inl v93_1))] H ∧ va_D A [(t, .inr (8, [.ref row, .ref kpt, .int images, .ref errs, .ref bitsOf, .ref sizeOf, .ref cels, .ref broken, .ref isFit, .ref breaks, .int mfit, .int known, .ref act, .ref wth, .ref facts, .ref pile, .int laid, .int hre, .int opnd, .int bad, .int usg, .ref trc, .int trcd, .int isP])), (errs, .inl (xI G, 7, .inl errs_f)), (bitsOf, .inl (xI G, 4, .inl (upd bitsOf_f si.toNatClampNeg wi))), (sizeOf, .inl (xI G, 4, .inl (upd sizeOf_f si.toNatClampNeg k))), (cels, .inl (xI G, 96, .inl v93_1))] ∧ va_S A s.heap H locs ∧ lv_has ls 5 [(0, .ref t), (1, .int si), (2, .int wi), (3, .int k), (4, .int v93_0)]) (fun N93 v93_0 v93_1 ih93 H locs ls hI hF => ?_) fuelC (0 : Int32) cels_f H locs ls ⟨hP, hD, hS, lv_sub hl [1, 2, 3, 4, 0] rfl⟩ hF
                    obtain ⟨hP, hD, hS, hl⟩ := hI
                    unfold B_X8_sheet_93 at hF
                    refine lv_iload hx hb dX8_sheet_93 (lv_at hl 4 rfl) ?_
                    refine lv_bipush (v := 24) hx hb dX8_sheet_95 (by decide) ?_
                    refine lv_icmp_ge (tgt := 119) hx hb dX8_sheet_97 (by decide) (fun c97 => ?_) (fun c97 => ?_)
                    · have hF := itP c97 hF
                      refine lv_iconst (v := 1) hx hb dX8_sheet_119 (by decide) ?_
                      obtain rfl := Option.some.inj hF
                      rw [← hQ]
                      exact W.iret (v := (1 : Int32)) hx hb hr (fun t ht hW => ⟨⟨_, (), rfl, ⟨rfl, rfl⟩, xLf hP ht⟩, hS.F ht⟩) hS.2.2 dX8_sheet_120
                    · have hF := itN c97 hF
                      refine lv_aload_n hx hb dX8_sheet_100 rfl (lv_at hl 0 rfl) ?_
                      refine va_get (ci := 8) (v := .ref cels) (C := RX8) (T := TX8) (N := 24) hx hb hts (fun w h => tcons w (xin8 w h)) hown hK hP 0 rfl rfl 6 (by decide) (hts _ (tcons _ m142)) (fun _ h9 => h9) rfl dX8_sheet_101 ?_
                      refine lv_bipush (v := 24) hx hb dX8_sheet_104 (by decide) ?_
                      refine lv_iload_n hx hb dX8_sheet_106 rfl (lv_at hl 1 rfl) ?_
                      refine lv_imul hx hb dX8_sheet_107 ?_
                      refine lv_iload hx hb dX8_sheet_108 (lv_at hl 4 rfl) ?_
                      refine lv_iadd hx hb dX8_sheet_110 ?_
                      refine lv_iconst (v := 0) hx hb dX8_sheet_111 (by decide) ?_
                      obtain ⟨g112, hF⟩ := gdS hF
                      refine va_iast hx hb hK hP hD hS 4 0 rfl rfl g112 dX8_sheet_112 (fun H locs hP hD hS => ?_)
                      have hP : va_P G.1 vwCl [(t, .inr (8, [.ref row, .ref kpt, .int images, .ref errs, .ref bitsOf, .ref sizeOf, .ref cels, .ref broken, .ref isFit, .ref breaks, .int mfit, .int known, .ref act, .ref wth, .ref facts, .ref pile, .int laid, .int hre, .int opnd, .int bad, .int usg, .ref trc, .int trcd, .int isP])), (errs, .inl (xI G, 7, .inl errs_f)), (bitsOf, .inl (xI G, 4, .inl (upd bitsOf_f si.toNatClampNeg wi))), (sizeOf, .inl (xI G, 4, .inl (upd sizeOf_f si.toNatClampNeg k))), (cels, .inl (xI G, 96, .inl (upd v93_1 (((24 : Int32) * si) + v93_0).toNatClampNeg (0 : Int32))))] H := hP
                      have hD : va_D A [(t, .inr (8, [.ref row, .ref kpt, .int images, .ref errs, .ref bitsOf, .ref sizeOf, .ref cels, .ref broken, .ref isFit, .ref breaks, .int mfit, .int known, .ref act, .ref wth, .ref facts, .ref pile, .int laid, .int hre, .int opnd, .int bad, .int usg, .ref trc, .int trcd, .int isP])), (errs, .inl (xI G, 7, .inl errs_f)), (bitsOf, .inl (xI G, 4, .inl (upd bitsOf_f si.toNatClampNeg wi))), (sizeOf, .inl (xI G, 4, .inl (upd sizeOf_f si.toNatClampNeg k))), (cels, .inl (xI G, 96, .inl (upd v93_1 (((24 : Int32) * si) + v93_0).toNatClampNeg (0 : Int32))))] := hD
                      refine lv_iinc (v := (v93_0 + (1 : Int32))) (lv' := [(4, .int (v93_0 + (1 : Int32))), (0, .ref t), (1, .int si), (2, .int wi), (3, .int k)]) hx hb dX8_sheet_113 hl (k := 4) rfl (xInc_1 _) (by decide) rfl (fun ls hl => ?_)
                      refine lv_goto (tgt := 93) hx hb dX8_sheet_116 (by decide) ?_
                      exact ih93 (v93_0 + (1 : Int32)) (upd v93_1 (((24 : Int32) * si) + v93_0).toNatClampNeg (0 : Int32)) H locs ls ⟨hP, hD, hS, lv_sub hl [1, 2, 3, 4, 0] rfl⟩ hF
                  · have hF := itP c81 hF
                    refine lv_iconst (v := 0) hx hb dX8_sheet_84 (by decide) ?_
                    refine lv_goto (tgt := 89) hx hb dX8_sheet_85 (by decide) ?_
                    obtain ⟨g89, hF⟩ := gdS hF
                    refine va_iast hx hb hK hP hD hS 3 0 rfl rfl g89 dX8_sheet_89 (fun H locs hP hD hS => ?_)
                    have hP : va_P G.1 vwCl [(t, .inr (8, [.ref row, .ref kpt, .int images, .ref errs, .ref bitsOf, .ref sizeOf, .ref cels, .ref broken, .ref isFit, .ref breaks, .int mfit, .int known, .ref act, .ref wth, .ref facts, .ref pile, .int laid, .int hre, .int opnd, .int bad, .int usg, .ref trc, .int trcd, .int isP])), (errs, .inl (xI G, 7, .inl errs_f)), (bitsOf, .inl (xI G, 4, .inl (upd bitsOf_f si.toNatClampNeg wi))), (sizeOf, .inl (xI G, 4, .inl (upd sizeOf_f si.toNatClampNeg (0 : Int32)))), (cels, .inl (xI G, 96, .inl cels_f))] H := hP
                    have hD : va_D A [(t, .inr (8, [.ref row, .ref kpt, .int images, .ref errs, .ref bitsOf, .ref sizeOf, .ref cels, .ref broken, .ref isFit, .ref breaks, .int mfit, .int known, .ref act, .ref wth, .ref facts, .ref pile, .int laid, .int hre, .int opnd, .int bad, .int usg, .ref trc, .int trcd, .int isP])), (errs, .inl (xI G, 7, .inl errs_f)), (bitsOf, .inl (xI G, 4, .inl (upd bitsOf_f si.toNatClampNeg wi))), (sizeOf, .inl (xI G, 4, .inl (upd sizeOf_f si.toNatClampNeg (0 : Int32)))), (cels, .inl (xI G, 96, .inl cels_f))] := hD
                    refine lv_iconst (v := 0) hx hb dX8_sheet_90 (by decide) ?_
                    refine lv_istore (lv' := [(4, .int (0 : Int32)), (0, .ref t), (1, .int si), (2, .int wi), (3, .int k)]) hx hb dX8_sheet_91 hl (by decide) rfl (fun ls hl => ?_)
                    refine xLoop2 (body := (B_X8_sheet_93bbbbbbbbbbbbbb errs_f bitsOf_f sizeOf_f si wi)) (fun (v93_0 : Int32) (v93_1 : Nat → Int32) H locs ls => va_P G.1 vwCl [(t, .inr (8, [.ref row, .ref kpt, .int images, .ref errs, .ref bitsOf, .ref sizeOf, .ref cels, .ref broken, .ref isFit, .ref breaks, .int mfit, .int known, .ref act, .ref wth, .ref facts, .ref pile, .int laid, .int hre, .int opnd, .int bad, .int usg, .ref trc, .int trcd, .int isP])), (errs, .inl (xI G, 7, .inl errs_f)), (bitsOf, .inl (xI G, 4, .inl (upd bitsOf_f si.toNatClampNeg wi))), (sizeOf, .inl (xI G, 4, .inl (upd sizeOf_f si.toNatClampNeg (0 : Int32)))), (cels, .inl (xI G, 96, .inl v93_1))] H ∧ va_D A [(t, .inr (8, [.ref row, .ref kpt, .int images, .ref errs, .ref bitsOf, .ref sizeOf, .ref cels, .ref broken, .ref isFit, .ref breaks, .int mfit, .int known, .ref act, .ref wth, .ref facts, .ref pile, .int laid, .int hre, .int opnd, .int bad, .int usg, .ref trc, .int trcd, .int isP])), (errs, .inl (xI G, 7, .inl errs_f)), (bitsOf, .inl (xI G, 4, .inl (upd bitsOf_f si.toNatClampNeg wi))), (sizeOf, .inl (xI G, 4, .inl (upd sizeOf_f si.toNatClampNeg (0 : Int32)))), (cels, .inl (xI G, 96, .inl v93_1))] ∧ va_S A s.heap H locs ∧ lv_has ls 5 [(0, .ref t), (1, .int si), (2, .int wi), (3, .int k), (4, .int v93_0)]) (fun N93 v93_0 v93_1 ih93 H locs ls hI hF => ?_) fuelC (0 : Int32) cels_f H locs ls ⟨hP, hD, hS, lv_sub hl [1, 2, 3, 4, 0] rfl⟩ hF
                    obtain ⟨hP, hD, hS, hl⟩ := hI
                    unfold B_X8_sheet_93bbbbbbbbbbbbbb at hF
                    refine lv_iload hx hb dX8_sheet_93 (lv_at hl 4 rfl) ?_
                    refine lv_bipush (v := 24) hx hb dX8_sheet_95 (by decide) ?_
                    refine lv_icmp_ge (tgt := 119) hx hb dX8_sheet_97 (by decide) (fun c97 => ?_) (fun c97 => ?_)
                    · have hF := itP c97 hF
                      refine lv_iconst (v := 1) hx hb dX8_sheet_119 (by decide) ?_
                      obtain rfl := Option.some.inj hF
                      rw [← hQ]
                      exact W.iret (v := (1 : Int32)) hx hb hr (fun t ht hW => ⟨⟨_, (), rfl, ⟨rfl, rfl⟩, xLf hP ht⟩, hS.F ht⟩) hS.2.2 dX8_sheet_120
                    · have hF := itN c97 hF
                      refine lv_aload_n hx hb dX8_sheet_100 rfl (lv_at hl 0 rfl) ?_
                      refine va_get (ci := 8) (v := .ref cels) (C := RX8) (T := TX8) (N := 24) hx hb hts (fun w h => tcons w (xin8 w h)) hown hK hP 0 rfl rfl 6 (by decide) (hts _ (tcons _ m142)) (fun _ h9 => h9) rfl dX8_sheet_101 ?_
                      refine lv_bipush (v := 24) hx hb dX8_sheet_104 (by decide) ?_
                      refine lv_iload_n hx hb dX8_sheet_106 rfl (lv_at hl 1 rfl) ?_
                      refine lv_imul hx hb dX8_sheet_107 ?_
                      refine lv_iload hx hb dX8_sheet_108 (lv_at hl 4 rfl) ?_
                      refine lv_iadd hx hb dX8_sheet_110 ?_
                      refine lv_iconst (v := 0) hx hb dX8_sheet_111 (by decide) ?_
                      obtain ⟨g112, hF⟩ := gdS hF
                      refine va_iast hx hb hK hP hD hS 4 0 rfl rfl g112 dX8_sheet_112 (fun H locs hP hD hS => ?_)
                      have hP : va_P G.1 vwCl [(t, .inr (8, [.ref row, .ref kpt, .int images, .ref errs, .ref bitsOf, .ref sizeOf, .ref cels, .ref broken, .ref isFit, .ref breaks, .int mfit, .int known, .ref act, .ref wth, .ref facts, .ref pile, .int laid, .int hre, .int opnd, .int bad, .int usg, .ref trc, .int trcd, .int isP])), (errs, .inl (xI G, 7, .inl errs_f)), (bitsOf, .inl (xI G, 4, .inl (upd bitsOf_f si.toNatClampNeg wi))), (sizeOf, .inl (xI G, 4, .inl (upd sizeOf_f si.toNatClampNeg (0 : Int32)))), (cels, .inl (xI G, 96, .inl (upd v93_1 (((24 : Int32) * si) + v93_0).toNatClampNeg (0 : Int32))))] H := hP
                      have hD : va_D A [(t, .inr (8, [.ref row, .ref kpt, .int images, .ref errs, .ref bitsOf, .ref sizeOf, .ref cels, .ref broken, .ref isFit, .ref breaks, .int mfit, .int known, .ref act, .ref wth, .ref facts, .ref pile, .int laid, .int hre, .int opnd, .int bad, .int usg, .ref trc, .int trcd, .int isP])), (errs, .inl (xI G, 7, .inl errs_f)), (bitsOf, .inl (xI G, 4, .inl (upd bitsOf_f si.toNatClampNeg wi))), (sizeOf, .inl (xI G, 4, .inl (upd sizeOf_f si.toNatClampNeg (0 : Int32)))), (cels, .inl (xI G, 96, .inl (upd v93_1 (((24 : Int32) * si) + v93_0).toNatClampNeg (0 : Int32))))] := hD
                      refine lv_iinc (v := (v93_0 + (1 : Int32))) (lv' := [(4, .int (v93_0 + (1 : Int32))), (0, .ref t), (1, .int si), (2, .int wi), (3, .int k)]) hx hb dX8_sheet_113 hl (k := 4) rfl (xInc_1 _) (by decide) rfl (fun ls hl => ?_)
                      refine lv_goto (tgt := 93) hx hb dX8_sheet_116 (by decide) ?_
                      exact ih93 (v93_0 + (1 : Int32)) (upd v93_1 (((24 : Int32) * si) + v93_0).toNatClampNeg (0 : Int32)) H locs ls ⟨hP, hD, hS, lv_sub hl [1, 2, 3, 4, 0] rfl⟩ hF
                · have hF := itN c58 hF
                  refine lv_aload_n hx hb dX8_sheet_61 rfl (lv_at hl 0 rfl) ?_
                  refine lv_ldc (v := -1000000001) hx hb hown (hts _ (tcons _ m185)) dX8_sheet_62 ?_
                  obtain ⟨u2, e2, hF⟩ := bdS hF
                  refine xEndI (xRunV (As := [.int (-1000000001 : Int32)]) (rest := []) hZ (c_X8_error G t row kpt errs bitsOf sizeOf cels broken isFit breaks act wth facts pile trc images mfit known laid hre opnd bad usg trcd isP errs_f (-1000000001 : Int32) u2 e2 l H.size) m193 m194 m195 m5 m196 1 ⟨rfl, hdX8_error⟩ ⟨Nat.le_of_ble_eq_true rfl, Nat.le_of_ble_eq_true rfl⟩ ⟨rfl, rfl⟩ hP hD hS 0 8 rfl rfl rfl [0, 1] rfl rfl rfl hl.1 rfl (Nat.le_of_ble_eq_true rfl) dX8_sheet_64 ⟨Nat.zero_le _, Nat.zero_le _⟩) hP hD hS hA [0, 1] rfl rfl rfl (fun H locs n2 hP hD hS => ?_)
                  have hP : va_P G.1 vwCl [(t, .inr (8, [.ref row, .ref kpt, .int images, .ref errs, .ref bitsOf, .ref sizeOf, .ref cels, .ref broken, .ref isFit, .ref breaks, .int mfit, .int known, .ref act, .ref wth, .ref facts, .ref pile, .int laid, .int hre, .int opnd, .int bad, .int usg, .ref trc, .int trcd, .int isP])), (errs, .inl (xI G, 7, .inl u2.2)), (bitsOf, .inl (xI G, 4, .inl bitsOf_f)), (sizeOf, .inl (xI G, 4, .inl sizeOf_f)), (cels, .inl (xI G, 96, .inl cels_f))] H := hP
                  have hD : va_D A [(t, .inr (8, [.ref row, .ref kpt, .int images, .ref errs, .ref bitsOf, .ref sizeOf, .ref cels, .ref broken, .ref isFit, .ref breaks, .int mfit, .int known, .ref act, .ref wth, .ref facts, .ref pile, .int laid, .int hre, .int opnd, .int bad, .int usg, .ref trc, .int trcd, .int isP])), (errs, .inl (xI G, 7, .inl u2.2)), (bitsOf, .inl (xI G, 4, .inl bitsOf_f)), (sizeOf, .inl (xI G, 4, .inl sizeOf_f)), (cels, .inl (xI G, 96, .inl cels_f))] := hD
                  obtain rfl := Option.some.inj hF
                  rw [← hQ]
                  exact W.iret (v := u2.1) hx hb hr (fun t ht hW => ⟨⟨_, (), rfl, ⟨rfl, rfl⟩, xLf hP ht⟩, hS.F ht⟩) hS.2.2 dX8_sheet_67
            · have hF := itN c37 hF
              refine lv_iload_n hx hb dX8_sheet_40 rfl (lv_at hl 3 rfl) ?_
              refine lv_if_ge (tgt := 51) hx hb dX8_sheet_41 (by decide) (fun c41 => ?_) (fun c41 => ?_)
              · have hF := itP c41 hF
                refine lv_iload_n hx hb dX8_sheet_51 rfl (lv_at hl 2 rfl) ?_
                refine lv_if_le (tgt := 68) hx hb dX8_sheet_52 (by decide) (fun c52 => ?_) (fun c52 => ?_)
                · have hF := itP c52 hF
                  refine lv_aload_n hx hb dX8_sheet_68 rfl (lv_at hl 0 rfl) ?_
                  refine va_get (ci := 8) (v := .ref bitsOf) (C := RX8) (T := TX8) (N := 24) hx hb hts (fun w h => tcons w (xin8 w h)) hown hK hP 0 rfl rfl 4 (by decide) (hts _ (tcons _ m140)) (fun _ h9 => h9) rfl dX8_sheet_69 ?_
                  refine lv_iload_n hx hb dX8_sheet_72 rfl (lv_at hl 1 rfl) ?_
                  refine lv_iload_n hx hb dX8_sheet_73 rfl (lv_at hl 2 rfl) ?_
                  obtain ⟨g74, hF⟩ := gdS hF
                  refine va_iast hx hb hK hP hD hS 2 0 rfl rfl g74 dX8_sheet_74 (fun H locs hP hD hS => ?_)
                  have hP : va_P G.1 vwCl [(t, .inr (8, [.ref row, .ref kpt, .int images, .ref errs, .ref bitsOf, .ref sizeOf, .ref cels, .ref broken, .ref isFit, .ref breaks, .int mfit, .int known, .ref act, .ref wth, .ref facts, .ref pile, .int laid, .int hre, .int opnd, .int bad, .int usg, .ref trc, .int trcd, .int isP])), (errs, .inl (xI G, 7, .inl errs_f)), (bitsOf, .inl (xI G, 4, .inl (upd bitsOf_f si.toNatClampNeg wi))), (sizeOf, .inl (xI G, 4, .inl sizeOf_f)), (cels, .inl (xI G, 96, .inl cels_f))] H := hP
                  have hD : va_D A [(t, .inr (8, [.ref row, .ref kpt, .int images, .ref errs, .ref bitsOf, .ref sizeOf, .ref cels, .ref broken, .ref isFit, .ref breaks, .int mfit, .int known, .ref act, .ref wth, .ref facts, .ref pile, .int laid, .int hre, .int opnd, .int bad, .int usg, .ref trc, .int trcd, .int isP])), (errs, .inl (xI G, 7, .inl errs_f)), (bitsOf, .inl (xI G, 4, .inl (upd bitsOf_f si.toNatClampNeg wi))), (sizeOf, .inl (xI G, 4, .inl sizeOf_f)), (cels, .inl (xI G, 96, .inl cels_f))] := hD
                  refine lv_aload_n hx hb dX8_sheet_75 rfl (lv_at hl 0 rfl) ?_
                  refine va_get (ci := 8) (v := .ref sizeOf) (C := RX8) (T := TX8) (N := 24) hx hb hts (fun w h => tcons w (xin8 w h)) hown hK hP 0 rfl rfl 5 (by decide) (hts _ (tcons _ m141)) (fun _ h9 => h9) rfl dX8_sheet_76 ?_
                  refine lv_iload_n hx hb dX8_sheet_79 rfl (lv_at hl 1 rfl) ?_
                  refine lv_iload_n hx hb dX8_sheet_80 rfl (lv_at hl 2 rfl) ?_
                  refine lv_if_ne (tgt := 88) hx hb dX8_sheet_81 (by decide) (fun c81 => ?_) (fun c81 => ?_)
                  · have hF := itN c81 hF
                    refine lv_iload_n hx hb dX8_sheet_88 rfl (lv_at hl 3 rfl) ?_
                    obtain ⟨g89, hF⟩ := gdS hF
                    refine va_iast hx hb hK hP hD hS 3 0 rfl rfl g89 dX8_sheet_89 (fun H locs hP hD hS => ?_)
                    have hP : va_P G.1 vwCl [(t, .inr (8, [.ref row, .ref kpt, .int images, .ref errs, .ref bitsOf, .ref sizeOf, .ref cels, .ref broken, .ref isFit, .ref breaks, .int mfit, .int known, .ref act, .ref wth, .ref facts, .ref pile, .int laid, .int hre, .int opnd, .int bad, .int usg, .ref trc, .int trcd, .int isP])), (errs, .inl (xI G, 7, .inl errs_f)), (bitsOf, .inl (xI G, 4, .inl (upd bitsOf_f si.toNatClampNeg wi))), (sizeOf, .inl (xI G, 4, .inl (upd sizeOf_f si.toNatClampNeg k))), (cels, .inl (xI G, 96, .inl cels_f))] H := hP
                    have hD : va_D A [(t, .inr (8, [.ref row, .ref kpt, .int images, .ref errs, .ref bitsOf, .ref sizeOf, .ref cels, .ref broken, .ref isFit, .ref breaks, .int mfit, .int known, .ref act, .ref wth, .ref facts, .ref pile, .int laid, .int hre, .int opnd, .int bad, .int usg, .ref trc, .int trcd, .int isP])), (errs, .inl (xI G, 7, .inl errs_f)), (bitsOf, .inl (xI G, 4, .inl (upd bitsOf_f si.toNatClampNeg wi))), (sizeOf, .inl (xI G, 4, .inl (upd sizeOf_f si.toNatClampNeg k))), (cels, .inl (xI G, 96, .inl cels_f))] := hD
                    refine lv_iconst (v := 0) hx hb dX8_sheet_90 (by decide) ?_
                    refine lv_istore (lv' := [(4, .int (0 : Int32)), (0, .ref t), (1, .int si), (2, .int wi), (3, .int k)]) hx hb dX8_sheet_91 hl (by decide) rfl (fun ls hl => ?_)
                    refine xLoop2 (body := (B_X8_sheet_93 errs_f bitsOf_f sizeOf_f si wi k)) (fun (v93_0 : Int32) (v93_1 : Nat → Int32) H locs ls => va_P G.1 vwCl [(t, .inr (8, [.ref row, .ref kpt, .int images, .ref errs, .ref bitsOf, .ref sizeOf, .ref cels, .ref broken, .ref isFit, .ref breaks, .int mfit, .int known, .ref act, .ref wth, .ref facts, .ref pile, .int laid, .int hre, .int opnd, .int bad, .int usg, .ref trc, .int trcd, .int isP])), (errs, .inl (xI G, 7, .inl errs_f)), (bitsOf, .inl (xI G, 4, .inl (upd bitsOf_f si.toNatClampNeg wi))), (sizeOf, .inl (xI G, 4, .inl (upd sizeOf_f si.toNatClampNeg k))), (cels, .inl (xI G, 96, .inl v93_1))] H ∧ va_D A [(t, .inr (8, [.ref row, .ref kpt, .int images, .ref errs, .ref bitsOf, .ref sizeOf, .ref cels, .ref broken, .ref isFit, .ref breaks, .int mfit, .int known, .ref act, .ref wth, .ref facts, .ref pile, .int laid, .int hre, .int opnd, .int bad, .int usg, .ref trc, .int trcd, .int isP])), (errs, .inl (xI G, 7, .inl errs_f)), (bitsOf, .inl (xI G, 4, .inl (upd bitsOf_f si.toNatClampNeg wi))), (sizeOf, .inl (xI G, 4, .inl (upd sizeOf_f si.toNatClampNeg k))), (cels, .inl (xI G, 96, .inl v93_1))] ∧ va_S A s.heap H locs ∧ lv_has ls 5 [(0, .ref t), (1, .int si), (2, .int wi), (3, .int k), (4, .int v93_0)]) (fun N93 v93_0 v93_1 ih93 H locs ls hI hF => ?_) fuelC (0 : Int32) cels_f H locs ls ⟨hP, hD, hS, lv_sub hl [1, 2, 3, 4, 0] rfl⟩ hF
                    obtain ⟨hP, hD, hS, hl⟩ := hI
                    unfold B_X8_sheet_93 at hF
                    refine lv_iload hx hb dX8_sheet_93 (lv_at hl 4 rfl) ?_
                    refine lv_bipush (v := 24) hx hb dX8_sheet_95 (by decide) ?_
                    refine lv_icmp_ge (tgt := 119) hx hb dX8_sheet_97 (by decide) (fun c97 => ?_) (fun c97 => ?_)
                    · have hF := itP c97 hF
                      refine lv_iconst (v := 1) hx hb dX8_sheet_119 (by decide) ?_
                      obtain rfl := Option.some.inj hF
                      rw [← hQ]
                      exact W.iret (v := (1 : Int32)) hx hb hr (fun t ht hW => ⟨⟨_, (), rfl, ⟨rfl, rfl⟩, xLf hP ht⟩, hS.F ht⟩) hS.2.2 dX8_sheet_120
                    · have hF := itN c97 hF
                      refine lv_aload_n hx hb dX8_sheet_100 rfl (lv_at hl 0 rfl) ?_
                      refine va_get (ci := 8) (v := .ref cels) (C := RX8) (T := TX8) (N := 24) hx hb hts (fun w h => tcons w (xin8 w h)) hown hK hP 0 rfl rfl 6 (by decide) (hts _ (tcons _ m142)) (fun _ h9 => h9) rfl dX8_sheet_101 ?_
                      refine lv_bipush (v := 24) hx hb dX8_sheet_104 (by decide) ?_
                      refine lv_iload_n hx hb dX8_sheet_106 rfl (lv_at hl 1 rfl) ?_
                      refine lv_imul hx hb dX8_sheet_107 ?_
                      refine lv_iload hx hb dX8_sheet_108 (lv_at hl 4 rfl) ?_
                      refine lv_iadd hx hb dX8_sheet_110 ?_
                      refine lv_iconst (v := 0) hx hb dX8_sheet_111 (by decide) ?_
                      obtain ⟨g112, hF⟩ := gdS hF
                      refine va_iast hx hb hK hP hD hS 4 0 rfl rfl g112 dX8_sheet_112 (fun H locs hP hD hS => ?_)
                      have hP : va_P G.1 vwCl [(t, .inr (8, [.ref row, .ref kpt, .int images, .ref errs, .ref bitsOf, .ref sizeOf, .ref cels, .ref broken, .ref isFit, .ref breaks, .int mfit, .int known, .ref act, .ref wth, .ref facts, .ref pile, .int laid, .int hre, .int opnd, .int bad, .int usg, .ref trc, .int trcd, .int isP])), (errs, .inl (xI G, 7, .inl errs_f)), (bitsOf, .inl (xI G, 4, .inl (upd bitsOf_f si.toNatClampNeg wi))), (sizeOf, .inl (xI G, 4, .inl (upd sizeOf_f si.toNatClampNeg k))), (cels, .inl (xI G, 96, .inl (upd v93_1 (((24 : Int32) * si) + v93_0).toNatClampNeg (0 : Int32))))] H := hP
                      have hD : va_D A [(t, .inr (8, [.ref row, .ref kpt, .int images, .ref errs, .ref bitsOf, .ref sizeOf, .ref cels, .ref broken, .ref isFit, .ref breaks, .int mfit, .int known, .ref act, .ref wth, .ref facts, .ref pile, .int laid, .int hre, .int opnd, .int bad, .int usg, .ref trc, .int trcd, .int isP])), (errs, .inl (xI G, 7, .inl errs_f)), (bitsOf, .inl (xI G, 4, .inl (upd bitsOf_f si.toNatClampNeg wi))), (sizeOf, .inl (xI G, 4, .inl (upd sizeOf_f si.toNatClampNeg k))), (cels, .inl (xI G, 96, .inl (upd v93_1 (((24 : Int32) * si) + v93_0).toNatClampNeg (0 : Int32))))] := hD
                      refine lv_iinc (v := (v93_0 + (1 : Int32))) (lv' := [(4, .int (v93_0 + (1 : Int32))), (0, .ref t), (1, .int si), (2, .int wi), (3, .int k)]) hx hb dX8_sheet_113 hl (k := 4) rfl (xInc_1 _) (by decide) rfl (fun ls hl => ?_)
                      refine lv_goto (tgt := 93) hx hb dX8_sheet_116 (by decide) ?_
                      exact ih93 (v93_0 + (1 : Int32)) (upd v93_1 (((24 : Int32) * si) + v93_0).toNatClampNeg (0 : Int32)) H locs ls ⟨hP, hD, hS, lv_sub hl [1, 2, 3, 4, 0] rfl⟩ hF
                  · have hF := itP c81 hF
                    refine lv_iconst (v := 0) hx hb dX8_sheet_84 (by decide) ?_
                    refine lv_goto (tgt := 89) hx hb dX8_sheet_85 (by decide) ?_
                    obtain ⟨g89, hF⟩ := gdS hF
                    refine va_iast hx hb hK hP hD hS 3 0 rfl rfl g89 dX8_sheet_89 (fun H locs hP hD hS => ?_)
                    have hP : va_P G.1 vwCl [(t, .inr (8, [.ref row, .ref kpt, .int images, .ref errs, .ref bitsOf, .ref sizeOf, .ref cels, .ref broken, .ref isFit, .ref breaks, .int mfit, .int known, .ref act, .ref wth, .ref facts, .ref pile, .int laid, .int hre, .int opnd, .int bad, .int usg, .ref trc, .int trcd, .int isP])), (errs, .inl (xI G, 7, .inl errs_f)), (bitsOf, .inl (xI G, 4, .inl (upd bitsOf_f si.toNatClampNeg wi))), (sizeOf, .inl (xI G, 4, .inl (upd sizeOf_f si.toNatClampNeg (0 : Int32)))), (cels, .inl (xI G, 96, .inl cels_f))] H := hP
                    have hD : va_D A [(t, .inr (8, [.ref row, .ref kpt, .int images, .ref errs, .ref bitsOf, .ref sizeOf, .ref cels, .ref broken, .ref isFit, .ref breaks, .int mfit, .int known, .ref act, .ref wth, .ref facts, .ref pile, .int laid, .int hre, .int opnd, .int bad, .int usg, .ref trc, .int trcd, .int isP])), (errs, .inl (xI G, 7, .inl errs_f)), (bitsOf, .inl (xI G, 4, .inl (upd bitsOf_f si.toNatClampNeg wi))), (sizeOf, .inl (xI G, 4, .inl (upd sizeOf_f si.toNatClampNeg (0 : Int32)))), (cels, .inl (xI G, 96, .inl cels_f))] := hD
                    refine lv_iconst (v := 0) hx hb dX8_sheet_90 (by decide) ?_
                    refine lv_istore (lv' := [(4, .int (0 : Int32)), (0, .ref t), (1, .int si), (2, .int wi), (3, .int k)]) hx hb dX8_sheet_91 hl (by decide) rfl (fun ls hl => ?_)
                    refine xLoop2 (body := (B_X8_sheet_93bbbbbbbbbbbbbbb errs_f bitsOf_f sizeOf_f si wi)) (fun (v93_0 : Int32) (v93_1 : Nat → Int32) H locs ls => va_P G.1 vwCl [(t, .inr (8, [.ref row, .ref kpt, .int images, .ref errs, .ref bitsOf, .ref sizeOf, .ref cels, .ref broken, .ref isFit, .ref breaks, .int mfit, .int known, .ref act, .ref wth, .ref facts, .ref pile, .int laid, .int hre, .int opnd, .int bad, .int usg, .ref trc, .int trcd, .int isP])), (errs, .inl (xI G, 7, .inl errs_f)), (bitsOf, .inl (xI G, 4, .inl (upd bitsOf_f si.toNatClampNeg wi))), (sizeOf, .inl (xI G, 4, .inl (upd sizeOf_f si.toNatClampNeg (0 : Int32)))), (cels, .inl (xI G, 96, .inl v93_1))] H ∧ va_D A [(t, .inr (8, [.ref row, .ref kpt, .int images, .ref errs, .ref bitsOf, .ref sizeOf, .ref cels, .ref broken, .ref isFit, .ref breaks, .int mfit, .int known, .ref act, .ref wth, .ref facts, .ref pile, .int laid, .int hre, .int opnd, .int bad, .int usg, .ref trc, .int trcd, .int isP])), (errs, .inl (xI G, 7, .inl errs_f)), (bitsOf, .inl (xI G, 4, .inl (upd bitsOf_f si.toNatClampNeg wi))), (sizeOf, .inl (xI G, 4, .inl (upd sizeOf_f si.toNatClampNeg (0 : Int32)))), (cels, .inl (xI G, 96, .inl v93_1))] ∧ va_S A s.heap H locs ∧ lv_has ls 5 [(0, .ref t), (1, .int si), (2, .int wi), (3, .int k), (4, .int v93_0)]) (fun N93 v93_0 v93_1 ih93 H locs ls hI hF => ?_) fuelC (0 : Int32) cels_f H locs ls ⟨hP, hD, hS, lv_sub hl [1, 2, 3, 4, 0] rfl⟩ hF
                    obtain ⟨hP, hD, hS, hl⟩ := hI
                    unfold B_X8_sheet_93bbbbbbbbbbbbbbb at hF
                    refine lv_iload hx hb dX8_sheet_93 (lv_at hl 4 rfl) ?_
                    refine lv_bipush (v := 24) hx hb dX8_sheet_95 (by decide) ?_
                    refine lv_icmp_ge (tgt := 119) hx hb dX8_sheet_97 (by decide) (fun c97 => ?_) (fun c97 => ?_)
                    · have hF := itP c97 hF
                      refine lv_iconst (v := 1) hx hb dX8_sheet_119 (by decide) ?_
                      obtain rfl := Option.some.inj hF
                      rw [← hQ]
                      exact W.iret (v := (1 : Int32)) hx hb hr (fun t ht hW => ⟨⟨_, (), rfl, ⟨rfl, rfl⟩, xLf hP ht⟩, hS.F ht⟩) hS.2.2 dX8_sheet_120
                    · have hF := itN c97 hF
                      refine lv_aload_n hx hb dX8_sheet_100 rfl (lv_at hl 0 rfl) ?_
                      refine va_get (ci := 8) (v := .ref cels) (C := RX8) (T := TX8) (N := 24) hx hb hts (fun w h => tcons w (xin8 w h)) hown hK hP 0 rfl rfl 6 (by decide) (hts _ (tcons _ m142)) (fun _ h9 => h9) rfl dX8_sheet_101 ?_
                      refine lv_bipush (v := 24) hx hb dX8_sheet_104 (by decide) ?_
                      refine lv_iload_n hx hb dX8_sheet_106 rfl (lv_at hl 1 rfl) ?_
                      refine lv_imul hx hb dX8_sheet_107 ?_
                      refine lv_iload hx hb dX8_sheet_108 (lv_at hl 4 rfl) ?_
                      refine lv_iadd hx hb dX8_sheet_110 ?_
                      refine lv_iconst (v := 0) hx hb dX8_sheet_111 (by decide) ?_
                      obtain ⟨g112, hF⟩ := gdS hF
                      refine va_iast hx hb hK hP hD hS 4 0 rfl rfl g112 dX8_sheet_112 (fun H locs hP hD hS => ?_)
                      have hP : va_P G.1 vwCl [(t, .inr (8, [.ref row, .ref kpt, .int images, .ref errs, .ref bitsOf, .ref sizeOf, .ref cels, .ref broken, .ref isFit, .ref breaks, .int mfit, .int known, .ref act, .ref wth, .ref facts, .ref pile, .int laid, .int hre, .int opnd, .int bad, .int usg, .ref trc, .int trcd, .int isP])), (errs, .inl (xI G, 7, .inl errs_f)), (bitsOf, .inl (xI G, 4, .inl (upd bitsOf_f si.toNatClampNeg wi))), (sizeOf, .inl (xI G, 4, .inl (upd sizeOf_f si.toNatClampNeg (0 : Int32)))), (cels, .inl (xI G, 96, .inl (upd v93_1 (((24 : Int32) * si) + v93_0).toNatClampNeg (0 : Int32))))] H := hP
                      have hD : va_D A [(t, .inr (8, [.ref row, .ref kpt, .int images, .ref errs, .ref bitsOf, .ref sizeOf, .ref cels, .ref broken, .ref isFit, .ref breaks, .int mfit, .int known, .ref act, .ref wth, .ref facts, .ref pile, .int laid, .int hre, .int opnd, .int bad, .int usg, .ref trc, .int trcd, .int isP])), (errs, .inl (xI G, 7, .inl errs_f)), (bitsOf, .inl (xI G, 4, .inl (upd bitsOf_f si.toNatClampNeg wi))), (sizeOf, .inl (xI G, 4, .inl (upd sizeOf_f si.toNatClampNeg (0 : Int32)))), (cels, .inl (xI G, 96, .inl (upd v93_1 (((24 : Int32) * si) + v93_0).toNatClampNeg (0 : Int32))))] := hD
                      refine lv_iinc (v := (v93_0 + (1 : Int32))) (lv' := [(4, .int (v93_0 + (1 : Int32))), (0, .ref t), (1, .int si), (2, .int wi), (3, .int k)]) hx hb dX8_sheet_113 hl (k := 4) rfl (xInc_1 _) (by decide) rfl (fun ls hl => ?_)
                      refine lv_goto (tgt := 93) hx hb dX8_sheet_116 (by decide) ?_
                      exact ih93 (v93_0 + (1 : Int32)) (upd v93_1 (((24 : Int32) * si) + v93_0).toNatClampNeg (0 : Int32)) H locs ls ⟨hP, hD, hS, lv_sub hl [1, 2, 3, 4, 0] rfl⟩ hF
                · have hF := itN c52 hF
                  refine lv_iload_n hx hb dX8_sheet_55 rfl (lv_at hl 3 rfl) ?_
                  refine lv_bipush (v := 24) hx hb dX8_sheet_56 (by decide) ?_
                  refine lv_icmp_le (tgt := 68) hx hb dX8_sheet_58 (by decide) (fun c58 => ?_) (fun c58 => ?_)
                  · have hF := itP c58 hF
                    refine lv_aload_n hx hb dX8_sheet_68 rfl (lv_at hl 0 rfl) ?_
                    refine va_get (ci := 8) (v := .ref bitsOf) (C := RX8) (T := TX8) (N := 24) hx hb hts (fun w h => tcons w (xin8 w h)) hown hK hP 0 rfl rfl 4 (by decide) (hts _ (tcons _ m140)) (fun _ h9 => h9) rfl dX8_sheet_69 ?_
                    refine lv_iload_n hx hb dX8_sheet_72 rfl (lv_at hl 1 rfl) ?_
                    refine lv_iload_n hx hb dX8_sheet_73 rfl (lv_at hl 2 rfl) ?_
                    obtain ⟨g74, hF⟩ := gdS hF
                    refine va_iast hx hb hK hP hD hS 2 0 rfl rfl g74 dX8_sheet_74 (fun H locs hP hD hS => ?_)
                    have hP : va_P G.1 vwCl [(t, .inr (8, [.ref row, .ref kpt, .int images, .ref errs, .ref bitsOf, .ref sizeOf, .ref cels, .ref broken, .ref isFit, .ref breaks, .int mfit, .int known, .ref act, .ref wth, .ref facts, .ref pile, .int laid, .int hre, .int opnd, .int bad, .int usg, .ref trc, .int trcd, .int isP])), (errs, .inl (xI G, 7, .inl errs_f)), (bitsOf, .inl (xI G, 4, .inl (upd bitsOf_f si.toNatClampNeg wi))), (sizeOf, .inl (xI G, 4, .inl sizeOf_f)), (cels, .inl (xI G, 96, .inl cels_f))] H := hP
                    have hD : va_D A [(t, .inr (8, [.ref row, .ref kpt, .int images, .ref errs, .ref bitsOf, .ref sizeOf, .ref cels, .ref broken, .ref isFit, .ref breaks, .int mfit, .int known, .ref act, .ref wth, .ref facts, .ref pile, .int laid, .int hre, .int opnd, .int bad, .int usg, .ref trc, .int trcd, .int isP])), (errs, .inl (xI G, 7, .inl errs_f)), (bitsOf, .inl (xI G, 4, .inl (upd bitsOf_f si.toNatClampNeg wi))), (sizeOf, .inl (xI G, 4, .inl sizeOf_f)), (cels, .inl (xI G, 96, .inl cels_f))] := hD
                    refine lv_aload_n hx hb dX8_sheet_75 rfl (lv_at hl 0 rfl) ?_
                    refine va_get (ci := 8) (v := .ref sizeOf) (C := RX8) (T := TX8) (N := 24) hx hb hts (fun w h => tcons w (xin8 w h)) hown hK hP 0 rfl rfl 5 (by decide) (hts _ (tcons _ m141)) (fun _ h9 => h9) rfl dX8_sheet_76 ?_
                    refine lv_iload_n hx hb dX8_sheet_79 rfl (lv_at hl 1 rfl) ?_
                    refine lv_iload_n hx hb dX8_sheet_80 rfl (lv_at hl 2 rfl) ?_
                    refine lv_if_ne (tgt := 88) hx hb dX8_sheet_81 (by decide) (fun c81 => ?_) (fun c81 => ?_)
                    · have hF := itN c81 hF
                      refine lv_iload_n hx hb dX8_sheet_88 rfl (lv_at hl 3 rfl) ?_
                      obtain ⟨g89, hF⟩ := gdS hF
                      refine va_iast hx hb hK hP hD hS 3 0 rfl rfl g89 dX8_sheet_89 (fun H locs hP hD hS => ?_)
                      have hP : va_P G.1 vwCl [(t, .inr (8, [.ref row, .ref kpt, .int images, .ref errs, .ref bitsOf, .ref sizeOf, .ref cels, .ref broken, .ref isFit, .ref breaks, .int mfit, .int known, .ref act, .ref wth, .ref facts, .ref pile, .int laid, .int hre, .int opnd, .int bad, .int usg, .ref trc, .int trcd, .int isP])), (errs, .inl (xI G, 7, .inl errs_f)), (bitsOf, .inl (xI G, 4, .inl (upd bitsOf_f si.toNatClampNeg wi))), (sizeOf, .inl (xI G, 4, .inl (upd sizeOf_f si.toNatClampNeg k))), (cels, .inl (xI G, 96, .inl cels_f))] H := hP
                      have hD : va_D A [(t, .inr (8, [.ref row, .ref kpt, .int images, .ref errs, .ref bitsOf, .ref sizeOf, .ref cels, .ref broken, .ref isFit, .ref breaks, .int mfit, .int known, .ref act, .ref wth, .ref facts, .ref pile, .int laid, .int hre, .int opnd, .int bad, .int usg, .ref trc, .int trcd, .int isP])), (errs, .inl (xI G, 7, .inl errs_f)), (bitsOf, .inl (xI G, 4, .inl (upd bitsOf_f si.toNatClampNeg wi))), (sizeOf, .inl (xI G, 4, .inl (upd sizeOf_f si.toNatClampNeg k))), (cels, .inl (xI G, 96, .inl cels_f))] := hD
                      refine lv_iconst (v := 0) hx hb dX8_sheet_90 (by decide) ?_
                      refine lv_istore (lv' := [(4, .int (0 : Int32)), (0, .ref t), (1, .int si), (2, .int wi), (3, .int k)]) hx hb dX8_sheet_91 hl (by decide) rfl (fun ls hl => ?_)
                      refine xLoop2 (body := (B_X8_sheet_93 errs_f bitsOf_f sizeOf_f si wi k)) (fun (v93_0 : Int32) (v93_1 : Nat → Int32) H locs ls => va_P G.1 vwCl [(t, .inr (8, [.ref row, .ref kpt, .int images, .ref errs, .ref bitsOf, .ref sizeOf, .ref cels, .ref broken, .ref isFit, .ref breaks, .int mfit, .int known, .ref act, .ref wth, .ref facts, .ref pile, .int laid, .int hre, .int opnd, .int bad, .int usg, .ref trc, .int trcd, .int isP])), (errs, .inl (xI G, 7, .inl errs_f)), (bitsOf, .inl (xI G, 4, .inl (upd bitsOf_f si.toNatClampNeg wi))), (sizeOf, .inl (xI G, 4, .inl (upd sizeOf_f si.toNatClampNeg k))), (cels, .inl (xI G, 96, .inl v93_1))] H ∧ va_D A [(t, .inr (8, [.ref row, .ref kpt, .int images, .ref errs, .ref bitsOf, .ref sizeOf, .ref cels, .ref broken, .ref isFit, .ref breaks, .int mfit, .int known, .ref act, .ref wth, .ref facts, .ref pile, .int laid, .int hre, .int opnd, .int bad, .int usg, .ref trc, .int trcd, .int isP])), (errs, .inl (xI G, 7, .inl errs_f)), (bitsOf, .inl (xI G, 4, .inl (upd bitsOf_f si.toNatClampNeg wi))), (sizeOf, .inl (xI G, 4, .inl (upd sizeOf_f si.toNatClampNeg k))), (cels, .inl (xI G, 96, .inl v93_1))] ∧ va_S A s.heap H locs ∧ lv_has ls 5 [(0, .ref t), (1, .int si), (2, .int wi), (3, .int k), (4, .int v93_0)]) (fun N93 v93_0 v93_1 ih93 H locs ls hI hF => ?_) fuelC (0 : Int32) cels_f H locs ls ⟨hP, hD, hS, lv_sub hl [1, 2, 3, 4, 0] rfl⟩ hF
                      obtain ⟨hP, hD, hS, hl⟩ := hI
                      unfold B_X8_sheet_93 at hF
                      refine lv_iload hx hb dX8_sheet_93 (lv_at hl 4 rfl) ?_
                      refine lv_bipush (v := 24) hx hb dX8_sheet_95 (by decide) ?_
                      refine lv_icmp_ge (tgt := 119) hx hb dX8_sheet_97 (by decide) (fun c97 => ?_) (fun c97 => ?_)
                      · have hF := itP c97 hF
                        refine lv_iconst (v := 1) hx hb dX8_sheet_119 (by decide) ?_
                        obtain rfl := Option.some.inj hF
                        rw [← hQ]
                        exact W.iret (v := (1 : Int32)) hx hb hr (fun t ht hW => ⟨⟨_, (), rfl, ⟨rfl, rfl⟩, xLf hP ht⟩, hS.F ht⟩) hS.2.2 dX8_sheet_120
                      · have hF := itN c97 hF
                        refine lv_aload_n hx hb dX8_sheet_100 rfl (lv_at hl 0 rfl) ?_
                        refine va_get (ci := 8) (v := .ref cels) (C := RX8) (T := TX8) (N := 24) hx hb hts (fun w h => tcons w (xin8 w h)) hown hK hP 0 rfl rfl 6 (by decide) (hts _ (tcons _ m142)) (fun _ h9 => h9) rfl dX8_sheet_101 ?_
                        refine lv_bipush (v := 24) hx hb dX8_sheet_104 (by decide) ?_
                        refine lv_iload_n hx hb dX8_sheet_106 rfl (lv_at hl 1 rfl) ?_
                        refine lv_imul hx hb dX8_sheet_107 ?_
                        refine lv_iload hx hb dX8_sheet_108 (lv_at hl 4 rfl) ?_
                        refine lv_iadd hx hb dX8_sheet_110 ?_
                        refine lv_iconst (v := 0) hx hb dX8_sheet_111 (by decide) ?_
                        obtain ⟨g112, hF⟩ := gdS hF
                        refine va_iast hx hb hK hP hD hS 4 0 rfl rfl g112 dX8_sheet_112 (fun H locs hP hD hS => ?_)
                        have hP : va_P G.1 vwCl [(t, .inr (8, [.ref row, .ref kpt, .int images, .ref errs, .ref bitsOf, .ref sizeOf, .ref cels, .ref broken, .ref isFit, .ref breaks, .int mfit, .int known, .ref act, .ref wth, .ref facts, .ref pile, .int laid, .int hre, .int opnd, .int bad, .int usg, .ref trc, .int trcd, .int isP])), (errs, .inl (xI G, 7, .inl errs_f)), (bitsOf, .inl (xI G, 4, .inl (upd bitsOf_f si.toNatClampNeg wi))), (sizeOf, .inl (xI G, 4, .inl (upd sizeOf_f si.toNatClampNeg k))), (cels, .inl (xI G, 96, .inl (upd v93_1 (((24 : Int32) * si) + v93_0).toNatClampNeg (0 : Int32))))] H := hP
                        have hD : va_D A [(t, .inr (8, [.ref row, .ref kpt, .int images, .ref errs, .ref bitsOf, .ref sizeOf, .ref cels, .ref broken, .ref isFit, .ref breaks, .int mfit, .int known, .ref act, .ref wth, .ref facts, .ref pile, .int laid, .int hre, .int opnd, .int bad, .int usg, .ref trc, .int trcd, .int isP])), (errs, .inl (xI G, 7, .inl errs_f)), (bitsOf, .inl (xI G, 4, .inl (upd bitsOf_f si.toNatClampNeg wi))), (sizeOf, .inl (xI G, 4, .inl (upd sizeOf_f si.toNatClampNeg k))), (cels, .inl (xI G, 96, .inl (upd v93_1 (((24 : Int32) * si) + v93_0).toNatClampNeg (0 : Int32))))] := hD
                        refine lv_iinc (v := (v93_0 + (1 : Int32))) (lv' := [(4, .int (v93_0 + (1 : Int32))), (0, .ref t), (1, .int si), (2, .int wi), (3, .int k)]) hx hb dX8_sheet_113 hl (k := 4) rfl (xInc_1 _) (by decide) rfl (fun ls hl => ?_)
                        refine lv_goto (tgt := 93) hx hb dX8_sheet_116 (by decide) ?_
                        exact ih93 (v93_0 + (1 : Int32)) (upd v93_1 (((24 : Int32) * si) + v93_0).toNatClampNeg (0 : Int32)) H locs ls ⟨hP, hD, hS, lv_sub hl [1, 2, 3, 4, 0] rfl⟩ hF
                    · have hF := itP c81 hF
                      refine lv_iconst (v := 0) hx hb dX8_sheet_84 (by decide) ?_
                      refine lv_goto (tgt := 89) hx hb dX8_sheet_85 (by decide) ?_
                      obtain ⟨g89, hF⟩ := gdS hF
                      refine va_iast hx hb hK hP hD hS 3 0 rfl rfl g89 dX8_sheet_89 (fun H locs hP hD hS => ?_)
                      have hP : va_P G.1 vwCl [(t, .inr (8, [.ref row, .ref kpt, .int images, .ref errs, .ref bitsOf, .ref sizeOf, .ref cels, .ref broken, .ref isFit, .ref breaks, .int mfit, .int known, .ref act, .ref wth, .ref facts, .ref pile, .int laid, .int hre, .int opnd, .int bad, .int usg, .ref trc, .int trcd, .int isP])), (errs, .inl (xI G, 7, .inl errs_f)), (bitsOf, .inl (xI G, 4, .inl (upd bitsOf_f si.toNatClampNeg wi))), (sizeOf, .inl (xI G, 4, .inl (upd sizeOf_f si.toNatClampNeg (0 : Int32)))), (cels, .inl (xI G, 96, .inl cels_f))] H := hP
                      have hD : va_D A [(t, .inr (8, [.ref row, .ref kpt, .int images, .ref errs, .ref bitsOf, .ref sizeOf, .ref cels, .ref broken, .ref isFit, .ref breaks, .int mfit, .int known, .ref act, .ref wth, .ref facts, .ref pile, .int laid, .int hre, .int opnd, .int bad, .int usg, .ref trc, .int trcd, .int isP])), (errs, .inl (xI G, 7, .inl errs_f)), (bitsOf, .inl (xI G, 4, .inl (upd bitsOf_f si.toNatClampNeg wi))), (sizeOf, .inl (xI G, 4, .inl (upd sizeOf_f si.toNatClampNeg (0 : Int32)))), (cels, .inl (xI G, 96, .inl cels_f))] := hD
                      refine lv_iconst (v := 0) hx hb dX8_sheet_90 (by decide) ?_
                      refine lv_istore (lv' := [(4, .int (0 : Int32)), (0, .ref t), (1, .int si), (2, .int wi), (3, .int k)]) hx hb dX8_sheet_91 hl (by decide) rfl (fun ls hl => ?_)
                      refine xLoop2 (body := (B_X8_sheet_93bbbbbbbbbbbbbbbb errs_f bitsOf_f sizeOf_f si wi)) (fun (v93_0 : Int32) (v93_1 : Nat → Int32) H locs ls => va_P G.1 vwCl [(t, .inr (8, [.ref row, .ref kpt, .int images, .ref errs, .ref bitsOf, .ref sizeOf, .ref cels, .ref broken, .ref isFit, .ref breaks, .int mfit, .int known, .ref act, .ref wth, .ref facts, .ref pile, .int laid, .int hre, .int opnd, .int bad, .int usg, .ref trc, .int trcd, .int isP])), (errs, .inl (xI G, 7, .inl errs_f)), (bitsOf, .inl (xI G, 4, .inl (upd bitsOf_f si.toNatClampNeg wi))), (sizeOf, .inl (xI G, 4, .inl (upd sizeOf_f si.toNatClampNeg (0 : Int32)))), (cels, .inl (xI G, 96, .inl v93_1))] H ∧ va_D A [(t, .inr (8, [.ref row, .ref kpt, .int images, .ref errs, .ref bitsOf, .ref sizeOf, .ref cels, .ref broken, .ref isFit, .ref breaks, .int mfit, .int known, .ref act, .ref wth, .ref facts, .ref pile, .int laid, .int hre, .int opnd, .int bad, .int usg, .ref trc, .int trcd, .int isP])), (errs, .inl (xI G, 7, .inl errs_f)), (bitsOf, .inl (xI G, 4, .inl (upd bitsOf_f si.toNatClampNeg wi))), (sizeOf, .inl (xI G, 4, .inl (upd sizeOf_f si.toNatClampNeg (0 : Int32)))), (cels, .inl (xI G, 96, .inl v93_1))] ∧ va_S A s.heap H locs ∧ lv_has ls 5 [(0, .ref t), (1, .int si), (2, .int wi), (3, .int k), (4, .int v93_0)]) (fun N93 v93_0 v93_1 ih93 H locs ls hI hF => ?_) fuelC (0 : Int32) cels_f H locs ls ⟨hP, hD, hS, lv_sub hl [1, 2, 3, 4, 0] rfl⟩ hF
                      obtain ⟨hP, hD, hS, hl⟩ := hI
                      unfold B_X8_sheet_93bbbbbbbbbbbbbbbb at hF
                      refine lv_iload hx hb dX8_sheet_93 (lv_at hl 4 rfl) ?_
                      refine lv_bipush (v := 24) hx hb dX8_sheet_95 (by decide) ?_
                      refine lv_icmp_ge (tgt := 119) hx hb dX8_sheet_97 (by decide) (fun c97 => ?_) (fun c97 => ?_)
                      · have hF := itP c97 hF
                        refine lv_iconst (v := 1) hx hb dX8_sheet_119 (by decide) ?_
                        obtain rfl := Option.some.inj hF
                        rw [← hQ]
                        exact W.iret (v := (1 : Int32)) hx hb hr (fun t ht hW => ⟨⟨_, (), rfl, ⟨rfl, rfl⟩, xLf hP ht⟩, hS.F ht⟩) hS.2.2 dX8_sheet_120
                      · have hF := itN c97 hF
                        refine lv_aload_n hx hb dX8_sheet_100 rfl (lv_at hl 0 rfl) ?_
                        refine va_get (ci := 8) (v := .ref cels) (C := RX8) (T := TX8) (N := 24) hx hb hts (fun w h => tcons w (xin8 w h)) hown hK hP 0 rfl rfl 6 (by decide) (hts _ (tcons _ m142)) (fun _ h9 => h9) rfl dX8_sheet_101 ?_
                        refine lv_bipush (v := 24) hx hb dX8_sheet_104 (by decide) ?_
                        refine lv_iload_n hx hb dX8_sheet_106 rfl (lv_at hl 1 rfl) ?_
                        refine lv_imul hx hb dX8_sheet_107 ?_
                        refine lv_iload hx hb dX8_sheet_108 (lv_at hl 4 rfl) ?_
                        refine lv_iadd hx hb dX8_sheet_110 ?_
                        refine lv_iconst (v := 0) hx hb dX8_sheet_111 (by decide) ?_
                        obtain ⟨g112, hF⟩ := gdS hF
                        refine va_iast hx hb hK hP hD hS 4 0 rfl rfl g112 dX8_sheet_112 (fun H locs hP hD hS => ?_)
                        have hP : va_P G.1 vwCl [(t, .inr (8, [.ref row, .ref kpt, .int images, .ref errs, .ref bitsOf, .ref sizeOf, .ref cels, .ref broken, .ref isFit, .ref breaks, .int mfit, .int known, .ref act, .ref wth, .ref facts, .ref pile, .int laid, .int hre, .int opnd, .int bad, .int usg, .ref trc, .int trcd, .int isP])), (errs, .inl (xI G, 7, .inl errs_f)), (bitsOf, .inl (xI G, 4, .inl (upd bitsOf_f si.toNatClampNeg wi))), (sizeOf, .inl (xI G, 4, .inl (upd sizeOf_f si.toNatClampNeg (0 : Int32)))), (cels, .inl (xI G, 96, .inl (upd v93_1 (((24 : Int32) * si) + v93_0).toNatClampNeg (0 : Int32))))] H := hP
                        have hD : va_D A [(t, .inr (8, [.ref row, .ref kpt, .int images, .ref errs, .ref bitsOf, .ref sizeOf, .ref cels, .ref broken, .ref isFit, .ref breaks, .int mfit, .int known, .ref act, .ref wth, .ref facts, .ref pile, .int laid, .int hre, .int opnd, .int bad, .int usg, .ref trc, .int trcd, .int isP])), (errs, .inl (xI G, 7, .inl errs_f)), (bitsOf, .inl (xI G, 4, .inl (upd bitsOf_f si.toNatClampNeg wi))), (sizeOf, .inl (xI G, 4, .inl (upd sizeOf_f si.toNatClampNeg (0 : Int32)))), (cels, .inl (xI G, 96, .inl (upd v93_1 (((24 : Int32) * si) + v93_0).toNatClampNeg (0 : Int32))))] := hD
                        refine lv_iinc (v := (v93_0 + (1 : Int32))) (lv' := [(4, .int (v93_0 + (1 : Int32))), (0, .ref t), (1, .int si), (2, .int wi), (3, .int k)]) hx hb dX8_sheet_113 hl (k := 4) rfl (xInc_1 _) (by decide) rfl (fun ls hl => ?_)
                        refine lv_goto (tgt := 93) hx hb dX8_sheet_116 (by decide) ?_
                        exact ih93 (v93_0 + (1 : Int32)) (upd v93_1 (((24 : Int32) * si) + v93_0).toNatClampNeg (0 : Int32)) H locs ls ⟨hP, hD, hS, lv_sub hl [1, 2, 3, 4, 0] rfl⟩ hF
                  · have hF := itN c58 hF
                    refine lv_aload_n hx hb dX8_sheet_61 rfl (lv_at hl 0 rfl) ?_
                    refine lv_ldc (v := -1000000001) hx hb hown (hts _ (tcons _ m185)) dX8_sheet_62 ?_
                    obtain ⟨u2, e2, hF⟩ := bdS hF
                    refine xEndI (xRunV (As := [.int (-1000000001 : Int32)]) (rest := []) hZ (c_X8_error G t row kpt errs bitsOf sizeOf cels broken isFit breaks act wth facts pile trc images mfit known laid hre opnd bad usg trcd isP errs_f (-1000000001 : Int32) u2 e2 l H.size) m193 m194 m195 m5 m196 1 ⟨rfl, hdX8_error⟩ ⟨Nat.le_of_ble_eq_true rfl, Nat.le_of_ble_eq_true rfl⟩ ⟨rfl, rfl⟩ hP hD hS 0 8 rfl rfl rfl [0, 1] rfl rfl rfl hl.1 rfl (Nat.le_of_ble_eq_true rfl) dX8_sheet_64 ⟨Nat.zero_le _, Nat.zero_le _⟩) hP hD hS hA [0, 1] rfl rfl rfl (fun H locs n2 hP hD hS => ?_)
                    have hP : va_P G.1 vwCl [(t, .inr (8, [.ref row, .ref kpt, .int images, .ref errs, .ref bitsOf, .ref sizeOf, .ref cels, .ref broken, .ref isFit, .ref breaks, .int mfit, .int known, .ref act, .ref wth, .ref facts, .ref pile, .int laid, .int hre, .int opnd, .int bad, .int usg, .ref trc, .int trcd, .int isP])), (errs, .inl (xI G, 7, .inl u2.2)), (bitsOf, .inl (xI G, 4, .inl bitsOf_f)), (sizeOf, .inl (xI G, 4, .inl sizeOf_f)), (cels, .inl (xI G, 96, .inl cels_f))] H := hP
                    have hD : va_D A [(t, .inr (8, [.ref row, .ref kpt, .int images, .ref errs, .ref bitsOf, .ref sizeOf, .ref cels, .ref broken, .ref isFit, .ref breaks, .int mfit, .int known, .ref act, .ref wth, .ref facts, .ref pile, .int laid, .int hre, .int opnd, .int bad, .int usg, .ref trc, .int trcd, .int isP])), (errs, .inl (xI G, 7, .inl u2.2)), (bitsOf, .inl (xI G, 4, .inl bitsOf_f)), (sizeOf, .inl (xI G, 4, .inl sizeOf_f)), (cels, .inl (xI G, 96, .inl cels_f))] := hD
                    obtain rfl := Option.some.inj hF
                    rw [← hQ]
                    exact W.iret (v := u2.1) hx hb hr (fun t ht hW => ⟨⟨_, (), rfl, ⟨rfl, rfl⟩, xLf hP ht⟩, hS.F ht⟩) hS.2.2 dX8_sheet_67
              · have hF := itN c41 hF
                refine lv_aload_n hx hb dX8_sheet_44 rfl (lv_at hl 0 rfl) ?_
                refine lv_ldc (v := -1000000003) hx hb hown (hts _ (tcons _ m477)) dX8_sheet_45 ?_
                obtain ⟨u2, e2, hF⟩ := bdS hF
                refine xEndI (xRunV (As := [.int (-1000000003 : Int32)]) (rest := []) hZ (c_X8_error G t row kpt errs bitsOf sizeOf cels broken isFit breaks act wth facts pile trc images mfit known laid hre opnd bad usg trcd isP errs_f (-1000000003 : Int32) u2 e2 l H.size) m193 m194 m195 m5 m196 1 ⟨rfl, hdX8_error⟩ ⟨Nat.le_of_ble_eq_true rfl, Nat.le_of_ble_eq_true rfl⟩ ⟨rfl, rfl⟩ hP hD hS 0 8 rfl rfl rfl [0, 1] rfl rfl rfl hl.1 rfl (Nat.le_of_ble_eq_true rfl) dX8_sheet_47 ⟨Nat.zero_le _, Nat.zero_le _⟩) hP hD hS hA [0, 1] rfl rfl rfl (fun H locs n2 hP hD hS => ?_)
                have hP : va_P G.1 vwCl [(t, .inr (8, [.ref row, .ref kpt, .int images, .ref errs, .ref bitsOf, .ref sizeOf, .ref cels, .ref broken, .ref isFit, .ref breaks, .int mfit, .int known, .ref act, .ref wth, .ref facts, .ref pile, .int laid, .int hre, .int opnd, .int bad, .int usg, .ref trc, .int trcd, .int isP])), (errs, .inl (xI G, 7, .inl u2.2)), (bitsOf, .inl (xI G, 4, .inl bitsOf_f)), (sizeOf, .inl (xI G, 4, .inl sizeOf_f)), (cels, .inl (xI G, 96, .inl cels_f))] H := hP
                have hD : va_D A [(t, .inr (8, [.ref row, .ref kpt, .int images, .ref errs, .ref bitsOf, .ref sizeOf, .ref cels, .ref broken, .ref isFit, .ref breaks, .int mfit, .int known, .ref act, .ref wth, .ref facts, .ref pile, .int laid, .int hre, .int opnd, .int bad, .int usg, .ref trc, .int trcd, .int isP])), (errs, .inl (xI G, 7, .inl u2.2)), (bitsOf, .inl (xI G, 4, .inl bitsOf_f)), (sizeOf, .inl (xI G, 4, .inl sizeOf_f)), (cels, .inl (xI G, 96, .inl cels_f))] := hD
                obtain rfl := Option.some.inj hF
                rw [← hQ]
                exact W.iret (v := u2.1) hx hb hr (fun t ht hW => ⟨⟨_, (), rfl, ⟨rfl, rfl⟩, xLf hP ht⟩, hS.F ht⟩) hS.2.2 dX8_sheet_50
          · have hF := itN c26 hF
            refine lv_aload_n hx hb dX8_sheet_29 rfl (lv_at hl 0 rfl) ?_
            refine lv_ldc (v := -1000000001) hx hb hown (hts _ (tcons _ m185)) dX8_sheet_30 ?_
            obtain ⟨u2, e2, hF⟩ := bdS hF
            refine xEndI (xRunV (As := [.int (-1000000001 : Int32)]) (rest := []) hZ (c_X8_error G t row kpt errs bitsOf sizeOf cels broken isFit breaks act wth facts pile trc images mfit known laid hre opnd bad usg trcd isP errs_f (-1000000001 : Int32) u2 e2 l H.size) m193 m194 m195 m5 m196 1 ⟨rfl, hdX8_error⟩ ⟨Nat.le_of_ble_eq_true rfl, Nat.le_of_ble_eq_true rfl⟩ ⟨rfl, rfl⟩ hP hD hS 0 8 rfl rfl rfl [0, 1] rfl rfl rfl hl.1 rfl (Nat.le_of_ble_eq_true rfl) dX8_sheet_32 ⟨Nat.zero_le _, Nat.zero_le _⟩) hP hD hS hA [0, 1] rfl rfl rfl (fun H locs n2 hP hD hS => ?_)
            have hP : va_P G.1 vwCl [(t, .inr (8, [.ref row, .ref kpt, .int images, .ref errs, .ref bitsOf, .ref sizeOf, .ref cels, .ref broken, .ref isFit, .ref breaks, .int mfit, .int known, .ref act, .ref wth, .ref facts, .ref pile, .int laid, .int hre, .int opnd, .int bad, .int usg, .ref trc, .int trcd, .int isP])), (errs, .inl (xI G, 7, .inl u2.2)), (bitsOf, .inl (xI G, 4, .inl bitsOf_f)), (sizeOf, .inl (xI G, 4, .inl sizeOf_f)), (cels, .inl (xI G, 96, .inl cels_f))] H := hP
            have hD : va_D A [(t, .inr (8, [.ref row, .ref kpt, .int images, .ref errs, .ref bitsOf, .ref sizeOf, .ref cels, .ref broken, .ref isFit, .ref breaks, .int mfit, .int known, .ref act, .ref wth, .ref facts, .ref pile, .int laid, .int hre, .int opnd, .int bad, .int usg, .ref trc, .int trcd, .int isP])), (errs, .inl (xI G, 7, .inl u2.2)), (bitsOf, .inl (xI G, 4, .inl bitsOf_f)), (sizeOf, .inl (xI G, 4, .inl sizeOf_f)), (cels, .inl (xI G, 96, .inl cels_f))] := hD
            obtain rfl := Option.some.inj hF
            rw [← hQ]
            exact W.iret (v := u2.1) hx hb hr (fun t ht hW => ⟨⟨_, (), rfl, ⟨rfl, rfl⟩, xLf hP ht⟩, hS.F ht⟩) hS.2.2 dX8_sheet_35
