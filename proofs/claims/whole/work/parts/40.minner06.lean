def F_X8_partsBy (trcd : Int32) (row_f : Nat → Int32) (trc_f : Nat → Int32) (br : Int32) (xx : Int32) : Option (Int32 × Int32 × Int32 × (Nat → Int32)) := bd (F_X8_of row_f br (0 : Int32)) (fun (u1 : Int32) => if u1 = (1 : Int32) then (bd (F_X8_begins trcd trc_f (21 : Int32)) (fun (u2 : (Int32 × (Nat → Int32))) => bd (F_X8_plainParts u2.1 row_f u2.2 br xx) (fun (u3 : (Int32 × Int32 × Int32 × (Nat → Int32))) => if u3.2.2.1 = 0 then (bd (F_X8_talks u3.2.1 row_f u3.2.2.2 br (1 : Int32)) (fun (u4 : (Int32 × Int32 × (Nat → Int32))) => some ((u3.1 + u4.1), u4.2.1, u3.2.2.1, u4.2.2))) else (some ((0 : Int32), u3.2.1, u3.2.2.1, u3.2.2.2))))) else (bd (F_X8_of row_f br (0 : Int32)) (fun (u2 : Int32) => if u2 = (4 : Int32) then (bd (F_X8_begins trcd trc_f (21 : Int32)) (fun (u3 : (Int32 × (Nat → Int32))) => bd (F_X8_plainParts u3.1 row_f u3.2 br xx) (fun (u4 : (Int32 × Int32 × Int32 × (Nat → Int32))) => if u4.2.2.1 = 0 then (bd (F_X8_talks u4.2.1 row_f u4.2.2.2 br (1 : Int32)) (fun (u5 : (Int32 × Int32 × (Nat → Int32))) => some ((u4.1 + u5.1), u5.2.1, u4.2.2.1, u5.2.2))) else (some ((0 : Int32), u4.2.1, u4.2.2.1, u4.2.2.2))))) else (bd (F_X8_plainParts trcd row_f trc_f br xx) (fun (u3 : (Int32 × Int32 × Int32 × (Nat → Int32))) => some (u3.1, u3.2.1, u3.2.2.1, u3.2.2.2))))))
theorem hdX8_partsBy : yX8_partsBy.cls ≠ "java/lang/invoke/MethodHandle" ∧ yX8_partsBy.cls ≠ "java/lang/invoke/VarHandle" ∧ (parseMethodDescriptor yX8_partsBy.desc).map (fun d => d.parameters.length) = some 2 := by decide +kernel
set_option maxHeartbeats 4000000 in
set_option maxRecDepth 100000 in
theorem c_X8_partsBy (G : xG) (t : Nat) (row : Nat) (kpt : Nat) (errs : Nat) (bitsOf : Nat) (sizeOf : Nat) (cels : Nat) (broken : Nat) (isFit : Nat) (breaks : Nat) (act : Nat) (wth : Nat) (facts : Nat) (pile : Nat) (trc : Nat) (images : Int32) (mfit : Int32) (known : Int32) (laid : Int32) (hre : Int32) (opnd : Int32) (bad : Int32) (usg : Int32) (trcd : Int32) (isP : Int32) (row_f : Nat → Int32) (trc_f : Nat → Int32) (br : Int32) (xx : Int32)  (u : (Int32 × Int32 × Int32 × (Nat → Int32))) (hF : F_X8_partsBy trcd row_f trc_f br xx = some u) : Ki G .int yX8_partsBy (Cond.code yX8_partsBy cX8_partsBy 4 (some .int) :: TBL) { frames := 7, cells := 0, slots := 0, locals := 153 } [.ref t, .int br, .int xx] [(t, .inr (8, [.ref row, .ref kpt, .int images, .ref errs, .ref bitsOf, .ref sizeOf, .ref cels, .ref broken, .ref isFit, .ref breaks, .int mfit, .int known, .ref act, .ref wth, .ref facts, .ref pile, .int laid, .int hre, .int opnd, .int bad, .int usg, .ref trc, .int trcd, .int isP])), (row, .inl (xI G, 400, .inl row_f)), (trc, .inl (xI G, 30, .inl trc_f))] [(t, .inr (8, [.ref row, .ref kpt, .int images, .ref errs, .ref bitsOf, .ref sizeOf, .ref cels, .ref broken, .ref isFit, .ref breaks, .int mfit, .int known, .ref act, .ref wth, .ref facts, .ref pile, .int laid, .int hre, .int opnd, .int bad, .int usg, .ref trc, .int u.2.1, .int u.2.2.1])), (row, .inl (xI G, 400, .inl row_f)), (trc, .inl (xI G, 30, .inl u.2.2.2))] u.1 := by
  intro l sz
  refine Met.ofW (cc := cX8_partsBy) (maxL := 4) (ret := (some .int)) (by decide) rfl ?_
  intro p e s m args below meth c s₁ B hml hv
  obtain ⟨rfl, hsz, hP, hD0, hm⟩ := hv
  have hx := B.exec
  have hb := B.bytes
  have hr := B.returns
  have hts := atoms_spec (ws := Cond.code yX8_partsBy cX8_partsBy 4 (some .int) :: TBL) B.pre
  have hown : s.vm.findClass RX8 = some m.cls := findClass_of_methodNamed B.named
  have hlocks := B.notSynchronized
  subst hsz
  have hD := hD0.self (sz := s.heap.size)
  generalize hAe : va_A [(t, .inr (8, [.ref row, .ref kpt, .int images, .ref errs, .ref bitsOf, .ref sizeOf, .ref cels, .ref broken, .ref isFit, .ref breaks, .int mfit, .int known, .ref act, .ref wth, .ref facts, .ref pile, .int laid, .int hre, .int opnd, .int bad, .int usg, .ref trc, .int trcd, .int isP])), (row, .inl (xI G, 400, .inl row_f)), (trc, .inl (xI G, 30, .inl trc_f))] s.heap.size = A at hD hm ⊢
  have hA : ∀ q : Nat, s.heap.size ≤ q → A q := fun q h => by rw [← hAe]; exact Or.inr h
  have hK := hm.1
  have hZ : xAnd p m c cX8_partsBy 4 s _ (Cond.code yX8_partsBy cX8_partsBy 4 (some .int) :: TBL) RX8 G A := ⟨⟨hx, hb, hml, hown, hts⟩, tcons, hA, hm⟩
  have hP : va_P G.1 vwCl [(t, .inr (8, [.ref row, .ref kpt, .int images, .ref errs, .ref bitsOf, .ref sizeOf, .ref cels, .ref broken, .ref isFit, .ref breaks, .int mfit, .int known, .ref act, .ref wth, .ref facts, .ref pile, .int laid, .int hre, .int opnd, .int bad, .int usg, .ref trc, .int trcd, .int isP])), (row, .inl (xI G, 400, .inl row_f)), (trc, .inl (xI G, 30, .inl trc_f))] s.heap := hP
  have hl := lv_entry ([.ref t, .int br, .int xx]) (n := 4) (Nat.le_of_ble_eq_true rfl)
  rw [lg_entry_eq]
  generalize (lg_sl ([.ref t, .int br, .int xx]) ++ List.replicate (4 - (lg_sl ([.ref t, .int br, .int xx])).length) Slot.unset).toArray = ls at hl ⊢
  have hl : lv_has ls 4 [(0, .ref t), (1, .int br), (2, .int xx)] := hl
  generalize hQ : MQ below _ _ s _ _ _ = Q
  refine xGo (A := A) hP (fun H locs hP hS => ?_)
  unfold F_X8_partsBy at hF
  refine lv_aload_n hx hb dX8_partsBy_0 rfl (lv_at hl 0 rfl) ?_
  refine lv_iload_n hx hb dX8_partsBy_1 rfl (lv_at hl 1 rfl) ?_
  refine lv_iconst (v := 0) hx hb dX8_partsBy_2 (by decide) ?_
  obtain ⟨u1, e1, hF⟩ := bdS hF
  refine xEndI (xRunV (As := [.int br, .int (0 : Int32)]) (rest := []) hZ (c_X8_of G t row kpt errs bitsOf sizeOf cels broken isFit breaks act wth facts pile trc images mfit known laid hre opnd bad usg trcd isP row_f br (0 : Int32) u1 e1 l H.size) m291 m292 m293 m5 m294 2 ⟨rfl, hdX8_of⟩ ⟨Nat.le_of_ble_eq_true rfl, Nat.le_of_ble_eq_true rfl⟩ ⟨rfl, rfl⟩ hP hD hS 0 8 rfl rfl rfl [0, 1] rfl rfl rfl hl.1 rfl (Nat.le_of_ble_eq_true rfl) dX8_partsBy_3 ⟨Nat.zero_le _, Nat.zero_le _⟩) hP hD hS hA [0, 1] rfl rfl rfl (fun H locs n1 hP hD hS => ?_)
  have hP : va_P G.1 vwCl [(t, .inr (8, [.ref row, .ref kpt, .int images, .ref errs, .ref bitsOf, .ref sizeOf, .ref cels, .ref broken, .ref isFit, .ref breaks, .int mfit, .int known, .ref act, .ref wth, .ref facts, .ref pile, .int laid, .int hre, .int opnd, .int bad, .int usg, .ref trc, .int trcd, .int isP])), (row, .inl (xI G, 400, .inl row_f)), (trc, .inl (xI G, 30, .inl trc_f))] H := hP
  have hD : va_D A [(t, .inr (8, [.ref row, .ref kpt, .int images, .ref errs, .ref bitsOf, .ref sizeOf, .ref cels, .ref broken, .ref isFit, .ref breaks, .int mfit, .int known, .ref act, .ref wth, .ref facts, .ref pile, .int laid, .int hre, .int opnd, .int bad, .int usg, .ref trc, .int trcd, .int isP])), (row, .inl (xI G, 400, .inl row_f)), (trc, .inl (xI G, 30, .inl trc_f))] := hD
  refine lv_iconst (v := 1) hx hb dX8_partsBy_6 (by decide) ?_
  refine lv_icmp_eq (tgt := 20) hx hb dX8_partsBy_7 (by decide) (fun c7 => ?_) (fun c7 => ?_)
  · have hF := itP c7 hF
    refine lv_aload_n hx hb dX8_partsBy_20 rfl (lv_at hl 0 rfl) ?_
    refine lv_bipush (v := 21) hx hb dX8_partsBy_21 (by decide) ?_
    obtain ⟨u2, e2, hF⟩ := bdS hF
    refine xEndV (xRunV (As := [.int (21 : Int32)]) (rest := []) hZ (c_X8_begins G t row kpt errs bitsOf sizeOf cels broken isFit breaks act wth facts pile trc images mfit known laid hre opnd bad usg trcd isP trc_f (21 : Int32) u2 e2 l H.size) m947 m948 m949 m5 m950 1 ⟨rfl, hdX8_begins⟩ ⟨Nat.le_of_ble_eq_true rfl, Nat.le_of_ble_eq_true rfl⟩ ⟨rfl, rfl⟩ hP hD hS 0 8 rfl rfl rfl [0, 2] rfl rfl rfl hl.1 rfl (Nat.le_of_ble_eq_true rfl) dX8_partsBy_23 ⟨Nat.zero_le _, Nat.zero_le _⟩) hP hD hS hA [0, 2] rfl rfl rfl (fun H locs hP hD hS => ?_)
    have hP : va_P G.1 vwCl [(t, .inr (8, [.ref row, .ref kpt, .int images, .ref errs, .ref bitsOf, .ref sizeOf, .ref cels, .ref broken, .ref isFit, .ref breaks, .int mfit, .int known, .ref act, .ref wth, .ref facts, .ref pile, .int laid, .int hre, .int opnd, .int bad, .int usg, .ref trc, .int u2.1, .int isP])), (row, .inl (xI G, 400, .inl row_f)), (trc, .inl (xI G, 30, .inl u2.2))] H := hP
    have hD : va_D A [(t, .inr (8, [.ref row, .ref kpt, .int images, .ref errs, .ref bitsOf, .ref sizeOf, .ref cels, .ref broken, .ref isFit, .ref breaks, .int mfit, .int known, .ref act, .ref wth, .ref facts, .ref pile, .int laid, .int hre, .int opnd, .int bad, .int usg, .ref trc, .int u2.1, .int isP])), (row, .inl (xI G, 400, .inl row_f)), (trc, .inl (xI G, 30, .inl u2.2))] := hD
    refine lv_aload_n hx hb dX8_partsBy_26 rfl (lv_at hl 0 rfl) ?_
    refine lv_iload_n hx hb dX8_partsBy_27 rfl (lv_at hl 1 rfl) ?_
    refine lv_iload_n hx hb dX8_partsBy_28 rfl (lv_at hl 2 rfl) ?_
    obtain ⟨u3, e3, hF⟩ := bdS hF
    refine xEndI (xRunV (As := [.int br, .int xx]) (rest := []) hZ (c_X8_plainParts G t row kpt errs bitsOf sizeOf cels broken isFit breaks act wth facts pile trc images mfit known laid hre opnd bad usg u2.1 isP row_f u2.2 br xx u3 e3 l H.size) m979 m980 m981 m5 m982 2 ⟨rfl, hdX8_plainParts⟩ ⟨Nat.le_of_ble_eq_true rfl, Nat.le_of_ble_eq_true rfl⟩ ⟨rfl, rfl⟩ hP hD hS 0 8 rfl rfl rfl [0, 1, 2] rfl rfl rfl hl.1 rfl (Nat.le_of_ble_eq_true rfl) dX8_partsBy_29 ⟨Nat.zero_le _, Nat.zero_le _⟩) hP hD hS hA [0, 1, 2] rfl rfl rfl (fun H locs n3 hP hD hS => ?_)
    have hP : va_P G.1 vwCl [(t, .inr (8, [.ref row, .ref kpt, .int images, .ref errs, .ref bitsOf, .ref sizeOf, .ref cels, .ref broken, .ref isFit, .ref breaks, .int mfit, .int known, .ref act, .ref wth, .ref facts, .ref pile, .int laid, .int hre, .int opnd, .int bad, .int usg, .ref trc, .int u3.2.1, .int u3.2.2.1])), (row, .inl (xI G, 400, .inl row_f)), (trc, .inl (xI G, 30, .inl u3.2.2.2))] H := hP
    have hD : va_D A [(t, .inr (8, [.ref row, .ref kpt, .int images, .ref errs, .ref bitsOf, .ref sizeOf, .ref cels, .ref broken, .ref isFit, .ref breaks, .int mfit, .int known, .ref act, .ref wth, .ref facts, .ref pile, .int laid, .int hre, .int opnd, .int bad, .int usg, .ref trc, .int u3.2.1, .int u3.2.2.1])), (row, .inl (xI G, 400, .inl row_f)), (trc, .inl (xI G, 30, .inl u3.2.2.2))] := hD
    refine lv_istore_n (lv' := [(3, .int u3.1), (0, .ref t), (1, .int br), (2, .int xx)]) hx hb dX8_partsBy_32 rfl hl (by decide) rfl (fun ls hl => ?_)
    refine lv_aload_n hx hb dX8_partsBy_33 rfl (lv_at hl 1 rfl) ?_
    refine va_get (ci := 8) (v := .int u3.2.2.1) (C := RX8) (T := TX8) (N := 24) hx hb hts (fun w h => tcons w (xin8 w h)) hown hK hP 0 rfl rfl 23 (by decide) (hts _ (tcons _ m937)) (fun _ h9 => h9) rfl dX8_partsBy_34 ?_
    refine lv_if_eq (tgt := 44) hx hb dX8_partsBy_37 (by decide) (fun c37 => ?_) (fun c37 => ?_)
    · have hF := itP c37 hF
      refine lv_iload_n hx hb dX8_partsBy_44 rfl (lv_at hl 0 rfl) ?_
      refine lv_aload_n hx hb dX8_partsBy_45 rfl (lv_at hl 1 rfl) ?_
      refine lv_iload_n hx hb dX8_partsBy_46 rfl (lv_at hl 2 rfl) ?_
      refine lv_iconst (v := 1) hx hb dX8_partsBy_47 (by decide) ?_
      obtain ⟨u4, e4, hF⟩ := bdS hF
      refine xEndI (xRunV (As := [.int br, .int (1 : Int32)]) (rest := [.int u3.1]) hZ (c_X8_talks G t row kpt errs bitsOf sizeOf cels broken isFit breaks act wth facts pile trc images mfit known laid hre opnd bad usg u3.2.1 u3.2.2.1 row_f u3.2.2.2 br (1 : Int32) u4 e4 l H.size) m955 m956 m957 m5 m958 2 ⟨rfl, hdX8_talks⟩ ⟨Nat.le_of_ble_eq_true rfl, Nat.le_of_ble_eq_true rfl⟩ ⟨rfl, rfl⟩ hP hD hS 0 8 rfl rfl rfl [0, 1, 2] rfl rfl rfl hl.1 rfl (Nat.le_of_ble_eq_true rfl) dX8_partsBy_48 ⟨Nat.zero_le _, Nat.zero_le _⟩) hP hD hS hA [0, 1, 2] rfl rfl rfl (fun H locs n4 hP hD hS => ?_)
      have hP : va_P G.1 vwCl [(t, .inr (8, [.ref row, .ref kpt, .int images, .ref errs, .ref bitsOf, .ref sizeOf, .ref cels, .ref broken, .ref isFit, .ref breaks, .int mfit, .int known, .ref act, .ref wth, .ref facts, .ref pile, .int laid, .int hre, .int opnd, .int bad, .int usg, .ref trc, .int u4.2.1, .int u3.2.2.1])), (row, .inl (xI G, 400, .inl row_f)), (trc, .inl (xI G, 30, .inl u4.2.2))] H := hP
      have hD : va_D A [(t, .inr (8, [.ref row, .ref kpt, .int images, .ref errs, .ref bitsOf, .ref sizeOf, .ref cels, .ref broken, .ref isFit, .ref breaks, .int mfit, .int known, .ref act, .ref wth, .ref facts, .ref pile, .int laid, .int hre, .int opnd, .int bad, .int usg, .ref trc, .int u4.2.1, .int u3.2.2.1])), (row, .inl (xI G, 400, .inl row_f)), (trc, .inl (xI G, 30, .inl u4.2.2))] := hD
      refine lv_iadd hx hb dX8_partsBy_51 ?_
      obtain rfl := Option.some.inj hF
      rw [← hQ]
      exact W.iret (v := (u3.1 + u4.1)) hx hb hr (fun t ht hW => ⟨⟨_, (), rfl, ⟨rfl, rfl⟩, xLf hP ht⟩, hS.F ht⟩) hS.2.2 dX8_partsBy_52
    · have hF := itN c37 hF
      refine lv_iconst (v := 0) hx hb dX8_partsBy_40 (by decide) ?_
      refine lv_goto (tgt := 52) hx hb dX8_partsBy_41 (by decide) ?_
      obtain rfl := Option.some.inj hF
      rw [← hQ]
      exact W.iret (v := (0 : Int32)) hx hb hr (fun t ht hW => ⟨⟨_, (), rfl, ⟨rfl, rfl⟩, xLf hP ht⟩, hS.F ht⟩) hS.2.2 dX8_partsBy_52
  · have hF := itN c7 hF
    refine lv_aload_n hx hb dX8_partsBy_10 rfl (lv_at hl 0 rfl) ?_
    refine lv_iload_n hx hb dX8_partsBy_11 rfl (lv_at hl 1 rfl) ?_
    refine lv_iconst (v := 0) hx hb dX8_partsBy_12 (by decide) ?_
    obtain ⟨u2, e2, hF⟩ := bdS hF
    refine xEndI (xRunV (As := [.int br, .int (0 : Int32)]) (rest := []) hZ (c_X8_of G t row kpt errs bitsOf sizeOf cels broken isFit breaks act wth facts pile trc images mfit known laid hre opnd bad usg trcd isP row_f br (0 : Int32) u2 e2 l H.size) m291 m292 m293 m5 m294 2 ⟨rfl, hdX8_of⟩ ⟨Nat.le_of_ble_eq_true rfl, Nat.le_of_ble_eq_true rfl⟩ ⟨rfl, rfl⟩ hP hD hS 0 8 rfl rfl rfl [0, 1] rfl rfl rfl hl.1 rfl (Nat.le_of_ble_eq_true rfl) dX8_partsBy_13 ⟨Nat.zero_le _, Nat.zero_le _⟩) hP hD hS hA [0, 1] rfl rfl rfl (fun H locs n2 hP hD hS => ?_)
    have hP : va_P G.1 vwCl [(t, .inr (8, [.ref row, .ref kpt, .int images, .ref errs, .ref bitsOf, .ref sizeOf, .ref cels, .ref broken, .ref isFit, .ref breaks, .int mfit, .int known, .ref act, .ref wth, .ref facts, .ref pile, .int laid, .int hre, .int opnd, .int bad, .int usg, .ref trc, .int trcd, .int isP])), (row, .inl (xI G, 400, .inl row_f)), (trc, .inl (xI G, 30, .inl trc_f))] H := hP
    have hD : va_D A [(t, .inr (8, [.ref row, .ref kpt, .int images, .ref errs, .ref bitsOf, .ref sizeOf, .ref cels, .ref broken, .ref isFit, .ref breaks, .int mfit, .int known, .ref act, .ref wth, .ref facts, .ref pile, .int laid, .int hre, .int opnd, .int bad, .int usg, .ref trc, .int trcd, .int isP])), (row, .inl (xI G, 400, .inl row_f)), (trc, .inl (xI G, 30, .inl trc_f))] := hD
    refine lv_iconst (v := 4) hx hb dX8_partsBy_16 (by decide) ?_
    refine lv_icmp_ne (tgt := 53) hx hb dX8_partsBy_17 (by decide) (fun c17 => ?_) (fun c17 => ?_)
    · have hF := itN c17 hF
      refine lv_aload_n hx hb dX8_partsBy_53 rfl (lv_at hl 0 rfl) ?_
      refine lv_iload_n hx hb dX8_partsBy_54 rfl (lv_at hl 1 rfl) ?_
      refine lv_iload_n hx hb dX8_partsBy_55 rfl (lv_at hl 2 rfl) ?_
      obtain ⟨u3, e3, hF⟩ := bdS hF
      refine xEndI (xRunV (As := [.int br, .int xx]) (rest := []) hZ (c_X8_plainParts G t row kpt errs bitsOf sizeOf cels broken isFit breaks act wth facts pile trc images mfit known laid hre opnd bad usg trcd isP row_f trc_f br xx u3 e3 l H.size) m979 m980 m981 m5 m982 2 ⟨rfl, hdX8_plainParts⟩ ⟨Nat.le_of_ble_eq_true rfl, Nat.le_of_ble_eq_true rfl⟩ ⟨rfl, rfl⟩ hP hD hS 0 8 rfl rfl rfl [0, 1, 2] rfl rfl rfl hl.1 rfl (Nat.le_of_ble_eq_true rfl) dX8_partsBy_56 ⟨Nat.zero_le _, Nat.zero_le _⟩) hP hD hS hA [0, 1, 2] rfl rfl rfl (fun H locs n3 hP hD hS => ?_)
      have hP : va_P G.1 vwCl [(t, .inr (8, [.ref row, .ref kpt, .int images, .ref errs, .ref bitsOf, .ref sizeOf, .ref cels, .ref broken, .ref isFit, .ref breaks, .int mfit, .int known, .ref act, .ref wth, .ref facts, .ref pile, .int laid, .int hre, .int opnd, .int bad, .int usg, .ref trc, .int u3.2.1, .int u3.2.2.1])), (row, .inl (xI G, 400, .inl row_f)), (trc, .inl (xI G, 30, .inl u3.2.2.2))] H := hP
      have hD : va_D A [(t, .inr (8, [.ref row, .ref kpt, .int images, .ref errs, .ref bitsOf, .ref sizeOf, .ref cels, .ref broken, .ref isFit, .ref breaks, .int mfit, .int known, .ref act, .ref wth, .ref facts, .ref pile, .int laid, .int hre, .int opnd, .int bad, .int usg, .ref trc, .int u3.2.1, .int u3.2.2.1])), (row, .inl (xI G, 400, .inl row_f)), (trc, .inl (xI G, 30, .inl u3.2.2.2))] := hD
      obtain rfl := Option.some.inj hF
      rw [← hQ]
      exact W.iret (v := u3.1) hx hb hr (fun t ht hW => ⟨⟨_, (), rfl, ⟨rfl, rfl⟩, xLf hP ht⟩, hS.F ht⟩) hS.2.2 dX8_partsBy_59
    · have hF := itP c17 hF
      refine lv_aload_n hx hb dX8_partsBy_20 rfl (lv_at hl 0 rfl) ?_
      refine lv_bipush (v := 21) hx hb dX8_partsBy_21 (by decide) ?_
      obtain ⟨u3, e3, hF⟩ := bdS hF
      refine xEndV (xRunV (As := [.int (21 : Int32)]) (rest := []) hZ (c_X8_begins G t row kpt errs bitsOf sizeOf cels broken isFit breaks act wth facts pile trc images mfit known laid hre opnd bad usg trcd isP trc_f (21 : Int32) u3 e3 l H.size) m947 m948 m949 m5 m950 1 ⟨rfl, hdX8_begins⟩ ⟨Nat.le_of_ble_eq_true rfl, Nat.le_of_ble_eq_true rfl⟩ ⟨rfl, rfl⟩ hP hD hS 0 8 rfl rfl rfl [0, 2] rfl rfl rfl hl.1 rfl (Nat.le_of_ble_eq_true rfl) dX8_partsBy_23 ⟨Nat.zero_le _, Nat.zero_le _⟩) hP hD hS hA [0, 2] rfl rfl rfl (fun H locs hP hD hS => ?_)
      have hP : va_P G.1 vwCl [(t, .inr (8, [.ref row, .ref kpt, .int images, .ref errs, .ref bitsOf, .ref sizeOf, .ref cels, .ref broken, .ref isFit, .ref breaks, .int mfit, .int known, .ref act, .ref wth, .ref facts, .ref pile, .int laid, .int hre, .int opnd, .int bad, .int usg, .ref trc, .int u3.1, .int isP])), (row, .inl (xI G, 400, .inl row_f)), (trc, .inl (xI G, 30, .inl u3.2))] H := hP
      have hD : va_D A [(t, .inr (8, [.ref row, .ref kpt, .int images, .ref errs, .ref bitsOf, .ref sizeOf, .ref cels, .ref broken, .ref isFit, .ref breaks, .int mfit, .int known, .ref act, .ref wth, .ref facts, .ref pile, .int laid, .int hre, .int opnd, .int bad, .int usg, .ref trc, .int u3.1, .int isP])), (row, .inl (xI G, 400, .inl row_f)), (trc, .inl (xI G, 30, .inl u3.2))] := hD
      refine lv_aload_n hx hb dX8_partsBy_26 rfl (lv_at hl 0 rfl) ?_
      refine lv_iload_n hx hb dX8_partsBy_27 rfl (lv_at hl 1 rfl) ?_
      refine lv_iload_n hx hb dX8_partsBy_28 rfl (lv_at hl 2 rfl) ?_
      obtain ⟨u4, e4, hF⟩ := bdS hF
      refine xEndI (xRunV (As := [.int br, .int xx]) (rest := []) hZ (c_X8_plainParts G t row kpt errs bitsOf sizeOf cels broken isFit breaks act wth facts pile trc images mfit known laid hre opnd bad usg u3.1 isP row_f u3.2 br xx u4 e4 l H.size) m979 m980 m981 m5 m982 2 ⟨rfl, hdX8_plainParts⟩ ⟨Nat.le_of_ble_eq_true rfl, Nat.le_of_ble_eq_true rfl⟩ ⟨rfl, rfl⟩ hP hD hS 0 8 rfl rfl rfl [0, 1, 2] rfl rfl rfl hl.1 rfl (Nat.le_of_ble_eq_true rfl) dX8_partsBy_29 ⟨Nat.zero_le _, Nat.zero_le _⟩) hP hD hS hA [0, 1, 2] rfl rfl rfl (fun H locs n4 hP hD hS => ?_)
      have hP : va_P G.1 vwCl [(t, .inr (8, [.ref row, .ref kpt, .int images, .ref errs, .ref bitsOf, .ref sizeOf, .ref cels, .ref broken, .ref isFit, .ref breaks, .int mfit, .int known, .ref act, .ref wth, .ref facts, .ref pile, .int laid, .int hre, .int opnd, .int bad, .int usg, .ref trc, .int u4.2.1, .int u4.2.2.1])), (row, .inl (xI G, 400, .inl row_f)), (trc, .inl (xI G, 30, .inl u4.2.2.2))] H := hP
      have hD : va_D A [(t, .inr (8, [.ref row, .ref kpt, .int images, .ref errs, .ref bitsOf, .ref sizeOf, .ref cels, .ref broken, .ref isFit, .ref breaks, .int mfit, .int known, .ref act, .ref wth, .ref facts, .ref pile, .int laid, .int hre, .int opnd, .int bad, .int usg, .ref trc, .int u4.2.1, .int u4.2.2.1])), (row, .inl (xI G, 400, .inl row_f)), (trc, .inl (xI G, 30, .inl u4.2.2.2))] := hD
      refine lv_istore_n (lv' := [(3, .int u4.1), (0, .ref t), (1, .int br), (2, .int xx)]) hx hb dX8_partsBy_32 rfl hl (by decide) rfl (fun ls hl => ?_)
      refine lv_aload_n hx hb dX8_partsBy_33 rfl (lv_at hl 1 rfl) ?_
      refine va_get (ci := 8) (v := .int u4.2.2.1) (C := RX8) (T := TX8) (N := 24) hx hb hts (fun w h => tcons w (xin8 w h)) hown hK hP 0 rfl rfl 23 (by decide) (hts _ (tcons _ m937)) (fun _ h9 => h9) rfl dX8_partsBy_34 ?_
      refine lv_if_eq (tgt := 44) hx hb dX8_partsBy_37 (by decide) (fun c37 => ?_) (fun c37 => ?_)
      · have hF := itP c37 hF
        refine lv_iload_n hx hb dX8_partsBy_44 rfl (lv_at hl 0 rfl) ?_
        refine lv_aload_n hx hb dX8_partsBy_45 rfl (lv_at hl 1 rfl) ?_
        refine lv_iload_n hx hb dX8_partsBy_46 rfl (lv_at hl 2 rfl) ?_
        refine lv_iconst (v := 1) hx hb dX8_partsBy_47 (by decide) ?_
        obtain ⟨u5, e5, hF⟩ := bdS hF
        refine xEndI (xRunV (As := [.int br, .int (1 : Int32)]) (rest := [.int u4.1]) hZ (c_X8_talks G t row kpt errs bitsOf sizeOf cels broken isFit breaks act wth facts pile trc images mfit known laid hre opnd bad usg u4.2.1 u4.2.2.1 row_f u4.2.2.2 br (1 : Int32) u5 e5 l H.size) m955 m956 m957 m5 m958 2 ⟨rfl, hdX8_talks⟩ ⟨Nat.le_of_ble_eq_true rfl, Nat.le_of_ble_eq_true rfl⟩ ⟨rfl, rfl⟩ hP hD hS 0 8 rfl rfl rfl [0, 1, 2] rfl rfl rfl hl.1 rfl (Nat.le_of_ble_eq_true rfl) dX8_partsBy_48 ⟨Nat.zero_le _, Nat.zero_le _⟩) hP hD hS hA [0, 1, 2] rfl rfl rfl (fun H locs n5 hP hD hS => ?_)
        have hP : va_P G.1 vwCl [(t, .inr (8, [.ref row, .ref kpt, .int images, .ref errs, .ref bitsOf, .ref sizeOf, .ref cels, .ref broken, .ref isFit, .ref breaks, .int mfit, .int known, .ref act, .ref wth, .ref facts, .ref pile, .int laid, .int hre, .int opnd, .int bad, .int usg, .ref trc, .int u5.2.1, .int u4.2.2.1])), (row, .inl (xI G, 400, .inl row_f)), (trc, .inl (xI G, 30, .inl u5.2.2))] H := hP
        have hD : va_D A [(t, .inr (8, [.ref row, .ref kpt, .int images, .ref errs, .ref bitsOf, .ref sizeOf, .ref cels, .ref broken, .ref isFit, .ref breaks, .int mfit, .int known, .ref act, .ref wth, .ref facts, .ref pile, .int laid, .int hre, .int opnd, .int bad, .int usg, .ref trc, .int u5.2.1, .int u4.2.2.1])), (row, .inl (xI G, 400, .inl row_f)), (trc, .inl (xI G, 30, .inl u5.2.2))] := hD
        refine lv_iadd hx hb dX8_partsBy_51 ?_
        obtain rfl := Option.some.inj hF
        rw [← hQ]
        exact W.iret (v := (u4.1 + u5.1)) hx hb hr (fun t ht hW => ⟨⟨_, (), rfl, ⟨rfl, rfl⟩, xLf hP ht⟩, hS.F ht⟩) hS.2.2 dX8_partsBy_52
      · have hF := itN c37 hF
        refine lv_iconst (v := 0) hx hb dX8_partsBy_40 (by decide) ?_
        refine lv_goto (tgt := 52) hx hb dX8_partsBy_41 (by decide) ?_
        obtain rfl := Option.some.inj hF
        rw [← hQ]
        exact W.iret (v := (0 : Int32)) hx hb hr (fun t ht hW => ⟨⟨_, (), rfl, ⟨rfl, rfl⟩, xLf hP ht⟩, hS.F ht⟩) hS.2.2 dX8_partsBy_52
def F_X8_notThere (bitsOf_f : Nat → Int32) (si : Int32) : Option Int32 := bd (F_X8_isSheet si) (fun (u1 : Int32) => if u1 = 0 then (some (-1000000001 : Int32)) else (if (si < 0 ∨ 4 ≤ si.toNatClampNeg) then none else (if (bitsOf_f si.toNatClampNeg) = 0 then (some (-1000000002 : Int32)) else (some (0 : Int32)))))
theorem hdX8_notThere : yX8_notThere.cls ≠ "java/lang/invoke/MethodHandle" ∧ yX8_notThere.cls ≠ "java/lang/invoke/VarHandle" ∧ (parseMethodDescriptor yX8_notThere.desc).map (fun d => d.parameters.length) = some 1 := by decide +kernel
set_option maxHeartbeats 4000000 in
set_option maxRecDepth 100000 in
theorem c_X8_notThere (G : xG) (t : Nat) (row : Nat) (kpt : Nat) (errs : Nat) (bitsOf : Nat) (sizeOf : Nat) (cels : Nat) (broken : Nat) (isFit : Nat) (breaks : Nat) (act : Nat) (wth : Nat) (facts : Nat) (pile : Nat) (trc : Nat) (images : Int32) (mfit : Int32) (known : Int32) (laid : Int32) (hre : Int32) (opnd : Int32) (bad : Int32) (usg : Int32) (trcd : Int32) (isP : Int32) (bitsOf_f : Nat → Int32) (si : Int32)  (u : Int32) (hF : F_X8_notThere bitsOf_f si = some u) : Ki G .int yX8_notThere (Cond.code yX8_notThere cX8_notThere 2 (some .int) :: TBL) { frames := 2, cells := 0, slots := 0, locals := 42 } [.ref t, .int si] [(t, .inr (8, [.ref row, .ref kpt, .int images, .ref errs, .ref bitsOf, .ref sizeOf, .ref cels, .ref broken, .ref isFit, .ref breaks, .int mfit, .int known, .ref act, .ref wth, .ref facts, .ref pile, .int laid, .int hre, .int opnd, .int bad, .int usg, .ref trc, .int trcd, .int isP])), (bitsOf, .inl (xI G, 4, .inl bitsOf_f))] [(t, .inr (8, [.ref row, .ref kpt, .int images, .ref errs, .ref bitsOf, .ref sizeOf, .ref cels, .ref broken, .ref isFit, .ref breaks, .int mfit, .int known, .ref act, .ref wth, .ref facts, .ref pile, .int laid, .int hre, .int opnd, .int bad, .int usg, .ref trc, .int trcd, .int isP])), (bitsOf, .inl (xI G, 4, .inl bitsOf_f))] u := by
  intro l sz
  refine Met.ofW (cc := cX8_notThere) (maxL := 2) (ret := (some .int)) (by decide) rfl ?_
  intro p e s m args below meth c s₁ B hml hv
  obtain ⟨rfl, hsz, hP, hD0, hm⟩ := hv
  have hx := B.exec
  have hb := B.bytes
  have hr := B.returns
  have hts := atoms_spec (ws := Cond.code yX8_notThere cX8_notThere 2 (some .int) :: TBL) B.pre
  have hown : s.vm.findClass RX8 = some m.cls := findClass_of_methodNamed B.named
  have hlocks := B.notSynchronized
  subst hsz
  have hD := hD0.self (sz := s.heap.size)
  generalize hAe : va_A [(t, .inr (8, [.ref row, .ref kpt, .int images, .ref errs, .ref bitsOf, .ref sizeOf, .ref cels, .ref broken, .ref isFit, .ref breaks, .int mfit, .int known, .ref act, .ref wth, .ref facts, .ref pile, .int laid, .int hre, .int opnd, .int bad, .int usg, .ref trc, .int trcd, .int isP])), (bitsOf, .inl (xI G, 4, .inl bitsOf_f))] s.heap.size = A at hD hm ⊢
  have hA : ∀ q : Nat, s.heap.size ≤ q → A q := fun q h => by rw [← hAe]; exact Or.inr h
  have hK := hm.1
  have hZ : xAnd p m c cX8_notThere 2 s _ (Cond.code yX8_notThere cX8_notThere 2 (some .int) :: TBL) RX8 G A := ⟨⟨hx, hb, hml, hown, hts⟩, tcons, hA, hm⟩
  have hP : va_P G.1 vwCl [(t, .inr (8, [.ref row, .ref kpt, .int images, .ref errs, .ref bitsOf, .ref sizeOf, .ref cels, .ref broken, .ref isFit, .ref breaks, .int mfit, .int known, .ref act, .ref wth, .ref facts, .ref pile, .int laid, .int hre, .int opnd, .int bad, .int usg, .ref trc, .int trcd, .int isP])), (bitsOf, .inl (xI G, 4, .inl bitsOf_f))] s.heap := hP
  have hl := lv_entry ([.ref t, .int si]) (n := 2) (Nat.le_of_ble_eq_true rfl)
  rw [lg_entry_eq]
  generalize (lg_sl ([.ref t, .int si]) ++ List.replicate (2 - (lg_sl ([.ref t, .int si])).length) Slot.unset).toArray = ls at hl ⊢
  have hl : lv_has ls 2 [(0, .ref t), (1, .int si)] := hl
  generalize hQ : MQ below _ _ s _ _ _ = Q
  refine xGo (A := A) hP (fun H locs hP hS => ?_)
  unfold F_X8_notThere at hF
  refine lv_iload_n hx hb dX8_notThere_0 rfl (lv_at hl 1 rfl) ?_
  obtain ⟨u1, e1, hF⟩ := bdS hF
  refine xEndI (xRunS (As := [.int si]) (rest := []) hZ (c_X8_isSheet G si u1 e1 l H.size) m899 m900 m5 m901 1 hdX8_isSheet ⟨Nat.le_of_ble_eq_true rfl, Nat.le_of_ble_eq_true rfl⟩ ⟨rfl, rfl⟩ hP hD hS [] rfl rfl rfl hl.1 rfl (Nat.le_of_ble_eq_true rfl) dX8_notThere_1 ⟨Nat.zero_le _, Nat.zero_le _⟩) hP hD hS hA [] rfl rfl rfl (fun H locs n1 hP hD hS => ?_)
  have hP : va_P G.1 vwCl [(t, .inr (8, [.ref row, .ref kpt, .int images, .ref errs, .ref bitsOf, .ref sizeOf, .ref cels, .ref broken, .ref isFit, .ref breaks, .int mfit, .int known, .ref act, .ref wth, .ref facts, .ref pile, .int laid, .int hre, .int opnd, .int bad, .int usg, .ref trc, .int trcd, .int isP])), (bitsOf, .inl (xI G, 4, .inl bitsOf_f))] H := hP
  have hD : va_D A [(t, .inr (8, [.ref row, .ref kpt, .int images, .ref errs, .ref bitsOf, .ref sizeOf, .ref cels, .ref broken, .ref isFit, .ref breaks, .int mfit, .int known, .ref act, .ref wth, .ref facts, .ref pile, .int laid, .int hre, .int opnd, .int bad, .int usg, .ref trc, .int trcd, .int isP])), (bitsOf, .inl (xI G, 4, .inl bitsOf_f))] := hD
  refine lv_if_ne (tgt := 12) hx hb dX8_notThere_4 (by decide) (fun c4 => ?_) (fun c4 => ?_)
  · have hF := itN c4 hF
    refine lv_aload_n hx hb dX8_notThere_12 rfl (lv_at hl 0 rfl) ?_
    refine va_get (ci := 8) (v := .ref bitsOf) (C := RX8) (T := TX8) (N := 24) hx hb hts (fun w h => tcons w (xin8 w h)) hown hK hP 0 rfl rfl 4 (by decide) (hts _ (tcons _ m140)) (fun _ h9 => h9) rfl dX8_notThere_13 ?_
    refine lv_iload_n hx hb dX8_notThere_16 rfl (lv_at hl 1 rfl) ?_
    obtain ⟨g17, hF⟩ := gdS hF
    refine va_iald hx hb hK hP 1 0 rfl rfl g17 dX8_notThere_17 ?_
    refine lv_if_ne (tgt := 26) hx hb dX8_notThere_18 (by decide) (fun c18 => ?_) (fun c18 => ?_)
    · have hF := itN c18 hF
      refine lv_iconst (v := 0) hx hb dX8_notThere_26 (by decide) ?_
      obtain rfl := Option.some.inj hF
      rw [← hQ]
      exact W.iret (v := (0 : Int32)) hx hb hr (fun t ht hW => ⟨⟨_, (), rfl, ⟨rfl, rfl⟩, xLf hP ht⟩, hS.F ht⟩) hS.2.2 dX8_notThere_27
    · have hF := itP c18 hF
      refine lv_ldc (v := -1000000002) hx hb hown (hts _ (tcons _ m805)) dX8_notThere_21 ?_
      refine lv_goto (tgt := 27) hx hb dX8_notThere_23 (by decide) ?_
      obtain rfl := Option.some.inj hF
      rw [← hQ]
      exact W.iret (v := (-1000000002 : Int32)) hx hb hr (fun t ht hW => ⟨⟨_, (), rfl, ⟨rfl, rfl⟩, xLf hP ht⟩, hS.F ht⟩) hS.2.2 dX8_notThere_27
  · have hF := itP c4 hF
    refine lv_ldc (v := -1000000001) hx hb hown (hts _ (tcons _ m185)) dX8_notThere_7 ?_
    refine lv_goto (tgt := 27) hx hb dX8_notThere_9 (by decide) ?_
    obtain rfl := Option.some.inj hF
    rw [← hQ]
    exact W.iret (v := (-1000000001 : Int32)) hx hb hr (fun t ht hW => ⟨⟨_, (), rfl, ⟨rfl, rfl⟩, xLf hP ht⟩, hS.F ht⟩) hS.2.2 dX8_notThere_27
def F_X8_notMoved (bitsOf_f : Nat → Int32) (sizeOf_f : Nat → Int32) (si : Int32) (i : Int32) (sj : Int32) (j : Int32) (k : Int32) : Option Int32 := bd (F_X8_isSheet si) (fun (u1 : Int32) => if u1 = 0 then (some (-1000000001 : Int32)) else (bd (F_X8_isSheet sj) (fun (u2 : Int32) => if u2 = 0 then (some (-1000000001 : Int32)) else (if (si < 0 ∨ 4 ≤ si.toNatClampNeg) then none else (if (bitsOf_f si.toNatClampNeg) = 0 then (some (-1000000002 : Int32)) else (if (sj < 0 ∨ 4 ≤ sj.toNatClampNeg) then none else (if (bitsOf_f sj.toNatClampNeg) = 0 then (some (-1000000002 : Int32)) else (if (si < 0 ∨ 4 ≤ si.toNatClampNeg) then none else (if (sj < 0 ∨ 4 ≤ sj.toNatClampNeg) then none else (if (bitsOf_f si.toNatClampNeg) = (bitsOf_f sj.toNatClampNeg) then (if k < 0 then (some (-1000000001 : Int32)) else (if i < 0 then (some (-1000000001 : Int32)) else (if j < 0 then (some (-1000000001 : Int32)) else (if (si < 0 ∨ 4 ≤ si.toNatClampNeg) then none else (if ((sizeOf_f si.toNatClampNeg) - i) < k then (some (-1000000001 : Int32)) else (if (sj < 0 ∨ 4 ≤ sj.toNatClampNeg) then none else (if ((sizeOf_f sj.toNatClampNeg) - j) < k then (some (-1000000001 : Int32)) else (some (0 : Int32))))))))) else (some (-1000000005 : Int32))))))))))))
theorem hdX8_notMoved : yX8_notMoved.cls ≠ "java/lang/invoke/MethodHandle" ∧ yX8_notMoved.cls ≠ "java/lang/invoke/VarHandle" ∧ (parseMethodDescriptor yX8_notMoved.desc).map (fun d => d.parameters.length) = some 5 := by decide +kernel
set_option maxHeartbeats 4000000 in
set_option maxRecDepth 100000 in
theorem c_X8_notMoved (G : xG) (t : Nat) (row : Nat) (kpt : Nat) (errs : Nat) (bitsOf : Nat) (sizeOf : Nat) (cels : Nat) (broken : Nat) (isFit : Nat) (breaks : Nat) (act : Nat) (wth : Nat) (facts : Nat) (pile : Nat) (trc : Nat) (images : Int32) (mfit : Int32) (known : Int32) (laid : Int32) (hre : Int32) (opnd : Int32) (bad : Int32) (usg : Int32) (trcd : Int32) (isP : Int32) (bitsOf_f : Nat → Int32) (sizeOf_f : Nat → Int32) (si : Int32) (i : Int32) (sj : Int32) (j : Int32) (k : Int32)  (u : Int32) (hF : F_X8_notMoved bitsOf_f sizeOf_f si i sj j k = some u) : Ki G .int yX8_notMoved (Cond.code yX8_notMoved cX8_notMoved 7 (some .int) :: TBL) { frames := 2, cells := 0, slots := 0, locals := 42 } [.ref t, .int si, .int i, .int sj, .int j, .int k] [(t, .inr (8, [.ref row, .ref kpt, .int images, .ref errs, .ref bitsOf, .ref sizeOf, .ref cels, .ref broken, .ref isFit, .ref breaks, .int mfit, .int known, .ref act, .ref wth, .ref facts, .ref pile, .int laid, .int hre, .int opnd, .int bad, .int usg, .ref trc, .int trcd, .int isP])), (bitsOf, .inl (xI G, 4, .inl bitsOf_f)), (sizeOf, .inl (xI G, 4, .inl sizeOf_f))] [(t, .inr (8, [.ref row, .ref kpt, .int images, .ref errs, .ref bitsOf, .ref sizeOf, .ref cels, .ref broken, .ref isFit, .ref breaks, .int mfit, .int known, .ref act, .ref wth, .ref facts, .ref pile, .int laid, .int hre, .int opnd, .int bad, .int usg, .ref trc, .int trcd, .int isP])), (bitsOf, .inl (xI G, 4, .inl bitsOf_f)), (sizeOf, .inl (xI G, 4, .inl sizeOf_f))] u := by
  intro l sz
  refine Met.ofW (cc := cX8_notMoved) (maxL := 7) (ret := (some .int)) (by decide) rfl ?_
  intro p e s m args below meth c s₁ B hml hv
  obtain ⟨rfl, hsz, hP, hD0, hm⟩ := hv
  have hx := B.exec
  have hb := B.bytes
  have hr := B.returns
  have hts := atoms_spec (ws := Cond.code yX8_notMoved cX8_notMoved 7 (some .int) :: TBL) B.pre
  have hown : s.vm.findClass RX8 = some m.cls := findClass_of_methodNamed B.named
  have hlocks := B.notSynchronized
  subst hsz
  have hD := hD0.self (sz := s.heap.size)
  generalize hAe : va_A [(t, .inr (8, [.ref row, .ref kpt, .int images, .ref errs, .ref bitsOf, .ref sizeOf, .ref cels, .ref broken, .ref isFit, .ref breaks, .int mfit, .int known, .ref act, .ref wth, .ref facts, .ref pile, .int laid, .int hre, .int opnd, .int bad, .int usg, .ref trc, .int trcd, .int isP])), (bitsOf, .inl (xI G, 4, .inl bitsOf_f)), (sizeOf, .inl (xI G, 4, .inl sizeOf_f))] s.heap.size = A at hD hm ⊢
  have hA : ∀ q : Nat, s.heap.size ≤ q → A q := fun q h => by rw [← hAe]; exact Or.inr h
  have hK := hm.1
  have hZ : xAnd p m c cX8_notMoved 7 s _ (Cond.code yX8_notMoved cX8_notMoved 7 (some .int) :: TBL) RX8 G A := ⟨⟨hx, hb, hml, hown, hts⟩, tcons, hA, hm⟩
  have hP : va_P G.1 vwCl [(t, .inr (8, [.ref row, .ref kpt, .int images, .ref errs, .ref bitsOf, .ref sizeOf, .ref cels, .ref broken, .ref isFit, .ref breaks, .int mfit, .int known, .ref act, .ref wth, .ref facts, .ref pile, .int laid, .int hre, .int opnd, .int bad, .int usg, .ref trc, .int trcd, .int isP])), (bitsOf, .inl (xI G, 4, .inl bitsOf_f)), (sizeOf, .inl (xI G, 4, .inl sizeOf_f))] s.heap := hP
  have hl := lv_entry ([.ref t, .int si, .int i, .int sj, .int j, .int k]) (n := 7) (Nat.le_of_ble_eq_true rfl)
  rw [lg_entry_eq]
  generalize (lg_sl ([.ref t, .int si, .int i, .int sj, .int j, .int k]) ++ List.replicate (7 - (lg_sl ([.ref t, .int si, .int i, .int sj, .int j, .int k])).length) Slot.unset).toArray = ls at hl ⊢
  have hl : lv_has ls 7 [(0, .ref t), (1, .int si), (2, .int i), (3, .int sj), (4, .int j), (5, .int k)] := hl
  generalize hQ : MQ below _ _ s _ _ _ = Q
  refine xGo (A := A) hP (fun H locs hP hS => ?_)
  unfold F_X8_notMoved at hF
  refine lv_iload_n hx hb dX8_notMoved_0 rfl (lv_at hl 1 rfl) ?_
  obtain ⟨u1, e1, hF⟩ := bdS hF
  refine xEndI (xRunS (As := [.int si]) (rest := []) hZ (c_X8_isSheet G si u1 e1 l H.size) m899 m900 m5 m901 1 hdX8_isSheet ⟨Nat.le_of_ble_eq_true rfl, Nat.le_of_ble_eq_true rfl⟩ ⟨rfl, rfl⟩ hP hD hS [] rfl rfl rfl hl.1 rfl (Nat.le_of_ble_eq_true rfl) dX8_notMoved_1 ⟨Nat.zero_le _, Nat.zero_le _⟩) hP hD hS hA [] rfl rfl rfl (fun H locs n1 hP hD hS => ?_)
  have hP : va_P G.1 vwCl [(t, .inr (8, [.ref row, .ref kpt, .int images, .ref errs, .ref bitsOf, .ref sizeOf, .ref cels, .ref broken, .ref isFit, .ref breaks, .int mfit, .int known, .ref act, .ref wth, .ref facts, .ref pile, .int laid, .int hre, .int opnd, .int bad, .int usg, .ref trc, .int trcd, .int isP])), (bitsOf, .inl (xI G, 4, .inl bitsOf_f)), (sizeOf, .inl (xI G, 4, .inl sizeOf_f))] H := hP
  have hD : va_D A [(t, .inr (8, [.ref row, .ref kpt, .int images, .ref errs, .ref bitsOf, .ref sizeOf, .ref cels, .ref broken, .ref isFit, .ref breaks, .int mfit, .int known, .ref act, .ref wth, .ref facts, .ref pile, .int laid, .int hre, .int opnd, .int bad, .int usg, .ref trc, .int trcd, .int isP])), (bitsOf, .inl (xI G, 4, .inl bitsOf_f)), (sizeOf, .inl (xI G, 4, .inl sizeOf_f))] := hD
  refine lv_if_eq (tgt := 14) hx hb dX8_notMoved_4 (by decide) (fun c4 => ?_) (fun c4 => ?_)
  · have hF := itP c4 hF
    refine lv_ldc (v := -1000000001) hx hb hown (hts _ (tcons _ m185)) dX8_notMoved_14 ?_
    obtain rfl := Option.some.inj hF
    rw [← hQ]
    exact W.iret (v := (-1000000001 : Int32)) hx hb hr (fun t ht hW => ⟨⟨_, (), rfl, ⟨rfl, rfl⟩, xLf hP ht⟩, hS.F ht⟩) hS.2.2 dX8_notMoved_16
  · have hF := itN c4 hF
    refine lv_iload_n hx hb dX8_notMoved_7 rfl (lv_at hl 3 rfl) ?_
    obtain ⟨u2, e2, hF⟩ := bdS hF
    refine xEndI (xRunS (As := [.int sj]) (rest := []) hZ (c_X8_isSheet G sj u2 e2 l H.size) m899 m900 m5 m901 1 hdX8_isSheet ⟨Nat.le_of_ble_eq_true rfl, Nat.le_of_ble_eq_true rfl⟩ ⟨rfl, rfl⟩ hP hD hS [] rfl rfl rfl hl.1 rfl (Nat.le_of_ble_eq_true rfl) dX8_notMoved_8 ⟨Nat.zero_le _, Nat.zero_le _⟩) hP hD hS hA [] rfl rfl rfl (fun H locs n2 hP hD hS => ?_)
    have hP : va_P G.1 vwCl [(t, .inr (8, [.ref row, .ref kpt, .int images, .ref errs, .ref bitsOf, .ref sizeOf, .ref cels, .ref broken, .ref isFit, .ref breaks, .int mfit, .int known, .ref act, .ref wth, .ref facts, .ref pile, .int laid, .int hre, .int opnd, .int bad, .int usg, .ref trc, .int trcd, .int isP])), (bitsOf, .inl (xI G, 4, .inl bitsOf_f)), (sizeOf, .inl (xI G, 4, .inl sizeOf_f))] H := hP
    have hD : va_D A [(t, .inr (8, [.ref row, .ref kpt, .int images, .ref errs, .ref bitsOf, .ref sizeOf, .ref cels, .ref broken, .ref isFit, .ref breaks, .int mfit, .int known, .ref act, .ref wth, .ref facts, .ref pile, .int laid, .int hre, .int opnd, .int bad, .int usg, .ref trc, .int trcd, .int isP])), (bitsOf, .inl (xI G, 4, .inl bitsOf_f)), (sizeOf, .inl (xI G, 4, .inl sizeOf_f))] := hD
    refine lv_if_ne (tgt := 17) hx hb dX8_notMoved_11 (by decide) (fun c11 => ?_) (fun c11 => ?_)
    · have hF := itN c11 hF
      refine lv_aload_n hx hb dX8_notMoved_17 rfl (lv_at hl 0 rfl) ?_
      refine va_get (ci := 8) (v := .ref bitsOf) (C := RX8) (T := TX8) (N := 24) hx hb hts (fun w h => tcons w (xin8 w h)) hown hK hP 0 rfl rfl 4 (by decide) (hts _ (tcons _ m140)) (fun _ h9 => h9) rfl dX8_notMoved_18 ?_
      refine lv_iload_n hx hb dX8_notMoved_21 rfl (lv_at hl 1 rfl) ?_
      obtain ⟨g22, hF⟩ := gdS hF
      refine va_iald hx hb hK hP 1 0 rfl rfl g22 dX8_notMoved_22 ?_
      refine lv_if_eq (tgt := 35) hx hb dX8_notMoved_23 (by decide) (fun c23 => ?_) (fun c23 => ?_)
      · have hF := itP c23 hF
        refine lv_ldc (v := -1000000002) hx hb hown (hts _ (tcons _ m805)) dX8_notMoved_35 ?_
        obtain rfl := Option.some.inj hF
        rw [← hQ]
        exact W.iret (v := (-1000000002 : Int32)) hx hb hr (fun t ht hW => ⟨⟨_, (), rfl, ⟨rfl, rfl⟩, xLf hP ht⟩, hS.F ht⟩) hS.2.2 dX8_notMoved_37
      · have hF := itN c23 hF
        refine lv_aload_n hx hb dX8_notMoved_26 rfl (lv_at hl 0 rfl) ?_
        refine va_get (ci := 8) (v := .ref bitsOf) (C := RX8) (T := TX8) (N := 24) hx hb hts (fun w h => tcons w (xin8 w h)) hown hK hP 0 rfl rfl 4 (by decide) (hts _ (tcons _ m140)) (fun _ h9 => h9) rfl dX8_notMoved_27 ?_
        refine lv_iload_n hx hb dX8_notMoved_30 rfl (lv_at hl 3 rfl) ?_
        obtain ⟨g31, hF⟩ := gdS hF
        refine va_iald hx hb hK hP 1 0 rfl rfl g31 dX8_notMoved_31 ?_
        refine lv_if_ne (tgt := 38) hx hb dX8_notMoved_32 (by decide) (fun c32 => ?_) (fun c32 => ?_)
        · have hF := itN c32 hF
          refine lv_aload_n hx hb dX8_notMoved_38 rfl (lv_at hl 0 rfl) ?_
          refine va_get (ci := 8) (v := .ref bitsOf) (C := RX8) (T := TX8) (N := 24) hx hb hts (fun w h => tcons w (xin8 w h)) hown hK hP 0 rfl rfl 4 (by decide) (hts _ (tcons _ m140)) (fun _ h9 => h9) rfl dX8_notMoved_39 ?_
          refine lv_iload_n hx hb dX8_notMoved_42 rfl (lv_at hl 1 rfl) ?_
          obtain ⟨g43, hF⟩ := gdS hF
          refine va_iald hx hb hK hP 1 0 rfl rfl g43 dX8_notMoved_43 ?_
          refine lv_aload_n hx hb dX8_notMoved_44 rfl (lv_at hl 0 rfl) ?_
          refine va_get (ci := 8) (v := .ref bitsOf) (C := RX8) (T := TX8) (N := 24) hx hb hts (fun w h => tcons w (xin8 w h)) hown hK hP 0 rfl rfl 4 (by decide) (hts _ (tcons _ m140)) (fun _ h9 => h9) rfl dX8_notMoved_45 ?_
          refine lv_iload_n hx hb dX8_notMoved_48 rfl (lv_at hl 3 rfl) ?_
          obtain ⟨g49, hF⟩ := gdS hF
          refine va_iald hx hb hK hP 1 0 rfl rfl g49 dX8_notMoved_49 ?_
          refine lv_icmp_eq (tgt := 56) hx hb dX8_notMoved_50 (by decide) (fun c50 => ?_) (fun c50 => ?_)
          · have hF := itP c50 hF
            refine lv_iload hx hb dX8_notMoved_56 (lv_at hl 5 rfl) ?_
            refine lv_if_lt (tgt := 101) hx hb dX8_notMoved_58 (by decide) (fun c58 => ?_) (fun c58 => ?_)
            · have hF := itP c58 hF
              refine lv_iconst (v := 0) hx hb dX8_notMoved_101 (by decide) ?_
              refine lv_istore (lv' := [(6, .int (0 : Int32)), (0, .ref t), (1, .int si), (2, .int i), (3, .int sj), (4, .int j), (5, .int k)]) hx hb dX8_notMoved_102 hl (by decide) rfl (fun ls hl => ?_)
              refine lv_iload hx hb dX8_notMoved_104 (lv_at hl 0 rfl) ?_
              refine lv_if_eq (tgt := 113) hx hb dX8_notMoved_106 (by decide) (fun c106 => ?_) (fun c106 => absurd (by decide) c106)
              refine lv_ldc (v := -1000000001) hx hb hown (hts _ (tcons _ m185)) dX8_notMoved_113 ?_
              obtain rfl := Option.some.inj hF
              rw [← hQ]
              exact W.iret (v := (-1000000001 : Int32)) hx hb hr (fun t ht hW => ⟨⟨_, (), rfl, ⟨rfl, rfl⟩, xLf hP ht⟩, hS.F ht⟩) hS.2.2 dX8_notMoved_115
            · have hF := itN c58 hF
              refine lv_iload_n hx hb dX8_notMoved_61 rfl (lv_at hl 2 rfl) ?_
              refine lv_if_lt (tgt := 101) hx hb dX8_notMoved_62 (by decide) (fun c62 => ?_) (fun c62 => ?_)
              · have hF := itP c62 hF
                refine lv_iconst (v := 0) hx hb dX8_notMoved_101 (by decide) ?_
                refine lv_istore (lv' := [(6, .int (0 : Int32)), (0, .ref t), (1, .int si), (2, .int i), (3, .int sj), (4, .int j), (5, .int k)]) hx hb dX8_notMoved_102 hl (by decide) rfl (fun ls hl => ?_)
                refine lv_iload hx hb dX8_notMoved_104 (lv_at hl 0 rfl) ?_
                refine lv_if_eq (tgt := 113) hx hb dX8_notMoved_106 (by decide) (fun c106 => ?_) (fun c106 => absurd (by decide) c106)
                refine lv_ldc (v := -1000000001) hx hb hown (hts _ (tcons _ m185)) dX8_notMoved_113 ?_
                obtain rfl := Option.some.inj hF
                rw [← hQ]
                exact W.iret (v := (-1000000001 : Int32)) hx hb hr (fun t ht hW => ⟨⟨_, (), rfl, ⟨rfl, rfl⟩, xLf hP ht⟩, hS.F ht⟩) hS.2.2 dX8_notMoved_115
              · have hF := itN c62 hF
                refine lv_iload hx hb dX8_notMoved_65 (lv_at hl 4 rfl) ?_
                refine lv_if_lt (tgt := 101) hx hb dX8_notMoved_67 (by decide) (fun c67 => ?_) (fun c67 => ?_)
                · have hF := itP c67 hF
                  refine lv_iconst (v := 0) hx hb dX8_notMoved_101 (by decide) ?_
                  refine lv_istore (lv' := [(6, .int (0 : Int32)), (0, .ref t), (1, .int si), (2, .int i), (3, .int sj), (4, .int j), (5, .int k)]) hx hb dX8_notMoved_102 hl (by decide) rfl (fun ls hl => ?_)
                  refine lv_iload hx hb dX8_notMoved_104 (lv_at hl 0 rfl) ?_
                  refine lv_if_eq (tgt := 113) hx hb dX8_notMoved_106 (by decide) (fun c106 => ?_) (fun c106 => absurd (by decide) c106)
                  refine lv_ldc (v := -1000000001) hx hb hown (hts _ (tcons _ m185)) dX8_notMoved_113 ?_
                  obtain rfl := Option.some.inj hF
                  rw [← hQ]
                  exact W.iret (v := (-1000000001 : Int32)) hx hb hr (fun t ht hW => ⟨⟨_, (), rfl, ⟨rfl, rfl⟩, xLf hP ht⟩, hS.F ht⟩) hS.2.2 dX8_notMoved_115
                · have hF := itN c67 hF
                  refine lv_iload hx hb dX8_notMoved_70 (lv_at hl 5 rfl) ?_
                  refine lv_aload_n hx hb dX8_notMoved_72 rfl (lv_at hl 0 rfl) ?_
                  refine va_get (ci := 8) (v := .ref sizeOf) (C := RX8) (T := TX8) (N := 24) hx hb hts (fun w h => tcons w (xin8 w h)) hown hK hP 0 rfl rfl 5 (by decide) (hts _ (tcons _ m141)) (fun _ h9 => h9) rfl dX8_notMoved_73 ?_
                  refine lv_iload_n hx hb dX8_notMoved_76 rfl (lv_at hl 1 rfl) ?_
                  obtain ⟨g77, hF⟩ := gdS hF
                  refine va_iald hx hb hK hP 2 0 rfl rfl g77 dX8_notMoved_77 ?_
                  refine lv_iload_n hx hb dX8_notMoved_78 rfl (lv_at hl 2 rfl) ?_
                  refine lv_isub hx hb dX8_notMoved_79 ?_
                  refine lv_icmp_gt (tgt := 101) hx hb dX8_notMoved_80 (by decide) (fun c80 => ?_) (fun c80 => ?_)
                  · have hF := itP c80 hF
                    refine lv_iconst (v := 0) hx hb dX8_notMoved_101 (by decide) ?_
                    refine lv_istore (lv' := [(6, .int (0 : Int32)), (0, .ref t), (1, .int si), (2, .int i), (3, .int sj), (4, .int j), (5, .int k)]) hx hb dX8_notMoved_102 hl (by decide) rfl (fun ls hl => ?_)
                    refine lv_iload hx hb dX8_notMoved_104 (lv_at hl 0 rfl) ?_
                    refine lv_if_eq (tgt := 113) hx hb dX8_notMoved_106 (by decide) (fun c106 => ?_) (fun c106 => absurd (by decide) c106)
                    refine lv_ldc (v := -1000000001) hx hb hown (hts _ (tcons _ m185)) dX8_notMoved_113 ?_
                    obtain rfl := Option.some.inj hF
                    rw [← hQ]
                    exact W.iret (v := (-1000000001 : Int32)) hx hb hr (fun t ht hW => ⟨⟨_, (), rfl, ⟨rfl, rfl⟩, xLf hP ht⟩, hS.F ht⟩) hS.2.2 dX8_notMoved_115
                  · have hF := itN c80 hF
                    refine lv_iload hx hb dX8_notMoved_83 (lv_at hl 5 rfl) ?_
                    refine lv_aload_n hx hb dX8_notMoved_85 rfl (lv_at hl 0 rfl) ?_
                    refine va_get (ci := 8) (v := .ref sizeOf) (C := RX8) (T := TX8) (N := 24) hx hb hts (fun w h => tcons w (xin8 w h)) hown hK hP 0 rfl rfl 5 (by decide) (hts _ (tcons _ m141)) (fun _ h9 => h9) rfl dX8_notMoved_86 ?_
                    refine lv_iload_n hx hb dX8_notMoved_89 rfl (lv_at hl 3 rfl) ?_
                    obtain ⟨g90, hF⟩ := gdS hF
                    refine va_iald hx hb hK hP 2 0 rfl rfl g90 dX8_notMoved_90 ?_
                    refine lv_iload hx hb dX8_notMoved_91 (lv_at hl 4 rfl) ?_
                    refine lv_isub hx hb dX8_notMoved_93 ?_
                    refine lv_icmp_gt (tgt := 101) hx hb dX8_notMoved_94 (by decide) (fun c94 => ?_) (fun c94 => ?_)
                    · have hF := itP c94 hF
                      refine lv_iconst (v := 0) hx hb dX8_notMoved_101 (by decide) ?_
                      refine lv_istore (lv' := [(6, .int (0 : Int32)), (0, .ref t), (1, .int si), (2, .int i), (3, .int sj), (4, .int j), (5, .int k)]) hx hb dX8_notMoved_102 hl (by decide) rfl (fun ls hl => ?_)
                      refine lv_iload hx hb dX8_notMoved_104 (lv_at hl 0 rfl) ?_
                      refine lv_if_eq (tgt := 113) hx hb dX8_notMoved_106 (by decide) (fun c106 => ?_) (fun c106 => absurd (by decide) c106)
                      refine lv_ldc (v := -1000000001) hx hb hown (hts _ (tcons _ m185)) dX8_notMoved_113 ?_
                      obtain rfl := Option.some.inj hF
                      rw [← hQ]
                      exact W.iret (v := (-1000000001 : Int32)) hx hb hr (fun t ht hW => ⟨⟨_, (), rfl, ⟨rfl, rfl⟩, xLf hP ht⟩, hS.F ht⟩) hS.2.2 dX8_notMoved_115
                    · have hF := itN c94 hF
                      refine lv_iconst (v := 1) hx hb dX8_notMoved_97 (by decide) ?_
                      refine lv_goto (tgt := 102) hx hb dX8_notMoved_98 (by decide) ?_
                      refine lv_istore (lv' := [(6, .int (1 : Int32)), (0, .ref t), (1, .int si), (2, .int i), (3, .int sj), (4, .int j), (5, .int k)]) hx hb dX8_notMoved_102 hl (by decide) rfl (fun ls hl => ?_)
                      refine lv_iload hx hb dX8_notMoved_104 (lv_at hl 0 rfl) ?_
                      refine lv_if_eq (tgt := 113) hx hb dX8_notMoved_106 (by decide) (fun c106 => absurd c106 (by decide)) (fun c106 => ?_)
                      refine lv_iconst (v := 0) hx hb dX8_notMoved_109 (by decide) ?_
                      refine lv_goto (tgt := 115) hx hb dX8_notMoved_110 (by decide) ?_
                      obtain rfl := Option.some.inj hF
                      rw [← hQ]
                      exact W.iret (v := (0 : Int32)) hx hb hr (fun t ht hW => ⟨⟨_, (), rfl, ⟨rfl, rfl⟩, xLf hP ht⟩, hS.F ht⟩) hS.2.2 dX8_notMoved_115
          · have hF := itN c50 hF
            refine lv_ldc (v := -1000000005) hx hb hown (hts _ (tcons _ m370)) dX8_notMoved_53 ?_
            obtain rfl := Option.some.inj hF
            rw [← hQ]
            exact W.iret (v := (-1000000005 : Int32)) hx hb hr (fun t ht hW => ⟨⟨_, (), rfl, ⟨rfl, rfl⟩, xLf hP ht⟩, hS.F ht⟩) hS.2.2 dX8_notMoved_55
        · have hF := itP c32 hF
          refine lv_ldc (v := -1000000002) hx hb hown (hts _ (tcons _ m805)) dX8_notMoved_35 ?_
          obtain rfl := Option.some.inj hF
          rw [← hQ]
          exact W.iret (v := (-1000000002 : Int32)) hx hb hr (fun t ht hW => ⟨⟨_, (), rfl, ⟨rfl, rfl⟩, xLf hP ht⟩, hS.F ht⟩) hS.2.2 dX8_notMoved_37
    · have hF := itP c11 hF
      refine lv_ldc (v := -1000000001) hx hb hown (hts _ (tcons _ m185)) dX8_notMoved_14 ?_
      obtain rfl := Option.some.inj hF
      rw [← hQ]
      exact W.iret (v := (-1000000001 : Int32)) hx hb hr (fun t ht hW => ⟨⟨_, (), rfl, ⟨rfl, rfl⟩, xLf hP ht⟩, hS.F ht⟩) hS.2.2 dX8_notMoved_16
