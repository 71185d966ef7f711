def B_X8_feed_41 (errs_f : Nat → Int32) (wd : Int64) (k : Int32) (k41 : (Int32 × (Nat → Int32)) → Option (Int32 × (Nat → Int32) × (Nat → Int32))) (v41 : (Int32 × (Nat → Int32))) : Option (Int32 × (Nat → Int32) × (Nat → Int32)) := if k ≤ v41.1 then (some ((v41.2 (6 : Int32).toNatClampNeg), v41.2, errs_f)) else (if (((74 : Int32) + (v41.2 (6 : Int32).toNatClampNeg)) < 0 ∨ 400 ≤ ((74 : Int32) + (v41.2 (6 : Int32).toNatClampNeg)).toNatClampNeg) then none else (k41 ((v41.1 + (1 : Int32)), (upd (upd v41.2 ((74 : Int32) + (v41.2 (6 : Int32).toNatClampNeg)).toNatClampNeg (((wd >>> (((8 : Int32) * v41.1).toInt64 &&& 63)) &&& (255 : Int64)).toInt32)) (6 : Int32).toNatClampNeg (((upd v41.2 ((74 : Int32) + (v41.2 (6 : Int32).toNatClampNeg)).toNatClampNeg (((wd >>> (((8 : Int32) * v41.1).toInt64 &&& 63)) &&& (255 : Int64)).toInt32)) (6 : Int32).toNatClampNeg) + (1 : Int32))))))
def F_X8_feed (row_f : Nat → Int32) (errs_f : Nat → Int32) (wd : Int64) (k : Int32) : Option (Int32 × (Nat → Int32) × (Nat → Int32)) := bd (F_X8_in k (1 : Int32) (8 : Int32)) (fun (u1 : Int32) => if u1 = 0 then (bd (F_X8_error errs_f (-1000000001 : Int32)) (fun (u2 : (Int32 × (Nat → Int32))) => some (u2.1, row_f, u2.2))) else (if ((row_f (6 : Int32).toNatClampNeg) + k) ≤ (60 : Int32) then (lp (B_X8_feed_41 errs_f wd k) fuelC ((0 : Int32), row_f)) else (bd (F_X8_error errs_f (-1000000004 : Int32)) (fun (u2 : (Int32 × (Nat → Int32))) => some (u2.1, row_f, u2.2)))))
theorem hdX8_feed : yX8_feed.cls ≠ "java/lang/invoke/MethodHandle" ∧ yX8_feed.cls ≠ "java/lang/invoke/VarHandle" ∧ (parseMethodDescriptor yX8_feed.desc).map (fun d => d.parameters.length) = some 2 := by decide +kernel
set_option maxHeartbeats 4000000 in
set_option maxRecDepth 100000 in
theorem c_X8_feed (G : xG) (t : Nat) (row : Nat) (kpt : Nat) (errs : Nat) (bitsOf : Nat) (sizeOf : Nat) (cels : Nat) (broken : Nat) (isFit : Nat) (breaks : Nat) (act : Nat) (wth : Nat) (facts : Nat) (pile : Nat) (trc : Nat) (images : Int32) (mfit : Int32) (known : Int32) (laid : Int32) (hre : Int32) (opnd : Int32) (bad : Int32) (usg : Int32) (trcd : Int32) (isP : Int32) (row_f : Nat → Int32) (errs_f : Nat → Int32) (wd : Int64) (k : Int32)  (u : (Int32 × (Nat → Int32) × (Nat → Int32))) (hF : F_X8_feed row_f errs_f wd k = some u) : Ki G .int yX8_feed (Cond.code yX8_feed cX8_feed 5 (some .int) :: TBL) { frames := 1, cells := 0, slots := 0, locals := 22 } [.ref t, .long wd, .int k] [(t, .inr (8, [.ref row, .ref kpt, .int images, .ref errs, .ref bitsOf, .ref sizeOf, .ref cels, .ref broken, .ref isFit, .ref breaks, .int mfit, .int known, .ref act, .ref wth, .ref facts, .ref pile, .int laid, .int hre, .int opnd, .int bad, .int usg, .ref trc, .int trcd, .int isP])), (row, .inl (xI G, 400, .inl row_f)), (errs, .inl (xI G, 7, .inl errs_f))] [(t, .inr (8, [.ref row, .ref kpt, .int images, .ref errs, .ref bitsOf, .ref sizeOf, .ref cels, .ref broken, .ref isFit, .ref breaks, .int mfit, .int known, .ref act, .ref wth, .ref facts, .ref pile, .int laid, .int hre, .int opnd, .int bad, .int usg, .ref trc, .int trcd, .int isP])), (row, .inl (xI G, 400, .inl u.2.1)), (errs, .inl (xI G, 7, .inl u.2.2))] u.1 := by
  intro l sz
  refine Met.ofW (cc := cX8_feed) (maxL := 5) (ret := (some .int)) (by decide) rfl ?_
  intro p e s m args below meth c s₁ B hml hv
  obtain ⟨rfl, hsz, hP, hD0, hm⟩ := hv
  have hx := B.exec
  have hb := B.bytes
  have hr := B.returns
  have hts := atoms_spec (ws := Cond.code yX8_feed cX8_feed 5 (some .int) :: TBL) B.pre
  have hown : s.vm.findClass RX8 = some m.cls := findClass_of_methodNamed B.named
  have hlocks := B.notSynchronized
  subst hsz
  have hD := hD0.self (sz := s.heap.size)
  generalize hAe : va_A [(t, .inr (8, [.ref row, .ref kpt, .int images, .ref errs, .ref bitsOf, .ref sizeOf, .ref cels, .ref broken, .ref isFit, .ref breaks, .int mfit, .int known, .ref act, .ref wth, .ref facts, .ref pile, .int laid, .int hre, .int opnd, .int bad, .int usg, .ref trc, .int trcd, .int isP])), (row, .inl (xI G, 400, .inl row_f)), (errs, .inl (xI G, 7, .inl errs_f))] s.heap.size = A at hD hm ⊢
  have hA : ∀ q : Nat, s.heap.size ≤ q → A q := fun q h => by rw [← hAe]; exact Or.inr h
  have hK := hm.1
  have hZ : xAnd p m c cX8_feed 5 s _ (Cond.code yX8_feed cX8_feed 5 (some .int) :: TBL) RX8 G A := ⟨⟨hx, hb, hml, hown, hts⟩, tcons, hA, hm⟩
  have hP : va_P G.1 vwCl [(t, .inr (8, [.ref row, .ref kpt, .int images, .ref errs, .ref bitsOf, .ref sizeOf, .ref cels, .ref broken, .ref isFit, .ref breaks, .int mfit, .int known, .ref act, .ref wth, .ref facts, .ref pile, .int laid, .int hre, .int opnd, .int bad, .int usg, .ref trc, .int trcd, .int isP])), (row, .inl (xI G, 400, .inl row_f)), (errs, .inl (xI G, 7, .inl errs_f))] s.heap := hP
  have hl := lv_entry ([.ref t, .long wd, .int k]) (n := 5) (Nat.le_of_ble_eq_true rfl)
  rw [lg_entry_eq]
  generalize (lg_sl ([.ref t, .long wd, .int k]) ++ List.replicate (5 - (lg_sl ([.ref t, .long wd, .int k])).length) Slot.unset).toArray = ls at hl ⊢
  have hl : lv_has ls 5 [(0, .ref t), (1, .long wd), (3, .int k)] := hl
  generalize hQ : MQ below _ _ s _ _ _ = Q
  refine xGo (A := A) hP (fun H locs hP hS => ?_)
  unfold F_X8_feed at hF
  refine lv_iload_n hx hb dX8_feed_0 rfl (lv_at hl 2 rfl) ?_
  refine lv_iconst (v := 1) hx hb dX8_feed_1 (by decide) ?_
  refine lv_bipush (v := 8) hx hb dX8_feed_2 (by decide) ?_
  obtain ⟨u1, e1, hF⟩ := bdS hF
  refine xEndI (xRunS (As := [.int k, .int (1 : Int32), .int (8 : Int32)]) (rest := []) hZ (c_X8_in G k (1 : Int32) (8 : Int32) u1 e1 l H.size) m190 m191 m5 m192 3 hdX8_in ⟨Nat.le_of_ble_eq_true rfl, Nat.le_of_ble_eq_true rfl⟩ ⟨rfl, rfl⟩ hP hD hS [] rfl rfl rfl hl.1 rfl (Nat.le_of_ble_eq_true rfl) dX8_feed_4 ⟨Nat.zero_le _, Nat.zero_le _⟩) hP hD hS hA [] rfl rfl rfl (fun H locs n1 hP hD hS => ?_)
  have hP : va_P G.1 vwCl [(t, .inr (8, [.ref row, .ref kpt, .int images, .ref errs, .ref bitsOf, .ref sizeOf, .ref cels, .ref broken, .ref isFit, .ref breaks, .int mfit, .int known, .ref act, .ref wth, .ref facts, .ref pile, .int laid, .int hre, .int opnd, .int bad, .int usg, .ref trc, .int trcd, .int isP])), (row, .inl (xI G, 400, .inl row_f)), (errs, .inl (xI G, 7, .inl errs_f))] H := hP
  have hD : va_D A [(t, .inr (8, [.ref row, .ref kpt, .int images, .ref errs, .ref bitsOf, .ref sizeOf, .ref cels, .ref broken, .ref isFit, .ref breaks, .int mfit, .int known, .ref act, .ref wth, .ref facts, .ref pile, .int laid, .int hre, .int opnd, .int bad, .int usg, .ref trc, .int trcd, .int isP])), (row, .inl (xI G, 400, .inl row_f)), (errs, .inl (xI G, 7, .inl errs_f))] := hD
  refine lv_if_ne (tgt := 17) hx hb dX8_feed_7 (by decide) (fun c7 => ?_) (fun c7 => ?_)
  · have hF := itN c7 hF
    refine lv_aload_n hx hb dX8_feed_17 rfl (lv_at hl 0 rfl) ?_
    refine va_get (ci := 8) (v := .ref row) (C := RX8) (T := TX8) (N := 24) hx hb hts (fun w h => tcons w (xin8 w h)) hown hK hP 0 rfl rfl 0 (by decide) (hts _ (tcons _ m137)) (fun _ h9 => h9) rfl dX8_feed_18 ?_
    refine lv_bipush (v := 6) hx hb dX8_feed_21 (by decide) ?_
    refine va_iald hx hb hK hP 1 0 rfl rfl (by unfold vp_in; decide) dX8_feed_23 ?_
    refine lv_iload_n hx hb dX8_feed_24 rfl (lv_at hl 2 rfl) ?_
    refine lv_iadd hx hb dX8_feed_25 ?_
    refine lv_bipush (v := 60) hx hb dX8_feed_26 (by decide) ?_
    refine lv_icmp_le (tgt := 38) hx hb dX8_feed_28 (by decide) (fun c28 => ?_) (fun c28 => ?_)
    · have hF := itP c28 hF
      refine lv_iconst (v := 0) hx hb dX8_feed_38 (by decide) ?_
      refine lv_istore (lv' := [(4, .int (0 : Int32)), (0, .ref t), (1, .long wd), (3, .int k)]) hx hb dX8_feed_39 hl (by decide) rfl (fun ls hl => ?_)
      refine xLoop2 (body := (B_X8_feed_41 errs_f wd k)) (fun (v41_0 : Int32) (v41_1 : Nat → Int32) H locs ls => va_P G.1 vwCl [(t, .inr (8, [.ref row, .ref kpt, .int images, .ref errs, .ref bitsOf, .ref sizeOf, .ref cels, .ref broken, .ref isFit, .ref breaks, .int mfit, .int known, .ref act, .ref wth, .ref facts, .ref pile, .int laid, .int hre, .int opnd, .int bad, .int usg, .ref trc, .int trcd, .int isP])), (row, .inl (xI G, 400, .inl v41_1)), (errs, .inl (xI G, 7, .inl errs_f))] H ∧ va_D A [(t, .inr (8, [.ref row, .ref kpt, .int images, .ref errs, .ref bitsOf, .ref sizeOf, .ref cels, .ref broken, .ref isFit, .ref breaks, .int mfit, .int known, .ref act, .ref wth, .ref facts, .ref pile, .int laid, .int hre, .int opnd, .int bad, .int usg, .ref trc, .int trcd, .int isP])), (row, .inl (xI G, 400, .inl v41_1)), (errs, .inl (xI G, 7, .inl errs_f))] ∧ va_S A s.heap H locs ∧ lv_has ls 5 [(0, .ref t), (1, .long wd), (3, .int k), (4, .int v41_0)]) (fun N41 v41_0 v41_1 ih41 H locs ls hI hF => ?_) fuelC (0 : Int32) row_f H locs ls ⟨hP, hD, hS, lv_sub hl [1, 2, 3, 0] rfl⟩ hF
      obtain ⟨hP, hD, hS, hl⟩ := hI
      unfold B_X8_feed_41 at hF
      refine lv_iload hx hb dX8_feed_41 (lv_at hl 3 rfl) ?_
      refine lv_iload_n hx hb dX8_feed_43 rfl (lv_at hl 2 rfl) ?_
      refine lv_icmp_ge (tgt := 91) hx hb dX8_feed_44 (by decide) (fun c44 => ?_) (fun c44 => ?_)
      · have hF := itP c44 hF
        refine lv_aload_n hx hb dX8_feed_91 rfl (lv_at hl 0 rfl) ?_
        refine va_get (ci := 8) (v := .ref row) (C := RX8) (T := TX8) (N := 24) hx hb hts (fun w h => tcons w (xin8 w h)) hown hK hP 0 rfl rfl 0 (by decide) (hts _ (tcons _ m137)) (fun _ h9 => h9) rfl dX8_feed_92 ?_
        refine lv_bipush (v := 6) hx hb dX8_feed_95 (by decide) ?_
        refine va_iald hx hb hK hP 1 0 rfl rfl (by unfold vp_in; decide) dX8_feed_97 ?_
        obtain rfl := Option.some.inj hF
        rw [← hQ]
        exact W.iret (v := (v41_1 (6 : Int32).toNatClampNeg)) hx hb hr (fun t ht hW => ⟨⟨_, (), rfl, ⟨rfl, rfl⟩, xLf hP ht⟩, hS.F ht⟩) hS.2.2 dX8_feed_98
      · have hF := itN c44 hF
        refine lv_aload_n hx hb dX8_feed_47 rfl (lv_at hl 0 rfl) ?_
        refine va_get (ci := 8) (v := .ref row) (C := RX8) (T := TX8) (N := 24) hx hb hts (fun w h => tcons w (xin8 w h)) hown hK hP 0 rfl rfl 0 (by decide) (hts _ (tcons _ m137)) (fun _ h9 => h9) rfl dX8_feed_48 ?_
        refine lv_bipush (v := 74) hx hb dX8_feed_51 (by decide) ?_
        refine lv_aload_n hx hb dX8_feed_53 rfl (lv_at hl 0 rfl) ?_
        refine va_get (ci := 8) (v := .ref row) (C := RX8) (T := TX8) (N := 24) hx hb hts (fun w h => tcons w (xin8 w h)) hown hK hP 0 rfl rfl 0 (by decide) (hts _ (tcons _ m137)) (fun _ h9 => h9) rfl dX8_feed_54 ?_
        refine lv_bipush (v := 6) hx hb dX8_feed_57 (by decide) ?_
        refine va_iald hx hb hK hP 1 0 rfl rfl (by unfold vp_in; decide) dX8_feed_59 ?_
        refine lv_iadd hx hb dX8_feed_60 ?_
        refine lv_lload_n hx hb dX8_feed_61 rfl (lv_at hl 1 rfl) ?_
        refine lv_bipush (v := 8) hx hb dX8_feed_62 (by decide) ?_
        refine lv_iload hx hb dX8_feed_64 (lv_at hl 3 rfl) ?_
        refine lv_imul hx hb dX8_feed_66 ?_
        refine lv_lshr hx hb dX8_feed_67 rfl ?_
        refine lv_ldc2 (v := 255) hx hb hown (hts _ (tcons _ m491)) dX8_feed_68 ?_
        refine lv_land hx hb dX8_feed_71 ?_
        refine lv_l2i hx hb dX8_feed_72 rfl ?_
        obtain ⟨g73, hF⟩ := gdS hF
        refine va_iast hx hb hK hP hD hS 1 0 rfl rfl g73 dX8_feed_73 (fun H locs hP hD hS => ?_)
        have hP : va_P G.1 vwCl [(t, .inr (8, [.ref row, .ref kpt, .int images, .ref errs, .ref bitsOf, .ref sizeOf, .ref cels, .ref broken, .ref isFit, .ref breaks, .int mfit, .int known, .ref act, .ref wth, .ref facts, .ref pile, .int laid, .int hre, .int opnd, .int bad, .int usg, .ref trc, .int trcd, .int isP])), (row, .inl (xI G, 400, .inl (upd v41_1 ((74 : Int32) + (v41_1 (6 : Int32).toNatClampNeg)).toNatClampNeg (((wd >>> (((8 : Int32) * v41_0).toInt64 &&& 63)) &&& (255 : Int64)).toInt32)))), (errs, .inl (xI G, 7, .inl errs_f))] H := hP
        have hD : va_D A [(t, .inr (8, [.ref row, .ref kpt, .int images, .ref errs, .ref bitsOf, .ref sizeOf, .ref cels, .ref broken, .ref isFit, .ref breaks, .int mfit, .int known, .ref act, .ref wth, .ref facts, .ref pile, .int laid, .int hre, .int opnd, .int bad, .int usg, .ref trc, .int trcd, .int isP])), (row, .inl (xI G, 400, .inl (upd v41_1 ((74 : Int32) + (v41_1 (6 : Int32).toNatClampNeg)).toNatClampNeg (((wd >>> (((8 : Int32) * v41_0).toInt64 &&& 63)) &&& (255 : Int64)).toInt32)))), (errs, .inl (xI G, 7, .inl errs_f))] := hD
        refine lv_aload_n hx hb dX8_feed_74 rfl (lv_at hl 0 rfl) ?_
        refine va_get (ci := 8) (v := .ref row) (C := RX8) (T := TX8) (N := 24) hx hb hts (fun w h => tcons w (xin8 w h)) hown hK hP 0 rfl rfl 0 (by decide) (hts _ (tcons _ m137)) (fun _ h9 => h9) rfl dX8_feed_75 ?_
        refine lv_bipush (v := 6) hx hb dX8_feed_78 (by decide) ?_
        refine lv_dup2_11 hx hb dX8_feed_80 rfl rfl ?_
        refine va_iald hx hb hK hP 1 0 rfl rfl (by unfold vp_in; decide) dX8_feed_81 ?_
        refine lv_iconst (v := 1) hx hb dX8_feed_82 (by decide) ?_
        refine lv_iadd hx hb dX8_feed_83 ?_
        refine va_iast hx hb hK hP hD hS 1 0 rfl rfl (by unfold vp_in; decide) dX8_feed_84 (fun H locs hP hD hS => ?_)
        have hP : va_P G.1 vwCl [(t, .inr (8, [.ref row, .ref kpt, .int images, .ref errs, .ref bitsOf, .ref sizeOf, .ref cels, .ref broken, .ref isFit, .ref breaks, .int mfit, .int known, .ref act, .ref wth, .ref facts, .ref pile, .int laid, .int hre, .int opnd, .int bad, .int usg, .ref trc, .int trcd, .int isP])), (row, .inl (xI G, 400, .inl (upd (upd v41_1 ((74 : Int32) + (v41_1 (6 : Int32).toNatClampNeg)).toNatClampNeg (((wd >>> (((8 : Int32) * v41_0).toInt64 &&& 63)) &&& (255 : Int64)).toInt32)) (6 : Int32).toNatClampNeg (((upd v41_1 ((74 : Int32) + (v41_1 (6 : Int32).toNatClampNeg)).toNatClampNeg (((wd >>> (((8 : Int32) * v41_0).toInt64 &&& 63)) &&& (255 : Int64)).toInt32)) (6 : Int32).toNatClampNeg) + (1 : Int32))))), (errs, .inl (xI G, 7, .inl errs_f))] H := hP
        have hD : va_D A [(t, .inr (8, [.ref row, .ref kpt, .int images, .ref errs, .ref bitsOf, .ref sizeOf, .ref cels, .ref broken, .ref isFit, .ref breaks, .int mfit, .int known, .ref act, .ref wth, .ref facts, .ref pile, .int laid, .int hre, .int opnd, .int bad, .int usg, .ref trc, .int trcd, .int isP])), (row, .inl (xI G, 400, .inl (upd (upd v41_1 ((74 : Int32) + (v41_1 (6 : Int32).toNatClampNeg)).toNatClampNeg (((wd >>> (((8 : Int32) * v41_0).toInt64 &&& 63)) &&& (255 : Int64)).toInt32)) (6 : Int32).toNatClampNeg (((upd v41_1 ((74 : Int32) + (v41_1 (6 : Int32).toNatClampNeg)).toNatClampNeg (((wd >>> (((8 : Int32) * v41_0).toInt64 &&& 63)) &&& (255 : Int64)).toInt32)) (6 : Int32).toNatClampNeg) + (1 : Int32))))), (errs, .inl (xI G, 7, .inl errs_f))] := hD
        refine lv_iinc (v := (v41_0 + (1 : Int32))) (lv' := [(4, .int (v41_0 + (1 : Int32))), (0, .ref t), (1, .long wd), (3, .int k)]) hx hb dX8_feed_85 hl (k := 3) rfl (xInc_1 _) (by decide) rfl (fun ls hl => ?_)
        refine lv_goto (tgt := 41) hx hb dX8_feed_88 (by decide) ?_
        exact ih41 (v41_0 + (1 : Int32)) (upd (upd v41_1 ((74 : Int32) + (v41_1 (6 : Int32).toNatClampNeg)).toNatClampNeg (((wd >>> (((8 : Int32) * v41_0).toInt64 &&& 63)) &&& (255 : Int64)).toInt32)) (6 : Int32).toNatClampNeg (((upd v41_1 ((74 : Int32) + (v41_1 (6 : Int32).toNatClampNeg)).toNatClampNeg (((wd >>> (((8 : Int32) * v41_0).toInt64 &&& 63)) &&& (255 : Int64)).toInt32)) (6 : Int32).toNatClampNeg) + (1 : Int32))) H locs ls ⟨hP, hD, hS, lv_sub hl [1, 2, 3, 0] rfl⟩ hF
    · have hF := itN c28 hF
      refine lv_aload_n hx hb dX8_feed_31 rfl (lv_at hl 0 rfl) ?_
      refine lv_ldc (v := -1000000004) hx hb hown (hts _ (tcons _ m186)) dX8_feed_32 ?_
      obtain ⟨u2, e2, hF⟩ := bdS hF
      refine xEndI (xRunV (As := [.int (-1000000004 : Int32)]) (rest := []) hZ (c_X8_error G t row kpt errs bitsOf sizeOf cels broken isFit breaks act wth facts pile trc images mfit known laid hre opnd bad usg trcd isP errs_f (-1000000004 : Int32) u2 e2 l H.size) m193 m194 m195 m5 m196 1 ⟨rfl, hdX8_error⟩ ⟨Nat.le_of_ble_eq_true rfl, Nat.le_of_ble_eq_true rfl⟩ ⟨rfl, rfl⟩ hP hD hS 0 8 rfl rfl rfl [0, 2] rfl rfl rfl hl.1 rfl (Nat.le_of_ble_eq_true rfl) dX8_feed_34 ⟨Nat.zero_le _, Nat.zero_le _⟩) hP hD hS hA [0, 2] rfl rfl rfl (fun H locs n2 hP hD hS => ?_)
      have hP : va_P G.1 vwCl [(t, .inr (8, [.ref row, .ref kpt, .int images, .ref errs, .ref bitsOf, .ref sizeOf, .ref cels, .ref broken, .ref isFit, .ref breaks, .int mfit, .int known, .ref act, .ref wth, .ref facts, .ref pile, .int laid, .int hre, .int opnd, .int bad, .int usg, .ref trc, .int trcd, .int isP])), (row, .inl (xI G, 400, .inl row_f)), (errs, .inl (xI G, 7, .inl u2.2))] H := hP
      have hD : va_D A [(t, .inr (8, [.ref row, .ref kpt, .int images, .ref errs, .ref bitsOf, .ref sizeOf, .ref cels, .ref broken, .ref isFit, .ref breaks, .int mfit, .int known, .ref act, .ref wth, .ref facts, .ref pile, .int laid, .int hre, .int opnd, .int bad, .int usg, .ref trc, .int trcd, .int isP])), (row, .inl (xI G, 400, .inl row_f)), (errs, .inl (xI G, 7, .inl u2.2))] := hD
      obtain rfl := Option.some.inj hF
      rw [← hQ]
      exact W.iret (v := u2.1) hx hb hr (fun t ht hW => ⟨⟨_, (), rfl, ⟨rfl, rfl⟩, xLf hP ht⟩, hS.F ht⟩) hS.2.2 dX8_feed_37
  · have hF := itP c7 hF
    refine lv_aload_n hx hb dX8_feed_10 rfl (lv_at hl 0 rfl) ?_
    refine lv_ldc (v := -1000000001) hx hb hown (hts _ (tcons _ m185)) dX8_feed_11 ?_
    obtain ⟨u2, e2, hF⟩ := bdS hF
    refine xEndI (xRunV (As := [.int (-1000000001 : Int32)]) (rest := []) hZ (c_X8_error G t row kpt errs bitsOf sizeOf cels broken isFit breaks act wth facts pile trc images mfit known laid hre opnd bad usg trcd isP errs_f (-1000000001 : Int32) u2 e2 l H.size) m193 m194 m195 m5 m196 1 ⟨rfl, hdX8_error⟩ ⟨Nat.le_of_ble_eq_true rfl, Nat.le_of_ble_eq_true rfl⟩ ⟨rfl, rfl⟩ hP hD hS 0 8 rfl rfl rfl [0, 2] rfl rfl rfl hl.1 rfl (Nat.le_of_ble_eq_true rfl) dX8_feed_13 ⟨Nat.zero_le _, Nat.zero_le _⟩) hP hD hS hA [0, 2] rfl rfl rfl (fun H locs n2 hP hD hS => ?_)
    have hP : va_P G.1 vwCl [(t, .inr (8, [.ref row, .ref kpt, .int images, .ref errs, .ref bitsOf, .ref sizeOf, .ref cels, .ref broken, .ref isFit, .ref breaks, .int mfit, .int known, .ref act, .ref wth, .ref facts, .ref pile, .int laid, .int hre, .int opnd, .int bad, .int usg, .ref trc, .int trcd, .int isP])), (row, .inl (xI G, 400, .inl row_f)), (errs, .inl (xI G, 7, .inl u2.2))] H := hP
    have hD : va_D A [(t, .inr (8, [.ref row, .ref kpt, .int images, .ref errs, .ref bitsOf, .ref sizeOf, .ref cels, .ref broken, .ref isFit, .ref breaks, .int mfit, .int known, .ref act, .ref wth, .ref facts, .ref pile, .int laid, .int hre, .int opnd, .int bad, .int usg, .ref trc, .int trcd, .int isP])), (row, .inl (xI G, 400, .inl row_f)), (errs, .inl (xI G, 7, .inl u2.2))] := hD
    obtain rfl := Option.some.inj hF
    rw [← hQ]
    exact W.iret (v := u2.1) hx hb hr (fun t ht hW => ⟨⟨_, (), rfl, ⟨rfl, rfl⟩, xLf hP ht⟩, hS.F ht⟩) hS.2.2 dX8_feed_16
def B_X8_text_119 (errs_f : Nat → Int32) (us : Int32) (u2 : (Int32 × Int32 × Int32 × Int32 × (Nat → Int32) × (Nat → Int32))) (k119 : (Int32 × (Nat → Int32)) → Option (Int32 × Int32 × Int32 × Int32 × Int32 × Int32 × (Nat → Int32) × (Nat → Int32) × (Nat → Int32) × (Nat → Int32))) (v119 : (Int32 × (Nat → Int32))) : Option (Int32 × Int32 × Int32 × Int32 × Int32 × Int32 × (Nat → Int32) × (Nat → Int32) × (Nat → Int32) × (Nat → Int32)) := if u2.1 ≤ v119.1 then (some ((1 : Int32), u2.1, u2.2.1, u2.2.2.1, (0 : Int32), us, v119.2, errs_f, u2.2.2.2.2.1, u2.2.2.2.2.2)) else (if (v119.1 < 0 ∨ 60 ≤ v119.1.toNatClampNeg) then none else (if (((((158 : Int32) + ((121 : Int32) * us)) + (1 : Int32)) + v119.1) < 0 ∨ 400 ≤ ((((158 : Int32) + ((121 : Int32) * us)) + (1 : Int32)) + v119.1).toNatClampNeg) then none else (if (v119.1 < 0 ∨ 60 ≤ v119.1.toNatClampNeg) then none else (if (((((158 : Int32) + ((121 : Int32) * us)) + (61 : Int32)) + v119.1) < 0 ∨ 400 ≤ ((((158 : Int32) + ((121 : Int32) * us)) + (61 : Int32)) + v119.1).toNatClampNeg) then none else (k119 ((v119.1 + (1 : Int32)), (upd (upd v119.2 ((((158 : Int32) + ((121 : Int32) * us)) + (1 : Int32)) + v119.1).toNatClampNeg (u2.2.2.2.2.1 v119.1.toNatClampNeg)) ((((158 : Int32) + ((121 : Int32) * us)) + (61 : Int32)) + v119.1).toNatClampNeg (u2.2.2.2.2.2 v119.1.toNatClampNeg))))))))
def F_X8_text (laid : Int32) (hre : Int32) (opnd : Int32) (bad : Int32) (usg : Int32) (row_f : Nat → Int32) (errs_f : Nat → Int32) (act_f : Nat → Int32) (wth_f : Nat → Int32) (us : Int32) : Option (Int32 × Int32 × Int32 × Int32 × Int32 × Int32 × (Nat → Int32) × (Nat → Int32) × (Nat → Int32) × (Nat → Int32)) := bd (F_X8_in us (0 : Int32) (1 : Int32)) (fun (u1 : Int32) => if u1 = 0 then (bd (F_X8_error errs_f (-1000000001 : Int32)) (fun (u2 : (Int32 × (Nat → Int32))) => some (u2.1, laid, hre, opnd, bad, usg, row_f, u2.2, act_f, wth_f))) else (bd (F_X8_any (RS_one 8) (0 : Int32) (0 : Int32) (0 : Int32) (0 : Int32) us row_f act_f wth_f) (fun (u2 : (Int32 × Int32 × Int32 × Int32 × (Nat → Int32) × (Nat → Int32))) => if u2.2.2.2.1 = 0 then (if (row_f (6 : Int32).toNatClampNeg) ≤ u2.2.1 then (if (((158 : Int32) + ((121 : Int32) * us)) < 0 ∨ 400 ≤ ((158 : Int32) + ((121 : Int32) * us)).toNatClampNeg) then none else (lp (B_X8_text_119 errs_f us u2) fuelC ((0 : Int32), (upd (upd row_f (6 : Int32).toNatClampNeg (0 : Int32)) ((158 : Int32) + ((121 : Int32) * us)).toNatClampNeg u2.1)))) else (some (((-10 : Int32) - u2.2.1), u2.1, u2.2.1, u2.2.2.1, (1 : Int32), us, (upd row_f (6 : Int32).toNatClampNeg (0 : Int32)), errs_f, u2.2.2.2.2.1, u2.2.2.2.2.2))) else (some (((-10 : Int32) - u2.2.1), u2.1, u2.2.1, u2.2.2.1, (1 : Int32), us, (upd row_f (6 : Int32).toNatClampNeg (0 : Int32)), errs_f, u2.2.2.2.2.1, u2.2.2.2.2.2)))))
theorem hdX8_text : yX8_text.cls ≠ "java/lang/invoke/MethodHandle" ∧ yX8_text.cls ≠ "java/lang/invoke/VarHandle" ∧ (parseMethodDescriptor yX8_text.desc).map (fun d => d.parameters.length) = some 1 := by decide +kernel
set_option maxHeartbeats 4000000 in
set_option maxRecDepth 100000 in
theorem c_X8_text (G : xG) (t : Nat) (row : Nat) (kpt : Nat) (errs : Nat) (bitsOf : Nat) (sizeOf : Nat) (cels : Nat) (broken : Nat) (isFit : Nat) (breaks : Nat) (act : Nat) (wth : Nat) (facts : Nat) (pile : Nat) (trc : Nat) (images : Int32) (mfit : Int32) (known : Int32) (laid : Int32) (hre : Int32) (opnd : Int32) (bad : Int32) (usg : Int32) (trcd : Int32) (isP : Int32) (row_f : Nat → Int32) (errs_f : Nat → Int32) (act_f : Nat → Int32) (wth_f : Nat → Int32) (us : Int32)  (u : (Int32 × Int32 × Int32 × Int32 × Int32 × Int32 × (Nat → Int32) × (Nat → Int32) × (Nat → Int32) × (Nat → Int32))) (hF : F_X8_text laid hre opnd bad usg row_f errs_f act_f wth_f us = some u) : Ki G .int yX8_text (Cond.code yX8_text cX8_text 4 (some .int) :: TBL) { frames := 62, cells := 0, slots := 0, locals := 1293 } [.ref t, .int us] [(t, .inr (8, [.ref row, .ref kpt, .int images, .ref errs, .ref bitsOf, .ref sizeOf, .ref cels, .ref broken, .ref isFit, .ref breaks, .int mfit, .int known, .ref act, .ref wth, .ref facts, .ref pile, .int laid, .int hre, .int opnd, .int bad, .int usg, .ref trc, .int trcd, .int isP])), (row, .inl (xI G, 400, .inl row_f)), (errs, .inl (xI G, 7, .inl errs_f)), (act, .inl (xI G, 60, .inl act_f)), (wth, .inl (xI G, 60, .inl wth_f))] [(t, .inr (8, [.ref row, .ref kpt, .int images, .ref errs, .ref bitsOf, .ref sizeOf, .ref cels, .ref broken, .ref isFit, .ref breaks, .int mfit, .int known, .ref act, .ref wth, .ref facts, .ref pile, .int u.2.1, .int u.2.2.1, .int u.2.2.2.1, .int u.2.2.2.2.1, .int u.2.2.2.2.2.1, .ref trc, .int trcd, .int isP])), (row, .inl (xI G, 400, .inl u.2.2.2.2.2.2.1)), (errs, .inl (xI G, 7, .inl u.2.2.2.2.2.2.2.1)), (act, .inl (xI G, 60, .inl u.2.2.2.2.2.2.2.2.1)), (wth, .inl (xI G, 60, .inl u.2.2.2.2.2.2.2.2.2))] u.1 := by
  intro l sz
  refine Met.ofW (cc := cX8_text) (maxL := 4) (ret := (some .int)) (by decide) rfl ?_
  intro p e s m args below meth c s₁ B hml hv
  obtain ⟨rfl, hsz, hP, hD0, hm⟩ := hv
  have hx := B.exec
  have hb := B.bytes
  have hr := B.returns
  have hts := atoms_spec (ws := Cond.code yX8_text cX8_text 4 (some .int) :: TBL) B.pre
  have hown : s.vm.findClass RX8 = some m.cls := findClass_of_methodNamed B.named
  have hlocks := B.notSynchronized
  subst hsz
  have hD := hD0.self (sz := s.heap.size)
  generalize hAe : va_A [(t, .inr (8, [.ref row, .ref kpt, .int images, .ref errs, .ref bitsOf, .ref sizeOf, .ref cels, .ref broken, .ref isFit, .ref breaks, .int mfit, .int known, .ref act, .ref wth, .ref facts, .ref pile, .int laid, .int hre, .int opnd, .int bad, .int usg, .ref trc, .int trcd, .int isP])), (row, .inl (xI G, 400, .inl row_f)), (errs, .inl (xI G, 7, .inl errs_f)), (act, .inl (xI G, 60, .inl act_f)), (wth, .inl (xI G, 60, .inl wth_f))] s.heap.size = A at hD hm ⊢
  have hA : ∀ q : Nat, s.heap.size ≤ q → A q := fun q h => by rw [← hAe]; exact Or.inr h
  have hK := hm.1
  have hZ : xAnd p m c cX8_text 4 s _ (Cond.code yX8_text cX8_text 4 (some .int) :: TBL) RX8 G A := ⟨⟨hx, hb, hml, hown, hts⟩, tcons, hA, hm⟩
  have hP : va_P G.1 vwCl [(t, .inr (8, [.ref row, .ref kpt, .int images, .ref errs, .ref bitsOf, .ref sizeOf, .ref cels, .ref broken, .ref isFit, .ref breaks, .int mfit, .int known, .ref act, .ref wth, .ref facts, .ref pile, .int laid, .int hre, .int opnd, .int bad, .int usg, .ref trc, .int trcd, .int isP])), (row, .inl (xI G, 400, .inl row_f)), (errs, .inl (xI G, 7, .inl errs_f)), (act, .inl (xI G, 60, .inl act_f)), (wth, .inl (xI G, 60, .inl wth_f))] s.heap := hP
  have hl := lv_entry ([.ref t, .int us]) (n := 4) (Nat.le_of_ble_eq_true rfl)
  rw [lg_entry_eq]
  generalize (lg_sl ([.ref t, .int us]) ++ List.replicate (4 - (lg_sl ([.ref t, .int us])).length) Slot.unset).toArray = ls at hl ⊢
  have hl : lv_has ls 4 [(0, .ref t), (1, .int us)] := hl
  generalize hQ : MQ below _ _ s _ _ _ = Q
  refine xGo (A := A) hP (fun H locs hP hS => ?_)
  unfold F_X8_text at hF
  refine lv_iload_n hx hb dX8_text_0 rfl (lv_at hl 1 rfl) ?_
  refine lv_iconst (v := 0) hx hb dX8_text_1 (by decide) ?_
  refine lv_iconst (v := 1) hx hb dX8_text_2 (by decide) ?_
  obtain ⟨u1, e1, hF⟩ := bdS hF
  refine xEndI (xRunS (As := [.int us, .int (0 : Int32), .int (1 : Int32)]) (rest := []) hZ (c_X8_in G us (0 : Int32) (1 : Int32) u1 e1 l H.size) m190 m191 m5 m192 3 hdX8_in ⟨Nat.le_of_ble_eq_true rfl, Nat.le_of_ble_eq_true rfl⟩ ⟨rfl, rfl⟩ hP hD hS [] rfl rfl rfl hl.1 rfl (Nat.le_of_ble_eq_true rfl) dX8_text_3 ⟨Nat.zero_le _, Nat.zero_le _⟩) hP hD hS hA [] rfl rfl rfl (fun H locs n1 hP hD hS => ?_)
  have hP : va_P G.1 vwCl [(t, .inr (8, [.ref row, .ref kpt, .int images, .ref errs, .ref bitsOf, .ref sizeOf, .ref cels, .ref broken, .ref isFit, .ref breaks, .int mfit, .int known, .ref act, .ref wth, .ref facts, .ref pile, .int laid, .int hre, .int opnd, .int bad, .int usg, .ref trc, .int trcd, .int isP])), (row, .inl (xI G, 400, .inl row_f)), (errs, .inl (xI G, 7, .inl errs_f)), (act, .inl (xI G, 60, .inl act_f)), (wth, .inl (xI G, 60, .inl wth_f))] H := hP
  have hD : va_D A [(t, .inr (8, [.ref row, .ref kpt, .int images, .ref errs, .ref bitsOf, .ref sizeOf, .ref cels, .ref broken, .ref isFit, .ref breaks, .int mfit, .int known, .ref act, .ref wth, .ref facts, .ref pile, .int laid, .int hre, .int opnd, .int bad, .int usg, .ref trc, .int trcd, .int isP])), (row, .inl (xI G, 400, .inl row_f)), (errs, .inl (xI G, 7, .inl errs_f)), (act, .inl (xI G, 60, .inl act_f)), (wth, .inl (xI G, 60, .inl wth_f))] := hD
  refine lv_if_ne (tgt := 16) hx hb dX8_text_6 (by decide) (fun c6 => ?_) (fun c6 => ?_)
  · have hF := itN c6 hF
    refine lv_aload_n hx hb dX8_text_16 rfl (lv_at hl 0 rfl) ?_
    refine lv_iload_n hx hb dX8_text_17 rfl (lv_at hl 1 rfl) ?_
    refine va_put (ci := 8) (v := .int us) (ty := .int) (C := RX8) (T := TX8) (N := 24) hx hb hts (fun w h => tcons w (xin8 w h)) tyX8 tyX8_ok nmX8 hown hK hP hD hS 0 rfl rfl 20 (by decide) (hts _ (tcons _ m676)) (fun _ h9 => h9) rfl (by decide +kernel) rfl rfl (Nat.le_of_ble_eq_true rfl) dX8_text_18 (fun H locs hP hD hS => ?_)
    have hP : va_P G.1 vwCl [(t, .inr (8, [.ref row, .ref kpt, .int images, .ref errs, .ref bitsOf, .ref sizeOf, .ref cels, .ref broken, .ref isFit, .ref breaks, .int mfit, .int known, .ref act, .ref wth, .ref facts, .ref pile, .int laid, .int hre, .int opnd, .int bad, .int us, .ref trc, .int trcd, .int isP])), (row, .inl (xI G, 400, .inl row_f)), (errs, .inl (xI G, 7, .inl errs_f)), (act, .inl (xI G, 60, .inl act_f)), (wth, .inl (xI G, 60, .inl wth_f))] H := hP
    have hD : va_D A [(t, .inr (8, [.ref row, .ref kpt, .int images, .ref errs, .ref bitsOf, .ref sizeOf, .ref cels, .ref broken, .ref isFit, .ref breaks, .int mfit, .int known, .ref act, .ref wth, .ref facts, .ref pile, .int laid, .int hre, .int opnd, .int bad, .int us, .ref trc, .int trcd, .int isP])), (row, .inl (xI G, 400, .inl row_f)), (errs, .inl (xI G, 7, .inl errs_f)), (act, .inl (xI G, 60, .inl act_f)), (wth, .inl (xI G, 60, .inl wth_f))] := hD
    refine lv_aload_n hx hb dX8_text_21 rfl (lv_at hl 0 rfl) ?_
    refine lv_iconst (v := 0) hx hb dX8_text_22 (by decide) ?_
    refine va_put (ci := 8) (v := .int (0 : Int32)) (ty := .int) (C := RX8) (T := TX8) (N := 24) hx hb hts (fun w h => tcons w (xin8 w h)) tyX8 tyX8_ok nmX8 hown hK hP hD hS 0 rfl rfl 16 (by decide) (hts _ (tcons _ m677)) (fun _ h9 => h9) rfl (by decide +kernel) rfl rfl (Nat.le_of_ble_eq_true rfl) dX8_text_23 (fun H locs hP hD hS => ?_)
    have hP : va_P G.1 vwCl [(t, .inr (8, [.ref row, .ref kpt, .int images, .ref errs, .ref bitsOf, .ref sizeOf, .ref cels, .ref broken, .ref isFit, .ref breaks, .int mfit, .int known, .ref act, .ref wth, .ref facts, .ref pile, .int (0 : Int32), .int hre, .int opnd, .int bad, .int us, .ref trc, .int trcd, .int isP])), (row, .inl (xI G, 400, .inl row_f)), (errs, .inl (xI G, 7, .inl errs_f)), (act, .inl (xI G, 60, .inl act_f)), (wth, .inl (xI G, 60, .inl wth_f))] H := hP
    have hD : va_D A [(t, .inr (8, [.ref row, .ref kpt, .int images, .ref errs, .ref bitsOf, .ref sizeOf, .ref cels, .ref broken, .ref isFit, .ref breaks, .int mfit, .int known, .ref act, .ref wth, .ref facts, .ref pile, .int (0 : Int32), .int hre, .int opnd, .int bad, .int us, .ref trc, .int trcd, .int isP])), (row, .inl (xI G, 400, .inl row_f)), (errs, .inl (xI G, 7, .inl errs_f)), (act, .inl (xI G, 60, .inl act_f)), (wth, .inl (xI G, 60, .inl wth_f))] := hD
    refine lv_aload_n hx hb dX8_text_26 rfl (lv_at hl 0 rfl) ?_
    refine lv_iconst (v := 0) hx hb dX8_text_27 (by decide) ?_
    refine va_put (ci := 8) (v := .int (0 : Int32)) (ty := .int) (C := RX8) (T := TX8) (N := 24) hx hb hts (fun w h => tcons w (xin8 w h)) tyX8 tyX8_ok nmX8 hown hK hP hD hS 0 rfl rfl 17 (by decide) (hts _ (tcons _ m678)) (fun _ h9 => h9) rfl (by decide +kernel) rfl rfl (Nat.le_of_ble_eq_true rfl) dX8_text_28 (fun H locs hP hD hS => ?_)
    have hP : va_P G.1 vwCl [(t, .inr (8, [.ref row, .ref kpt, .int images, .ref errs, .ref bitsOf, .ref sizeOf, .ref cels, .ref broken, .ref isFit, .ref breaks, .int mfit, .int known, .ref act, .ref wth, .ref facts, .ref pile, .int (0 : Int32), .int (0 : Int32), .int opnd, .int bad, .int us, .ref trc, .int trcd, .int isP])), (row, .inl (xI G, 400, .inl row_f)), (errs, .inl (xI G, 7, .inl errs_f)), (act, .inl (xI G, 60, .inl act_f)), (wth, .inl (xI G, 60, .inl wth_f))] H := hP
    have hD : va_D A [(t, .inr (8, [.ref row, .ref kpt, .int images, .ref errs, .ref bitsOf, .ref sizeOf, .ref cels, .ref broken, .ref isFit, .ref breaks, .int mfit, .int known, .ref act, .ref wth, .ref facts, .ref pile, .int (0 : Int32), .int (0 : Int32), .int opnd, .int bad, .int us, .ref trc, .int trcd, .int isP])), (row, .inl (xI G, 400, .inl row_f)), (errs, .inl (xI G, 7, .inl errs_f)), (act, .inl (xI G, 60, .inl act_f)), (wth, .inl (xI G, 60, .inl wth_f))] := hD
    refine lv_aload_n hx hb dX8_text_31 rfl (lv_at hl 0 rfl) ?_
    refine lv_iconst (v := 0) hx hb dX8_text_32 (by decide) ?_
    refine va_put (ci := 8) (v := .int (0 : Int32)) (ty := .int) (C := RX8) (T := TX8) (N := 24) hx hb hts (fun w h => tcons w (xin8 w h)) tyX8 tyX8_ok nmX8 hown hK hP hD hS 0 rfl rfl 18 (by decide) (hts _ (tcons _ m679)) (fun _ h9 => h9) rfl (by decide +kernel) rfl rfl (Nat.le_of_ble_eq_true rfl) dX8_text_33 (fun H locs hP hD hS => ?_)
    have hP : va_P G.1 vwCl [(t, .inr (8, [.ref row, .ref kpt, .int images, .ref errs, .ref bitsOf, .ref sizeOf, .ref cels, .ref broken, .ref isFit, .ref breaks, .int mfit, .int known, .ref act, .ref wth, .ref facts, .ref pile, .int (0 : Int32), .int (0 : Int32), .int (0 : Int32), .int bad, .int us, .ref trc, .int trcd, .int isP])), (row, .inl (xI G, 400, .inl row_f)), (errs, .inl (xI G, 7, .inl errs_f)), (act, .inl (xI G, 60, .inl act_f)), (wth, .inl (xI G, 60, .inl wth_f))] H := hP
    have hD : va_D A [(t, .inr (8, [.ref row, .ref kpt, .int images, .ref errs, .ref bitsOf, .ref sizeOf, .ref cels, .ref broken, .ref isFit, .ref breaks, .int mfit, .int known, .ref act, .ref wth, .ref facts, .ref pile, .int (0 : Int32), .int (0 : Int32), .int (0 : Int32), .int bad, .int us, .ref trc, .int trcd, .int isP])), (row, .inl (xI G, 400, .inl row_f)), (errs, .inl (xI G, 7, .inl errs_f)), (act, .inl (xI G, 60, .inl act_f)), (wth, .inl (xI G, 60, .inl wth_f))] := hD
    refine lv_aload_n hx hb dX8_text_36 rfl (lv_at hl 0 rfl) ?_
    refine lv_iconst (v := 0) hx hb dX8_text_37 (by decide) ?_
    refine va_put (ci := 8) (v := .int (0 : Int32)) (ty := .boolean) (C := RX8) (T := TX8) (N := 24) hx hb hts (fun w h => tcons w (xin8 w h)) tyX8 tyX8_ok nmX8 hown hK hP hD hS 0 rfl rfl 19 (by decide) (hts _ (tcons _ m680)) (fun _ h9 => h9) rfl (by decide +kernel) (by decide) (by decide) (Nat.le_of_ble_eq_true rfl) dX8_text_38 (fun H locs hP hD hS => ?_)
    have hP : va_P G.1 vwCl [(t, .inr (8, [.ref row, .ref kpt, .int images, .ref errs, .ref bitsOf, .ref sizeOf, .ref cels, .ref broken, .ref isFit, .ref breaks, .int mfit, .int known, .ref act, .ref wth, .ref facts, .ref pile, .int (0 : Int32), .int (0 : Int32), .int (0 : Int32), .int (0 : Int32), .int us, .ref trc, .int trcd, .int isP])), (row, .inl (xI G, 400, .inl row_f)), (errs, .inl (xI G, 7, .inl errs_f)), (act, .inl (xI G, 60, .inl act_f)), (wth, .inl (xI G, 60, .inl wth_f))] H := hP
    have hD : va_D A [(t, .inr (8, [.ref row, .ref kpt, .int images, .ref errs, .ref bitsOf, .ref sizeOf, .ref cels, .ref broken, .ref isFit, .ref breaks, .int mfit, .int known, .ref act, .ref wth, .ref facts, .ref pile, .int (0 : Int32), .int (0 : Int32), .int (0 : Int32), .int (0 : Int32), .int us, .ref trc, .int trcd, .int isP])), (row, .inl (xI G, 400, .inl row_f)), (errs, .inl (xI G, 7, .inl errs_f)), (act, .inl (xI G, 60, .inl act_f)), (wth, .inl (xI G, 60, .inl wth_f))] := hD
    refine lv_aload_n hx hb dX8_text_41 rfl (lv_at hl 0 rfl) ?_
    obtain ⟨u2, e2, hF⟩ := bdS hF
    refine xEndV (xRunV (As := []) (rest := []) hZ (cz_X8_any G t row kpt errs bitsOf sizeOf cels broken isFit breaks act wth facts pile trc images mfit known (0 : Int32) (0 : Int32) (0 : Int32) (0 : Int32) us trcd isP row_f act_f wth_f u2 e2 l H.size) m681 m682 m683 m5 m684 0 ⟨rfl, hdX8_any⟩ ⟨Nat.le_of_ble_eq_true rfl, Nat.le_of_ble_eq_true rfl⟩ ⟨rfl, rfl⟩ hP hD hS 0 8 rfl rfl rfl [0, 1, 3, 4] rfl rfl rfl hl.1 rfl (Nat.le_of_ble_eq_true rfl) dX8_text_42 ⟨Nat.zero_le _, Nat.zero_le _⟩) hP hD hS hA [0, 1, 3, 4] rfl rfl rfl (fun H locs hP hD hS => ?_)
    have hP : va_P G.1 vwCl [(t, .inr (8, [.ref row, .ref kpt, .int images, .ref errs, .ref bitsOf, .ref sizeOf, .ref cels, .ref broken, .ref isFit, .ref breaks, .int mfit, .int known, .ref act, .ref wth, .ref facts, .ref pile, .int u2.1, .int u2.2.1, .int u2.2.2.1, .int u2.2.2.2.1, .int us, .ref trc, .int trcd, .int isP])), (row, .inl (xI G, 400, .inl row_f)), (errs, .inl (xI G, 7, .inl errs_f)), (act, .inl (xI G, 60, .inl u2.2.2.2.2.1)), (wth, .inl (xI G, 60, .inl u2.2.2.2.2.2))] H := hP
    have hD : va_D A [(t, .inr (8, [.ref row, .ref kpt, .int images, .ref errs, .ref bitsOf, .ref sizeOf, .ref cels, .ref broken, .ref isFit, .ref breaks, .int mfit, .int known, .ref act, .ref wth, .ref facts, .ref pile, .int u2.1, .int u2.2.1, .int u2.2.2.1, .int u2.2.2.2.1, .int us, .ref trc, .int trcd, .int isP])), (row, .inl (xI G, 400, .inl row_f)), (errs, .inl (xI G, 7, .inl errs_f)), (act, .inl (xI G, 60, .inl u2.2.2.2.2.1)), (wth, .inl (xI G, 60, .inl u2.2.2.2.2.2))] := hD
    refine lv_aload_n hx hb dX8_text_45 rfl (lv_at hl 0 rfl) ?_
    refine lv_aload_n hx hb dX8_text_46 rfl (lv_at hl 0 rfl) ?_
    refine va_get (ci := 8) (v := .int u2.2.2.2.1) (C := RX8) (T := TX8) (N := 24) hx hb hts (fun w h => tcons w (xin8 w h)) hown hK hP 0 rfl rfl 19 (by decide) (hts _ (tcons _ m680)) (fun _ h9 => h9) rfl dX8_text_47 ?_
    refine lv_if_ne (tgt := 67) hx hb dX8_text_50 (by decide) (fun c50 => ?_) (fun c50 => ?_)
    · have hF := itN c50 hF
      refine lv_iconst (v := 1) hx hb dX8_text_67 (by decide) ?_
      refine lv_goto (tgt := 72) hx hb dX8_text_68 (by decide) ?_
      refine va_put (ci := 8) (v := .int (1 : Int32)) (ty := .boolean) (C := RX8) (T := TX8) (N := 24) hx hb hts (fun w h => tcons w (xin8 w h)) tyX8 tyX8_ok nmX8 hown hK hP hD hS 0 rfl rfl 19 (by decide) (hts _ (tcons _ m680)) (fun _ h9 => h9) rfl (by decide +kernel) (by decide) (by decide) (Nat.le_of_ble_eq_true rfl) dX8_text_72 (fun H locs hP hD hS => ?_)
      have hP : va_P G.1 vwCl [(t, .inr (8, [.ref row, .ref kpt, .int images, .ref errs, .ref bitsOf, .ref sizeOf, .ref cels, .ref broken, .ref isFit, .ref breaks, .int mfit, .int known, .ref act, .ref wth, .ref facts, .ref pile, .int u2.1, .int u2.2.1, .int u2.2.2.1, .int (1 : Int32), .int us, .ref trc, .int trcd, .int isP])), (row, .inl (xI G, 400, .inl row_f)), (errs, .inl (xI G, 7, .inl errs_f)), (act, .inl (xI G, 60, .inl u2.2.2.2.2.1)), (wth, .inl (xI G, 60, .inl u2.2.2.2.2.2))] H := hP
      have hD : va_D A [(t, .inr (8, [.ref row, .ref kpt, .int images, .ref errs, .ref bitsOf, .ref sizeOf, .ref cels, .ref broken, .ref isFit, .ref breaks, .int mfit, .int known, .ref act, .ref wth, .ref facts, .ref pile, .int u2.1, .int u2.2.1, .int u2.2.2.1, .int (1 : Int32), .int us, .ref trc, .int trcd, .int isP])), (row, .inl (xI G, 400, .inl row_f)), (errs, .inl (xI G, 7, .inl errs_f)), (act, .inl (xI G, 60, .inl u2.2.2.2.2.1)), (wth, .inl (xI G, 60, .inl u2.2.2.2.2.2))] := hD
      refine lv_aload_n hx hb dX8_text_75 rfl (lv_at hl 0 rfl) ?_
      refine va_get (ci := 8) (v := .ref row) (C := RX8) (T := TX8) (N := 24) hx hb hts (fun w h => tcons w (xin8 w h)) hown hK hP 0 rfl rfl 0 (by decide) (hts _ (tcons _ m137)) (fun _ h9 => h9) rfl dX8_text_76 ?_
      refine lv_bipush (v := 6) hx hb dX8_text_79 (by decide) ?_
      refine lv_iconst (v := 0) hx hb dX8_text_81 (by decide) ?_
      refine va_iast hx hb hK hP hD hS 1 0 rfl rfl (by unfold vp_in; decide) dX8_text_82 (fun H locs hP hD hS => ?_)
      have hP : va_P G.1 vwCl [(t, .inr (8, [.ref row, .ref kpt, .int images, .ref errs, .ref bitsOf, .ref sizeOf, .ref cels, .ref broken, .ref isFit, .ref breaks, .int mfit, .int known, .ref act, .ref wth, .ref facts, .ref pile, .int u2.1, .int u2.2.1, .int u2.2.2.1, .int (1 : Int32), .int us, .ref trc, .int trcd, .int isP])), (row, .inl (xI G, 400, .inl (upd row_f (6 : Int32).toNatClampNeg (0 : Int32)))), (errs, .inl (xI G, 7, .inl errs_f)), (act, .inl (xI G, 60, .inl u2.2.2.2.2.1)), (wth, .inl (xI G, 60, .inl u2.2.2.2.2.2))] H := hP
      have hD : va_D A [(t, .inr (8, [.ref row, .ref kpt, .int images, .ref errs, .ref bitsOf, .ref sizeOf, .ref cels, .ref broken, .ref isFit, .ref breaks, .int mfit, .int known, .ref act, .ref wth, .ref facts, .ref pile, .int u2.1, .int u2.2.1, .int u2.2.2.1, .int (1 : Int32), .int us, .ref trc, .int trcd, .int isP])), (row, .inl (xI G, 400, .inl (upd row_f (6 : Int32).toNatClampNeg (0 : Int32)))), (errs, .inl (xI G, 7, .inl errs_f)), (act, .inl (xI G, 60, .inl u2.2.2.2.2.1)), (wth, .inl (xI G, 60, .inl u2.2.2.2.2.2))] := hD
      refine lv_aload_n hx hb dX8_text_83 rfl (lv_at hl 0 rfl) ?_
      refine va_get (ci := 8) (v := .int (1 : Int32)) (C := RX8) (T := TX8) (N := 24) hx hb hts (fun w h => tcons w (xin8 w h)) hown hK hP 0 rfl rfl 19 (by decide) (hts _ (tcons _ m680)) (fun _ h9 => h9) rfl dX8_text_84 ?_
      refine lv_if_eq (tgt := 98) hx hb dX8_text_87 (by decide) (fun c87 => absurd c87 (by decide)) (fun c87 => ?_)
      refine lv_bipush (v := -10) hx hb dX8_text_90 (by decide) ?_
      refine lv_aload_n hx hb dX8_text_92 rfl (lv_at hl 0 rfl) ?_
      refine va_get (ci := 8) (v := .int u2.2.1) (C := RX8) (T := TX8) (N := 24) hx hb hts (fun w h => tcons w (xin8 w h)) hown hK hP 0 rfl rfl 17 (by decide) (hts _ (tcons _ m678)) (fun _ h9 => h9) rfl dX8_text_93 ?_
      refine lv_isub hx hb dX8_text_96 ?_
      obtain rfl := Option.some.inj hF
      rw [← hQ]
      exact W.iret (v := ((-10 : Int32) - u2.2.1)) hx hb hr (fun t ht hW => ⟨⟨_, (), rfl, ⟨rfl, rfl⟩, xLf hP ht⟩, hS.F ht⟩) hS.2.2 dX8_text_97
    · have hF := itP c50 hF
      refine lv_aload_n hx hb dX8_text_53 rfl (lv_at hl 0 rfl) ?_
      refine va_get (ci := 8) (v := .int u2.2.1) (C := RX8) (T := TX8) (N := 24) hx hb hts (fun w h => tcons w (xin8 w h)) hown hK hP 0 rfl rfl 17 (by decide) (hts _ (tcons _ m678)) (fun _ h9 => h9) rfl dX8_text_54 ?_
      refine lv_aload_n hx hb dX8_text_57 rfl (lv_at hl 0 rfl) ?_
      refine va_get (ci := 8) (v := .ref row) (C := RX8) (T := TX8) (N := 24) hx hb hts (fun w h => tcons w (xin8 w h)) hown hK hP 0 rfl rfl 0 (by decide) (hts _ (tcons _ m137)) (fun _ h9 => h9) rfl dX8_text_58 ?_
      refine lv_bipush (v := 6) hx hb dX8_text_61 (by decide) ?_
      refine va_iald hx hb hK hP 1 0 rfl rfl (by unfold vp_in; decide) dX8_text_63 ?_
      refine lv_icmp_ge (tgt := 71) hx hb dX8_text_64 (by decide) (fun c64 => ?_) (fun c64 => ?_)
      · have hF := itP c64 hF
        refine lv_iconst (v := 0) hx hb dX8_text_71 (by decide) ?_
        refine va_put (ci := 8) (v := .int (0 : Int32)) (ty := .boolean) (C := RX8) (T := TX8) (N := 24) hx hb hts (fun w h => tcons w (xin8 w h)) tyX8 tyX8_ok nmX8 hown hK hP hD hS 0 rfl rfl 19 (by decide) (hts _ (tcons _ m680)) (fun _ h9 => h9) rfl (by decide +kernel) (by decide) (by decide) (Nat.le_of_ble_eq_true rfl) dX8_text_72 (fun H locs hP hD hS => ?_)
        have hP : va_P G.1 vwCl [(t, .inr (8, [.ref row, .ref kpt, .int images, .ref errs, .ref bitsOf, .ref sizeOf, .ref cels, .ref broken, .ref isFit, .ref breaks, .int mfit, .int known, .ref act, .ref wth, .ref facts, .ref pile, .int u2.1, .int u2.2.1, .int u2.2.2.1, .int (0 : Int32), .int us, .ref trc, .int trcd, .int isP])), (row, .inl (xI G, 400, .inl row_f)), (errs, .inl (xI G, 7, .inl errs_f)), (act, .inl (xI G, 60, .inl u2.2.2.2.2.1)), (wth, .inl (xI G, 60, .inl u2.2.2.2.2.2))] H := hP
        have hD : va_D A [(t, .inr (8, [.ref row, .ref kpt, .int images, .ref errs, .ref bitsOf, .ref sizeOf, .ref cels, .ref broken, .ref isFit, .ref breaks, .int mfit, .int known, .ref act, .ref wth, .ref facts, .ref pile, .int u2.1, .int u2.2.1, .int u2.2.2.1, .int (0 : Int32), .int us, .ref trc, .int trcd, .int isP])), (row, .inl (xI G, 400, .inl row_f)), (errs, .inl (xI G, 7, .inl errs_f)), (act, .inl (xI G, 60, .inl u2.2.2.2.2.1)), (wth, .inl (xI G, 60, .inl u2.2.2.2.2.2))] := hD
        refine lv_aload_n hx hb dX8_text_75 rfl (lv_at hl 0 rfl) ?_
        refine va_get (ci := 8) (v := .ref row) (C := RX8) (T := TX8) (N := 24) hx hb hts (fun w h => tcons w (xin8 w h)) hown hK hP 0 rfl rfl 0 (by decide) (hts _ (tcons _ m137)) (fun _ h9 => h9) rfl dX8_text_76 ?_
        refine lv_bipush (v := 6) hx hb dX8_text_79 (by decide) ?_
        refine lv_iconst (v := 0) hx hb dX8_text_81 (by decide) ?_
        refine va_iast hx hb hK hP hD hS 1 0 rfl rfl (by unfold vp_in; decide) dX8_text_82 (fun H locs hP hD hS => ?_)
        have hP : va_P G.1 vwCl [(t, .inr (8, [.ref row, .ref kpt, .int images, .ref errs, .ref bitsOf, .ref sizeOf, .ref cels, .ref broken, .ref isFit, .ref breaks, .int mfit, .int known, .ref act, .ref wth, .ref facts, .ref pile, .int u2.1, .int u2.2.1, .int u2.2.2.1, .int (0 : Int32), .int us, .ref trc, .int trcd, .int isP])), (row, .inl (xI G, 400, .inl (upd row_f (6 : Int32).toNatClampNeg (0 : Int32)))), (errs, .inl (xI G, 7, .inl errs_f)), (act, .inl (xI G, 60, .inl u2.2.2.2.2.1)), (wth, .inl (xI G, 60, .inl u2.2.2.2.2.2))] H := hP
        have hD : va_D A [(t, .inr (8, [.ref row, .ref kpt, .int images, .ref errs, .ref bitsOf, .ref sizeOf, .ref cels, .ref broken, .ref isFit, .ref breaks, .int mfit, .int known, .ref act, .ref wth, .ref facts, .ref pile, .int u2.1, .int u2.2.1, .int u2.2.2.1, .int (0 : Int32), .int us, .ref trc, .int trcd, .int isP])), (row, .inl (xI G, 400, .inl (upd row_f (6 : Int32).toNatClampNeg (0 : Int32)))), (errs, .inl (xI G, 7, .inl errs_f)), (act, .inl (xI G, 60, .inl u2.2.2.2.2.1)), (wth, .inl (xI G, 60, .inl u2.2.2.2.2.2))] := hD
        refine lv_aload_n hx hb dX8_text_83 rfl (lv_at hl 0 rfl) ?_
        refine va_get (ci := 8) (v := .int (0 : Int32)) (C := RX8) (T := TX8) (N := 24) hx hb hts (fun w h => tcons w (xin8 w h)) hown hK hP 0 rfl rfl 19 (by decide) (hts _ (tcons _ m680)) (fun _ h9 => h9) rfl dX8_text_84 ?_
        refine lv_if_eq (tgt := 98) hx hb dX8_text_87 (by decide) (fun c87 => ?_) (fun c87 => absurd (by decide) c87)
        refine lv_sipush (v := 158) hx hb dX8_text_98 (by decide) ?_
        refine lv_bipush (v := 121) hx hb dX8_text_101 (by decide) ?_
        refine lv_iload_n hx hb dX8_text_103 rfl (lv_at hl 1 rfl) ?_
        refine lv_imul hx hb dX8_text_104 ?_
        refine lv_iadd hx hb dX8_text_105 ?_
        refine lv_istore_n (lv' := [(2, .int ((158 : Int32) + ((121 : Int32) * us))), (0, .ref t), (1, .int us)]) hx hb dX8_text_106 rfl hl (by decide) rfl (fun ls hl => ?_)
        refine lv_aload_n hx hb dX8_text_107 rfl (lv_at hl 1 rfl) ?_
        refine va_get (ci := 8) (v := .ref row) (C := RX8) (T := TX8) (N := 24) hx hb hts (fun w h => tcons w (xin8 w h)) hown hK hP 0 rfl rfl 0 (by decide) (hts _ (tcons _ m137)) (fun _ h9 => h9) rfl dX8_text_108 ?_
        refine lv_iload_n hx hb dX8_text_111 rfl (lv_at hl 0 rfl) ?_
        refine lv_aload_n hx hb dX8_text_112 rfl (lv_at hl 1 rfl) ?_
        refine va_get (ci := 8) (v := .int u2.1) (C := RX8) (T := TX8) (N := 24) hx hb hts (fun w h => tcons w (xin8 w h)) hown hK hP 0 rfl rfl 16 (by decide) (hts _ (tcons _ m677)) (fun _ h9 => h9) rfl dX8_text_113 ?_
        obtain ⟨g116, hF⟩ := gdS hF
        refine va_iast hx hb hK hP hD hS 1 0 rfl rfl g116 dX8_text_116 (fun H locs hP hD hS => ?_)
        have hP : va_P G.1 vwCl [(t, .inr (8, [.ref row, .ref kpt, .int images, .ref errs, .ref bitsOf, .ref sizeOf, .ref cels, .ref broken, .ref isFit, .ref breaks, .int mfit, .int known, .ref act, .ref wth, .ref facts, .ref pile, .int u2.1, .int u2.2.1, .int u2.2.2.1, .int (0 : Int32), .int us, .ref trc, .int trcd, .int isP])), (row, .inl (xI G, 400, .inl (upd (upd row_f (6 : Int32).toNatClampNeg (0 : Int32)) ((158 : Int32) + ((121 : Int32) * us)).toNatClampNeg u2.1))), (errs, .inl (xI G, 7, .inl errs_f)), (act, .inl (xI G, 60, .inl u2.2.2.2.2.1)), (wth, .inl (xI G, 60, .inl u2.2.2.2.2.2))] H := hP
        have hD : va_D A [(t, .inr (8, [.ref row, .ref kpt, .int images, .ref errs, .ref bitsOf, .ref sizeOf, .ref cels, .ref broken, .ref isFit, .ref breaks, .int mfit, .int known, .ref act, .ref wth, .ref facts, .ref pile, .int u2.1, .int u2.2.1, .int u2.2.2.1, .int (0 : Int32), .int us, .ref trc, .int trcd, .int isP])), (row, .inl (xI G, 400, .inl (upd (upd row_f (6 : Int32).toNatClampNeg (0 : Int32)) ((158 : Int32) + ((121 : Int32) * us)).toNatClampNeg u2.1))), (errs, .inl (xI G, 7, .inl errs_f)), (act, .inl (xI G, 60, .inl u2.2.2.2.2.1)), (wth, .inl (xI G, 60, .inl u2.2.2.2.2.2))] := hD
        refine lv_iconst (v := 0) hx hb dX8_text_117 (by decide) ?_
        refine lv_istore_n (lv' := [(3, .int (0 : Int32)), (2, .int ((158 : Int32) + ((121 : Int32) * us))), (0, .ref t), (1, .int us)]) hx hb dX8_text_118 rfl hl (by decide) rfl (fun ls hl => ?_)
        refine xLoop2 (body := (B_X8_text_119 errs_f us u2)) (fun (v119_0 : Int32) (v119_1 : Nat → Int32) H locs ls => va_P G.1 vwCl [(t, .inr (8, [.ref row, .ref kpt, .int images, .ref errs, .ref bitsOf, .ref sizeOf, .ref cels, .ref broken, .ref isFit, .ref breaks, .int mfit, .int known, .ref act, .ref wth, .ref facts, .ref pile, .int u2.1, .int u2.2.1, .int u2.2.2.1, .int (0 : Int32), .int us, .ref trc, .int trcd, .int isP])), (row, .inl (xI G, 400, .inl v119_1)), (errs, .inl (xI G, 7, .inl errs_f)), (act, .inl (xI G, 60, .inl u2.2.2.2.2.1)), (wth, .inl (xI G, 60, .inl u2.2.2.2.2.2))] H ∧ va_D A [(t, .inr (8, [.ref row, .ref kpt, .int images, .ref errs, .ref bitsOf, .ref sizeOf, .ref cels, .ref broken, .ref isFit, .ref breaks, .int mfit, .int known, .ref act, .ref wth, .ref facts, .ref pile, .int u2.1, .int u2.2.1, .int u2.2.2.1, .int (0 : Int32), .int us, .ref trc, .int trcd, .int isP])), (row, .inl (xI G, 400, .inl v119_1)), (errs, .inl (xI G, 7, .inl errs_f)), (act, .inl (xI G, 60, .inl u2.2.2.2.2.1)), (wth, .inl (xI G, 60, .inl u2.2.2.2.2.2))] ∧ va_S A s.heap H locs ∧ lv_has ls 4 [(0, .ref t), (1, .int us), (2, .int ((158 : Int32) + ((121 : Int32) * us))), (3, .int v119_0)]) (fun N119 v119_0 v119_1 ih119 H locs ls hI hF => ?_) fuelC (0 : Int32) (upd (upd row_f (6 : Int32).toNatClampNeg (0 : Int32)) ((158 : Int32) + ((121 : Int32) * us)).toNatClampNeg u2.1) H locs ls ⟨hP, hD, hS, lv_sub hl [2, 3, 1, 0] rfl⟩ hF
        obtain ⟨hP, hD, hS, hl⟩ := hI
        unfold B_X8_text_119 at hF
        refine lv_iload_n hx hb dX8_text_119 rfl (lv_at hl 3 rfl) ?_
        refine lv_aload_n hx hb dX8_text_120 rfl (lv_at hl 0 rfl) ?_
        refine va_get (ci := 8) (v := .int u2.1) (C := RX8) (T := TX8) (N := 24) hx hb hts (fun w h => tcons w (xin8 w h)) hown hK hP 0 rfl rfl 16 (by decide) (hts _ (tcons _ m677)) (fun _ h9 => h9) rfl dX8_text_121 ?_
        refine lv_icmp_ge (tgt := 166) hx hb dX8_text_124 (by decide) (fun c124 => ?_) (fun c124 => ?_)
        · have hF := itP c124 hF
          refine lv_iconst (v := 1) hx hb dX8_text_166 (by decide) ?_
          obtain rfl := Option.some.inj hF
          rw [← hQ]
          exact W.iret (v := (1 : Int32)) hx hb hr (fun t ht hW => ⟨⟨_, (), rfl, ⟨rfl, rfl⟩, xLf hP ht⟩, hS.F ht⟩) hS.2.2 dX8_text_167
        · have hF := itN c124 hF
          refine lv_aload_n hx hb dX8_text_127 rfl (lv_at hl 0 rfl) ?_
          refine va_get (ci := 8) (v := .ref row) (C := RX8) (T := TX8) (N := 24) hx hb hts (fun w h => tcons w (xin8 w h)) hown hK hP 0 rfl rfl 0 (by decide) (hts _ (tcons _ m137)) (fun _ h9 => h9) rfl dX8_text_128 ?_
          refine lv_iload_n hx hb dX8_text_131 rfl (lv_at hl 2 rfl) ?_
          refine lv_iconst (v := 1) hx hb dX8_text_132 (by decide) ?_
          refine lv_iadd hx hb dX8_text_133 ?_
          refine lv_iload_n hx hb dX8_text_134 rfl (lv_at hl 3 rfl) ?_
          refine lv_iadd hx hb dX8_text_135 ?_
          refine lv_aload_n hx hb dX8_text_136 rfl (lv_at hl 0 rfl) ?_
          refine va_get (ci := 8) (v := .ref act) (C := RX8) (T := TX8) (N := 24) hx hb hts (fun w h => tcons w (xin8 w h)) hown hK hP 0 rfl rfl 12 (by decide) (hts _ (tcons _ m146)) (fun _ h9 => h9) rfl dX8_text_137 ?_
          refine lv_iload_n hx hb dX8_text_140 rfl (lv_at hl 3 rfl) ?_
          obtain ⟨g141, hF⟩ := gdS hF
          refine va_iald hx hb hK hP 3 0 rfl rfl g141 dX8_text_141 ?_
          obtain ⟨g142, hF⟩ := gdS hF
          refine va_iast hx hb hK hP hD hS 1 0 rfl rfl g142 dX8_text_142 (fun H locs hP hD hS => ?_)
          have hP : va_P G.1 vwCl [(t, .inr (8, [.ref row, .ref kpt, .int images, .ref errs, .ref bitsOf, .ref sizeOf, .ref cels, .ref broken, .ref isFit, .ref breaks, .int mfit, .int known, .ref act, .ref wth, .ref facts, .ref pile, .int u2.1, .int u2.2.1, .int u2.2.2.1, .int (0 : Int32), .int us, .ref trc, .int trcd, .int isP])), (row, .inl (xI G, 400, .inl (upd v119_1 ((((158 : Int32) + ((121 : Int32) * us)) + (1 : Int32)) + v119_0).toNatClampNeg (u2.2.2.2.2.1 v119_0.toNatClampNeg)))), (errs, .inl (xI G, 7, .inl errs_f)), (act, .inl (xI G, 60, .inl u2.2.2.2.2.1)), (wth, .inl (xI G, 60, .inl u2.2.2.2.2.2))] H := hP
          have hD : va_D A [(t, .inr (8, [.ref row, .ref kpt, .int images, .ref errs, .ref bitsOf, .ref sizeOf, .ref cels, .ref broken, .ref isFit, .ref breaks, .int mfit, .int known, .ref act, .ref wth, .ref facts, .ref pile, .int u2.1, .int u2.2.1, .int u2.2.2.1, .int (0 : Int32), .int us, .ref trc, .int trcd, .int isP])), (row, .inl (xI G, 400, .inl (upd v119_1 ((((158 : Int32) + ((121 : Int32) * us)) + (1 : Int32)) + v119_0).toNatClampNeg (u2.2.2.2.2.1 v119_0.toNatClampNeg)))), (errs, .inl (xI G, 7, .inl errs_f)), (act, .inl (xI G, 60, .inl u2.2.2.2.2.1)), (wth, .inl (xI G, 60, .inl u2.2.2.2.2.2))] := hD
          refine lv_aload_n hx hb dX8_text_143 rfl (lv_at hl 0 rfl) ?_
          refine va_get (ci := 8) (v := .ref row) (C := RX8) (T := TX8) (N := 24) hx hb hts (fun w h => tcons w (xin8 w h)) hown hK hP 0 rfl rfl 0 (by decide) (hts _ (tcons _ m137)) (fun _ h9 => h9) rfl dX8_text_144 ?_
          refine lv_iload_n hx hb dX8_text_147 rfl (lv_at hl 2 rfl) ?_
          refine lv_bipush (v := 61) hx hb dX8_text_148 (by decide) ?_
          refine lv_iadd hx hb dX8_text_150 ?_
          refine lv_iload_n hx hb dX8_text_151 rfl (lv_at hl 3 rfl) ?_
          refine lv_iadd hx hb dX8_text_152 ?_
          refine lv_aload_n hx hb dX8_text_153 rfl (lv_at hl 0 rfl) ?_
          refine va_get (ci := 8) (v := .ref wth) (C := RX8) (T := TX8) (N := 24) hx hb hts (fun w h => tcons w (xin8 w h)) hown hK hP 0 rfl rfl 13 (by decide) (hts _ (tcons _ m147)) (fun _ h9 => h9) rfl dX8_text_154 ?_
          refine lv_iload_n hx hb dX8_text_157 rfl (lv_at hl 3 rfl) ?_
          obtain ⟨g158, hF⟩ := gdS hF
          refine va_iald hx hb hK hP 4 0 rfl rfl g158 dX8_text_158 ?_
          obtain ⟨g159, hF⟩ := gdS hF
          refine va_iast hx hb hK hP hD hS 1 0 rfl rfl g159 dX8_text_159 (fun H locs hP hD hS => ?_)
          have hP : va_P G.1 vwCl [(t, .inr (8, [.ref row, .ref kpt, .int images, .ref errs, .ref bitsOf, .ref sizeOf, .ref cels, .ref broken, .ref isFit, .ref breaks, .int mfit, .int known, .ref act, .ref wth, .ref facts, .ref pile, .int u2.1, .int u2.2.1, .int u2.2.2.1, .int (0 : Int32), .int us, .ref trc, .int trcd, .int isP])), (row, .inl (xI G, 400, .inl (upd (upd v119_1 ((((158 : Int32) + ((121 : Int32) * us)) + (1 : Int32)) + v119_0).toNatClampNeg (u2.2.2.2.2.1 v119_0.toNatClampNeg)) ((((158 : Int32) + ((121 : Int32) * us)) + (61 : Int32)) + v119_0).toNatClampNeg (u2.2.2.2.2.2 v119_0.toNatClampNeg)))), (errs, .inl (xI G, 7, .inl errs_f)), (act, .inl (xI G, 60, .inl u2.2.2.2.2.1)), (wth, .inl (xI G, 60, .inl u2.2.2.2.2.2))] H := hP
          have hD : va_D A [(t, .inr (8, [.ref row, .ref kpt, .int images, .ref errs, .ref bitsOf, .ref sizeOf, .ref cels, .ref broken, .ref isFit, .ref breaks, .int mfit, .int known, .ref act, .ref wth, .ref facts, .ref pile, .int u2.1, .int u2.2.1, .int u2.2.2.1, .int (0 : Int32), .int us, .ref trc, .int trcd, .int isP])), (row, .inl (xI G, 400, .inl (upd (upd v119_1 ((((158 : Int32) + ((121 : Int32) * us)) + (1 : Int32)) + v119_0).toNatClampNeg (u2.2.2.2.2.1 v119_0.toNatClampNeg)) ((((158 : Int32) + ((121 : Int32) * us)) + (61 : Int32)) + v119_0).toNatClampNeg (u2.2.2.2.2.2 v119_0.toNatClampNeg)))), (errs, .inl (xI G, 7, .inl errs_f)), (act, .inl (xI G, 60, .inl u2.2.2.2.2.1)), (wth, .inl (xI G, 60, .inl u2.2.2.2.2.2))] := hD
          refine lv_iinc (v := (v119_0 + (1 : Int32))) (lv' := [(3, .int (v119_0 + (1 : Int32))), (0, .ref t), (1, .int us), (2, .int ((158 : Int32) + ((121 : Int32) * us)))]) hx hb dX8_text_160 hl (k := 3) rfl (xInc_1 _) (by decide) rfl (fun ls hl => ?_)
          refine lv_goto (tgt := 119) hx hb dX8_text_163 (by decide) ?_
          exact ih119 (v119_0 + (1 : Int32)) (upd (upd v119_1 ((((158 : Int32) + ((121 : Int32) * us)) + (1 : Int32)) + v119_0).toNatClampNeg (u2.2.2.2.2.1 v119_0.toNatClampNeg)) ((((158 : Int32) + ((121 : Int32) * us)) + (61 : Int32)) + v119_0).toNatClampNeg (u2.2.2.2.2.2 v119_0.toNatClampNeg)) H locs ls ⟨hP, hD, hS, lv_sub hl [1, 2, 3, 0] rfl⟩ hF
      · have hF := itN c64 hF
        refine lv_iconst (v := 1) hx hb dX8_text_67 (by decide) ?_
        refine lv_goto (tgt := 72) hx hb dX8_text_68 (by decide) ?_
        refine va_put (ci := 8) (v := .int (1 : Int32)) (ty := .boolean) (C := RX8) (T := TX8) (N := 24) hx hb hts (fun w h => tcons w (xin8 w h)) tyX8 tyX8_ok nmX8 hown hK hP hD hS 0 rfl rfl 19 (by decide) (hts _ (tcons _ m680)) (fun _ h9 => h9) rfl (by decide +kernel) (by decide) (by decide) (Nat.le_of_ble_eq_true rfl) dX8_text_72 (fun H locs hP hD hS => ?_)
        have hP : va_P G.1 vwCl [(t, .inr (8, [.ref row, .ref kpt, .int images, .ref errs, .ref bitsOf, .ref sizeOf, .ref cels, .ref broken, .ref isFit, .ref breaks, .int mfit, .int known, .ref act, .ref wth, .ref facts, .ref pile, .int u2.1, .int u2.2.1, .int u2.2.2.1, .int (1 : Int32), .int us, .ref trc, .int trcd, .int isP])), (row, .inl (xI G, 400, .inl row_f)), (errs, .inl (xI G, 7, .inl errs_f)), (act, .inl (xI G, 60, .inl u2.2.2.2.2.1)), (wth, .inl (xI G, 60, .inl u2.2.2.2.2.2))] H := hP
        have hD : va_D A [(t, .inr (8, [.ref row, .ref kpt, .int images, .ref errs, .ref bitsOf, .ref sizeOf, .ref cels, .ref broken, .ref isFit, .ref breaks, .int mfit, .int known, .ref act, .ref wth, .ref facts, .ref pile, .int u2.1, .int u2.2.1, .int u2.2.2.1, .int (1 : Int32), .int us, .ref trc, .int trcd, .int isP])), (row, .inl (xI G, 400, .inl row_f)), (errs, .inl (xI G, 7, .inl errs_f)), (act, .inl (xI G, 60, .inl u2.2.2.2.2.1)), (wth, .inl (xI G, 60, .inl u2.2.2.2.2.2))] := hD
        refine lv_aload_n hx hb dX8_text_75 rfl (lv_at hl 0 rfl) ?_
        refine va_get (ci := 8) (v := .ref row) (C := RX8) (T := TX8) (N := 24) hx hb hts (fun w h => tcons w (xin8 w h)) hown hK hP 0 rfl rfl 0 (by decide) (hts _ (tcons _ m137)) (fun _ h9 => h9) rfl dX8_text_76 ?_
        refine lv_bipush (v := 6) hx hb dX8_text_79 (by decide) ?_
        refine lv_iconst (v := 0) hx hb dX8_text_81 (by decide) ?_
        refine va_iast hx hb hK hP hD hS 1 0 rfl rfl (by unfold vp_in; decide) dX8_text_82 (fun H locs hP hD hS => ?_)
        have hP : va_P G.1 vwCl [(t, .inr (8, [.ref row, .ref kpt, .int images, .ref errs, .ref bitsOf, .ref sizeOf, .ref cels, .ref broken, .ref isFit, .ref breaks, .int mfit, .int known, .ref act, .ref wth, .ref facts, .ref pile, .int u2.1, .int u2.2.1, .int u2.2.2.1, .int (1 : Int32), .int us, .ref trc, .int trcd, .int isP])), (row, .inl (xI G, 400, .inl (upd row_f (6 : Int32).toNatClampNeg (0 : Int32)))), (errs, .inl (xI G, 7, .inl errs_f)), (act, .inl (xI G, 60, .inl u2.2.2.2.2.1)), (wth, .inl (xI G, 60, .inl u2.2.2.2.2.2))] H := hP
        have hD : va_D A [(t, .inr (8, [.ref row, .ref kpt, .int images, .ref errs, .ref bitsOf, .ref sizeOf, .ref cels, .ref broken, .ref isFit, .ref breaks, .int mfit, .int known, .ref act, .ref wth, .ref facts, .ref pile, .int u2.1, .int u2.2.1, .int u2.2.2.1, .int (1 : Int32), .int us, .ref trc, .int trcd, .int isP])), (row, .inl (xI G, 400, .inl (upd row_f (6 : Int32).toNatClampNeg (0 : Int32)))), (errs, .inl (xI G, 7, .inl errs_f)), (act, .inl (xI G, 60, .inl u2.2.2.2.2.1)), (wth, .inl (xI G, 60, .inl u2.2.2.2.2.2))] := hD
        refine lv_aload_n hx hb dX8_text_83 rfl (lv_at hl 0 rfl) ?_
        refine va_get (ci := 8) (v := .int (1 : Int32)) (C := RX8) (T := TX8) (N := 24) hx hb hts (fun w h => tcons w (xin8 w h)) hown hK hP 0 rfl rfl 19 (by decide) (hts _ (tcons _ m680)) (fun _ h9 => h9) rfl dX8_text_84 ?_
        refine lv_if_eq (tgt := 98) hx hb dX8_text_87 (by decide) (fun c87 => absurd c87 (by decide)) (fun c87 => ?_)
        refine lv_bipush (v := -10) hx hb dX8_text_90 (by decide) ?_
        refine lv_aload_n hx hb dX8_text_92 rfl (lv_at hl 0 rfl) ?_
        refine va_get (ci := 8) (v := .int u2.2.1) (C := RX8) (T := TX8) (N := 24) hx hb hts (fun w h => tcons w (xin8 w h)) hown hK hP 0 rfl rfl 17 (by decide) (hts _ (tcons _ m678)) (fun _ h9 => h9) rfl dX8_text_93 ?_
        refine lv_isub hx hb dX8_text_96 ?_
        obtain rfl := Option.some.inj hF
        rw [← hQ]
        exact W.iret (v := ((-10 : Int32) - u2.2.1)) hx hb hr (fun t ht hW => ⟨⟨_, (), rfl, ⟨rfl, rfl⟩, xLf hP ht⟩, hS.F ht⟩) hS.2.2 dX8_text_97
  · have hF := itP c6 hF
    refine lv_aload_n hx hb dX8_text_9 rfl (lv_at hl 0 rfl) ?_
    refine lv_ldc (v := -1000000001) hx hb hown (hts _ (tcons _ m185)) dX8_text_10 ?_
    obtain ⟨u2, e2, hF⟩ := bdS hF
    refine xEndI (xRunV (As := [.int (-1000000001 : Int32)]) (rest := []) hZ (c_X8_error G t row kpt errs bitsOf sizeOf cels broken isFit breaks act wth facts pile trc images mfit known laid hre opnd bad usg trcd isP errs_f (-1000000001 : Int32) u2 e2 l H.size) m193 m194 m195 m5 m196 1 ⟨rfl, hdX8_error⟩ ⟨Nat.le_of_ble_eq_true rfl, Nat.le_of_ble_eq_true rfl⟩ ⟨rfl, rfl⟩ hP hD hS 0 8 rfl rfl rfl [0, 2] rfl rfl rfl hl.1 rfl (Nat.le_of_ble_eq_true rfl) dX8_text_12 ⟨Nat.zero_le _, Nat.zero_le _⟩) hP hD hS hA [0, 2] rfl rfl rfl (fun H locs n2 hP hD hS => ?_)
    have hP : va_P G.1 vwCl [(t, .inr (8, [.ref row, .ref kpt, .int images, .ref errs, .ref bitsOf, .ref sizeOf, .ref cels, .ref broken, .ref isFit, .ref breaks, .int mfit, .int known, .ref act, .ref wth, .ref facts, .ref pile, .int laid, .int hre, .int opnd, .int bad, .int usg, .ref trc, .int trcd, .int isP])), (row, .inl (xI G, 400, .inl row_f)), (errs, .inl (xI G, 7, .inl u2.2)), (act, .inl (xI G, 60, .inl act_f)), (wth, .inl (xI G, 60, .inl wth_f))] H := hP
    have hD : va_D A [(t, .inr (8, [.ref row, .ref kpt, .int images, .ref errs, .ref bitsOf, .ref sizeOf, .ref cels, .ref broken, .ref isFit, .ref breaks, .int mfit, .int known, .ref act, .ref wth, .ref facts, .ref pile, .int laid, .int hre, .int opnd, .int bad, .int usg, .ref trc, .int trcd, .int isP])), (row, .inl (xI G, 400, .inl row_f)), (errs, .inl (xI G, 7, .inl u2.2)), (act, .inl (xI G, 60, .inl act_f)), (wth, .inl (xI G, 60, .inl wth_f))] := hD
    obtain rfl := Option.some.inj hF
    rw [← hQ]
    exact W.iret (v := u2.1) hx hb hr (fun t ht hW => ⟨⟨_, (), rfl, ⟨rfl, rfl⟩, xLf hP ht⟩, hS.F ht⟩) hS.2.2 dX8_text_15
def F_X8_untell (row_f : Nat → Int32) (errs_f : Nat → Int32) (us : Int32) : Option (Int32 × (Nat → Int32) × (Nat → Int32)) := bd (F_X8_in us (0 : Int32) (1 : Int32)) (fun (u1 : Int32) => if u1 = 0 then (bd (F_X8_error errs_f (-1000000001 : Int32)) (fun (u2 : (Int32 × (Nat → Int32))) => some (u2.1, row_f, u2.2))) else (bd (F_X8_becomes row_f ((158 : Int32) + ((121 : Int32) * us)) (0 : Int32)) (fun (u2 : (Int32 × (Nat → Int32))) => if u2.1 ≤ 0 then (some ((0 : Int32), u2.2, errs_f)) else (some ((1 : Int32), u2.2, errs_f)))))
theorem hdX8_untell : yX8_untell.cls ≠ "java/lang/invoke/MethodHandle" ∧ yX8_untell.cls ≠ "java/lang/invoke/VarHandle" ∧ (parseMethodDescriptor yX8_untell.desc).map (fun d => d.parameters.length) = some 1 := by decide +kernel
set_option maxHeartbeats 4000000 in
set_option maxRecDepth 100000 in
theorem c_X8_untell (G : xG) (t : Nat) (row : Nat) (kpt : Nat) (errs : Nat) (bitsOf : Nat) (sizeOf : Nat) (cels : Nat) (broken : Nat) (isFit : Nat) (breaks : Nat) (act : Nat) (wth : Nat) (facts : Nat) (pile : Nat) (trc : Nat) (images : Int32) (mfit : Int32) (known : Int32) (laid : Int32) (hre : Int32) (opnd : Int32) (bad : Int32) (usg : Int32) (trcd : Int32) (isP : Int32) (row_f : Nat → Int32) (errs_f : Nat → Int32) (us : Int32)  (u : (Int32 × (Nat → Int32) × (Nat → Int32))) (hF : F_X8_untell row_f errs_f us = some u) : Ki G .int yX8_untell (Cond.code yX8_untell cX8_untell 2 (some .int) :: TBL) { frames := 1, cells := 0, slots := 0, locals := 23 } [.ref t, .int us] [(t, .inr (8, [.ref row, .ref kpt, .int images, .ref errs, .ref bitsOf, .ref sizeOf, .ref cels, .ref broken, .ref isFit, .ref breaks, .int mfit, .int known, .ref act, .ref wth, .ref facts, .ref pile, .int laid, .int hre, .int opnd, .int bad, .int usg, .ref trc, .int trcd, .int isP])), (row, .inl (xI G, 400, .inl row_f)), (errs, .inl (xI G, 7, .inl errs_f))] [(t, .inr (8, [.ref row, .ref kpt, .int images, .ref errs, .ref bitsOf, .ref sizeOf, .ref cels, .ref broken, .ref isFit, .ref breaks, .int mfit, .int known, .ref act, .ref wth, .ref facts, .ref pile, .int laid, .int hre, .int opnd, .int bad, .int usg, .ref trc, .int trcd, .int isP])), (row, .inl (xI G, 400, .inl u.2.1)), (errs, .inl (xI G, 7, .inl u.2.2))] u.1 := by
  intro l sz
  refine Met.ofW (cc := cX8_untell) (maxL := 2) (ret := (some .int)) (by decide) rfl ?_
  intro p e s m args below meth c s₁ B hml hv
  obtain ⟨rfl, hsz, hP, hD0, hm⟩ := hv
  have hx := B.exec
  have hb := B.bytes
  have hr := B.returns
  have hts := atoms_spec (ws := Cond.code yX8_untell cX8_untell 2 (some .int) :: TBL) B.pre
  have hown : s.vm.findClass RX8 = some m.cls := findClass_of_methodNamed B.named
  have hlocks := B.notSynchronized
  subst hsz
  have hD := hD0.self (sz := s.heap.size)
  generalize hAe : va_A [(t, .inr (8, [.ref row, .ref kpt, .int images, .ref errs, .ref bitsOf, .ref sizeOf, .ref cels, .ref broken, .ref isFit, .ref breaks, .int mfit, .int known, .ref act, .ref wth, .ref facts, .ref pile, .int laid, .int hre, .int opnd, .int bad, .int usg, .ref trc, .int trcd, .int isP])), (row, .inl (xI G, 400, .inl row_f)), (errs, .inl (xI G, 7, .inl errs_f))] s.heap.size = A at hD hm ⊢
  have hA : ∀ q : Nat, s.heap.size ≤ q → A q := fun q h => by rw [← hAe]; exact Or.inr h
  have hK := hm.1
  have hZ : xAnd p m c cX8_untell 2 s _ (Cond.code yX8_untell cX8_untell 2 (some .int) :: TBL) RX8 G A := ⟨⟨hx, hb, hml, hown, hts⟩, tcons, hA, hm⟩
  have hP : va_P G.1 vwCl [(t, .inr (8, [.ref row, .ref kpt, .int images, .ref errs, .ref bitsOf, .ref sizeOf, .ref cels, .ref broken, .ref isFit, .ref breaks, .int mfit, .int known, .ref act, .ref wth, .ref facts, .ref pile, .int laid, .int hre, .int opnd, .int bad, .int usg, .ref trc, .int trcd, .int isP])), (row, .inl (xI G, 400, .inl row_f)), (errs, .inl (xI G, 7, .inl errs_f))] s.heap := hP
  have hl := lv_entry ([.ref t, .int us]) (n := 2) (Nat.le_of_ble_eq_true rfl)
  rw [lg_entry_eq]
  generalize (lg_sl ([.ref t, .int us]) ++ List.replicate (2 - (lg_sl ([.ref t, .int us])).length) Slot.unset).toArray = ls at hl ⊢
  have hl : lv_has ls 2 [(0, .ref t), (1, .int us)] := hl
  generalize hQ : MQ below _ _ s _ _ _ = Q
  refine xGo (A := A) hP (fun H locs hP hS => ?_)
  unfold F_X8_untell at hF
  refine lv_iload_n hx hb dX8_untell_0 rfl (lv_at hl 1 rfl) ?_
  refine lv_iconst (v := 0) hx hb dX8_untell_1 (by decide) ?_
  refine lv_iconst (v := 1) hx hb dX8_untell_2 (by decide) ?_
  obtain ⟨u1, e1, hF⟩ := bdS hF
  refine xEndI (xRunS (As := [.int us, .int (0 : Int32), .int (1 : Int32)]) (rest := []) hZ (c_X8_in G us (0 : Int32) (1 : Int32) u1 e1 l H.size) m190 m191 m5 m192 3 hdX8_in ⟨Nat.le_of_ble_eq_true rfl, Nat.le_of_ble_eq_true rfl⟩ ⟨rfl, rfl⟩ hP hD hS [] rfl rfl rfl hl.1 rfl (Nat.le_of_ble_eq_true rfl) dX8_untell_3 ⟨Nat.zero_le _, Nat.zero_le _⟩) hP hD hS hA [] rfl rfl rfl (fun H locs n1 hP hD hS => ?_)
  have hP : va_P G.1 vwCl [(t, .inr (8, [.ref row, .ref kpt, .int images, .ref errs, .ref bitsOf, .ref sizeOf, .ref cels, .ref broken, .ref isFit, .ref breaks, .int mfit, .int known, .ref act, .ref wth, .ref facts, .ref pile, .int laid, .int hre, .int opnd, .int bad, .int usg, .ref trc, .int trcd, .int isP])), (row, .inl (xI G, 400, .inl row_f)), (errs, .inl (xI G, 7, .inl errs_f))] H := hP
  have hD : va_D A [(t, .inr (8, [.ref row, .ref kpt, .int images, .ref errs, .ref bitsOf, .ref sizeOf, .ref cels, .ref broken, .ref isFit, .ref breaks, .int mfit, .int known, .ref act, .ref wth, .ref facts, .ref pile, .int laid, .int hre, .int opnd, .int bad, .int usg, .ref trc, .int trcd, .int isP])), (row, .inl (xI G, 400, .inl row_f)), (errs, .inl (xI G, 7, .inl errs_f))] := hD
  refine lv_if_ne (tgt := 16) hx hb dX8_untell_6 (by decide) (fun c6 => ?_) (fun c6 => ?_)
  · have hF := itN c6 hF
    refine lv_aload_n hx hb dX8_untell_16 rfl (lv_at hl 0 rfl) ?_
    refine lv_sipush (v := 158) hx hb dX8_untell_17 (by decide) ?_
    refine lv_bipush (v := 121) hx hb dX8_untell_20 (by decide) ?_
    refine lv_iload_n hx hb dX8_untell_22 rfl (lv_at hl 1 rfl) ?_
    refine lv_imul hx hb dX8_untell_23 ?_
    refine lv_iadd hx hb dX8_untell_24 ?_
    refine lv_iconst (v := 0) hx hb dX8_untell_25 (by decide) ?_
    obtain ⟨u2, e2, hF⟩ := bdS hF
    refine xEndI (xRunV (As := [.int ((158 : Int32) + ((121 : Int32) * us)), .int (0 : Int32)]) (rest := []) hZ (c_X8_becomes G t row kpt errs bitsOf sizeOf cels broken isFit breaks act wth facts pile trc images mfit known laid hre opnd bad usg trcd isP row_f ((158 : Int32) + ((121 : Int32) * us)) (0 : Int32) u2 e2 l H.size) m351 m352 m353 m5 m354 2 ⟨rfl, hdX8_becomes⟩ ⟨Nat.le_of_ble_eq_true rfl, Nat.le_of_ble_eq_true rfl⟩ ⟨rfl, rfl⟩ hP hD hS 0 8 rfl rfl rfl [0, 1] rfl rfl rfl hl.1 rfl (Nat.le_of_ble_eq_true rfl) dX8_untell_26 ⟨Nat.zero_le _, Nat.zero_le _⟩) hP hD hS hA [0, 1] rfl rfl rfl (fun H locs n2 hP hD hS => ?_)
    have hP : va_P G.1 vwCl [(t, .inr (8, [.ref row, .ref kpt, .int images, .ref errs, .ref bitsOf, .ref sizeOf, .ref cels, .ref broken, .ref isFit, .ref breaks, .int mfit, .int known, .ref act, .ref wth, .ref facts, .ref pile, .int laid, .int hre, .int opnd, .int bad, .int usg, .ref trc, .int trcd, .int isP])), (row, .inl (xI G, 400, .inl u2.2)), (errs, .inl (xI G, 7, .inl errs_f))] H := hP
    have hD : va_D A [(t, .inr (8, [.ref row, .ref kpt, .int images, .ref errs, .ref bitsOf, .ref sizeOf, .ref cels, .ref broken, .ref isFit, .ref breaks, .int mfit, .int known, .ref act, .ref wth, .ref facts, .ref pile, .int laid, .int hre, .int opnd, .int bad, .int usg, .ref trc, .int trcd, .int isP])), (row, .inl (xI G, 400, .inl u2.2)), (errs, .inl (xI G, 7, .inl errs_f))] := hD
    refine lv_if_le (tgt := 36) hx hb dX8_untell_29 (by decide) (fun c29 => ?_) (fun c29 => ?_)
    · have hF := itP c29 hF
      refine lv_iconst (v := 0) hx hb dX8_untell_36 (by decide) ?_
      obtain rfl := Option.some.inj hF
      rw [← hQ]
      exact W.iret (v := (0 : Int32)) hx hb hr (fun t ht hW => ⟨⟨_, (), rfl, ⟨rfl, rfl⟩, xLf hP ht⟩, hS.F ht⟩) hS.2.2 dX8_untell_37
    · have hF := itN c29 hF
      refine lv_iconst (v := 1) hx hb dX8_untell_32 (by decide) ?_
      refine lv_goto (tgt := 37) hx hb dX8_untell_33 (by decide) ?_
      obtain rfl := Option.some.inj hF
      rw [← hQ]
      exact W.iret (v := (1 : Int32)) hx hb hr (fun t ht hW => ⟨⟨_, (), rfl, ⟨rfl, rfl⟩, xLf hP ht⟩, hS.F ht⟩) hS.2.2 dX8_untell_37
  · have hF := itP c6 hF
    refine lv_aload_n hx hb dX8_untell_9 rfl (lv_at hl 0 rfl) ?_
    refine lv_ldc (v := -1000000001) hx hb hown (hts _ (tcons _ m185)) dX8_untell_10 ?_
    obtain ⟨u2, e2, hF⟩ := bdS hF
    refine xEndI (xRunV (As := [.int (-1000000001 : Int32)]) (rest := []) hZ (c_X8_error G t row kpt errs bitsOf sizeOf cels broken isFit breaks act wth facts pile trc images mfit known laid hre opnd bad usg trcd isP errs_f (-1000000001 : Int32) u2 e2 l H.size) m193 m194 m195 m5 m196 1 ⟨rfl, hdX8_error⟩ ⟨Nat.le_of_ble_eq_true rfl, Nat.le_of_ble_eq_true rfl⟩ ⟨rfl, rfl⟩ hP hD hS 0 8 rfl rfl rfl [0, 2] rfl rfl rfl hl.1 rfl (Nat.le_of_ble_eq_true rfl) dX8_untell_12 ⟨Nat.zero_le _, Nat.zero_le _⟩) hP hD hS hA [0, 2] rfl rfl rfl (fun H locs n2 hP hD hS => ?_)
    have hP : va_P G.1 vwCl [(t, .inr (8, [.ref row, .ref kpt, .int images, .ref errs, .ref bitsOf, .ref sizeOf, .ref cels, .ref broken, .ref isFit, .ref breaks, .int mfit, .int known, .ref act, .ref wth, .ref facts, .ref pile, .int laid, .int hre, .int opnd, .int bad, .int usg, .ref trc, .int trcd, .int isP])), (row, .inl (xI G, 400, .inl row_f)), (errs, .inl (xI G, 7, .inl u2.2))] H := hP
    have hD : va_D A [(t, .inr (8, [.ref row, .ref kpt, .int images, .ref errs, .ref bitsOf, .ref sizeOf, .ref cels, .ref broken, .ref isFit, .ref breaks, .int mfit, .int known, .ref act, .ref wth, .ref facts, .ref pile, .int laid, .int hre, .int opnd, .int bad, .int usg, .ref trc, .int trcd, .int isP])), (row, .inl (xI G, 400, .inl row_f)), (errs, .inl (xI G, 7, .inl u2.2))] := hD
    obtain rfl := Option.some.inj hF
    rw [← hQ]
    exact W.iret (v := u2.1) hx hb hr (fun t ht hW => ⟨⟨_, (), rfl, ⟨rfl, rfl⟩, xLf hP ht⟩, hS.F ht⟩) hS.2.2 dX8_untell_15
def F_X8_law (row_f : Nat → Int32) (errs_f : Nat → Int32) (facts_f : Nat → Int32) (pile_f : Nat → Int32) (us : Int32) (ia : Int32) (ib : Int32) (ic : Int32) : Option (Int32 × (Nat → Int32) × (Nat → Int32) × (Nat → Int32)) := bd (F_X8_in us (0 : Int32) (1 : Int32)) (fun (u1 : Int32) => if u1 = 0 then (bd (F_X8_error errs_f (-1000000001 : Int32)) (fun (u2 : (Int32 × (Nat → Int32))) => some (u2.1, u2.2, facts_f, pile_f))) else (bd (F_X8_gives row_f facts_f pile_f us ia ib ic) (fun (u2 : (Int32 × (Nat → Int32) × (Nat → Int32))) => some (u2.1, errs_f, u2.2.1, u2.2.2))))
theorem hdX8_law : yX8_law.cls ≠ "java/lang/invoke/MethodHandle" ∧ yX8_law.cls ≠ "java/lang/invoke/VarHandle" ∧ (parseMethodDescriptor yX8_law.desc).map (fun d => d.parameters.length) = some 4 := by decide +kernel
set_option maxHeartbeats 4000000 in
set_option maxRecDepth 100000 in
theorem c_X8_law (G : xG) (t : Nat) (row : Nat) (kpt : Nat) (errs : Nat) (bitsOf : Nat) (sizeOf : Nat) (cels : Nat) (broken : Nat) (isFit : Nat) (breaks : Nat) (act : Nat) (wth : Nat) (facts : Nat) (pile : Nat) (trc : Nat) (images : Int32) (mfit : Int32) (known : Int32) (laid : Int32) (hre : Int32) (opnd : Int32) (bad : Int32) (usg : Int32) (trcd : Int32) (isP : Int32) (row_f : Nat → Int32) (errs_f : Nat → Int32) (facts_f : Nat → Int32) (pile_f : Nat → Int32) (us : Int32) (ia : Int32) (ib : Int32) (ic : Int32)  (u : (Int32 × (Nat → Int32) × (Nat → Int32) × (Nat → Int32))) (hF : F_X8_law row_f errs_f facts_f pile_f us ia ib ic = some u) : Ki G .int yX8_law (Cond.code yX8_law cX8_law 5 (some .int) :: TBL) { frames := 3, cells := 0, slots := 0, locals := 72 } [.ref t, .int us, .int ia, .int ib, .int ic] [(t, .inr (8, [.ref row, .ref kpt, .int images, .ref errs, .ref bitsOf, .ref sizeOf, .ref cels, .ref broken, .ref isFit, .ref breaks, .int mfit, .int known, .ref act, .ref wth, .ref facts, .ref pile, .int laid, .int hre, .int opnd, .int bad, .int usg, .ref trc, .int trcd, .int isP])), (row, .inl (xI G, 400, .inl row_f)), (errs, .inl (xI G, 7, .inl errs_f)), (facts, .inl (xI G, 3, .inl facts_f)), (pile, .inl (xI G, 60, .inl pile_f))] [(t, .inr (8, [.ref row, .ref kpt, .int images, .ref errs, .ref bitsOf, .ref sizeOf, .ref cels, .ref broken, .ref isFit, .ref breaks, .int mfit, .int known, .ref act, .ref wth, .ref facts, .ref pile, .int laid, .int hre, .int opnd, .int bad, .int usg, .ref trc, .int trcd, .int isP])), (row, .inl (xI G, 400, .inl row_f)), (errs, .inl (xI G, 7, .inl u.2.1)), (facts, .inl (xI G, 3, .inl u.2.2.1)), (pile, .inl (xI G, 60, .inl u.2.2.2))] u.1 := by
  intro l sz
  refine Met.ofW (cc := cX8_law) (maxL := 5) (ret := (some .int)) (by decide) rfl ?_
  intro p e s m args below meth c s₁ B hml hv
  obtain ⟨rfl, hsz, hP, hD0, hm⟩ := hv
  have hx := B.exec
  have hb := B.bytes
  have hr := B.returns
  have hts := atoms_spec (ws := Cond.code yX8_law cX8_law 5 (some .int) :: TBL) B.pre
  have hown : s.vm.findClass RX8 = some m.cls := findClass_of_methodNamed B.named
  have hlocks := B.notSynchronized
  subst hsz
  have hD := hD0.self (sz := s.heap.size)
  generalize hAe : va_A [(t, .inr (8, [.ref row, .ref kpt, .int images, .ref errs, .ref bitsOf, .ref sizeOf, .ref cels, .ref broken, .ref isFit, .ref breaks, .int mfit, .int known, .ref act, .ref wth, .ref facts, .ref pile, .int laid, .int hre, .int opnd, .int bad, .int usg, .ref trc, .int trcd, .int isP])), (row, .inl (xI G, 400, .inl row_f)), (errs, .inl (xI G, 7, .inl errs_f)), (facts, .inl (xI G, 3, .inl facts_f)), (pile, .inl (xI G, 60, .inl pile_f))] s.heap.size = A at hD hm ⊢
  have hA : ∀ q : Nat, s.heap.size ≤ q → A q := fun q h => by rw [← hAe]; exact Or.inr h
  have hK := hm.1
  have hZ : xAnd p m c cX8_law 5 s _ (Cond.code yX8_law cX8_law 5 (some .int) :: TBL) RX8 G A := ⟨⟨hx, hb, hml, hown, hts⟩, tcons, hA, hm⟩
  have hP : va_P G.1 vwCl [(t, .inr (8, [.ref row, .ref kpt, .int images, .ref errs, .ref bitsOf, .ref sizeOf, .ref cels, .ref broken, .ref isFit, .ref breaks, .int mfit, .int known, .ref act, .ref wth, .ref facts, .ref pile, .int laid, .int hre, .int opnd, .int bad, .int usg, .ref trc, .int trcd, .int isP])), (row, .inl (xI G, 400, .inl row_f)), (errs, .inl (xI G, 7, .inl errs_f)), (facts, .inl (xI G, 3, .inl facts_f)), (pile, .inl (xI G, 60, .inl pile_f))] s.heap := hP
  have hl := lv_entry ([.ref t, .int us, .int ia, .int ib, .int ic]) (n := 5) (Nat.le_of_ble_eq_true rfl)
  rw [lg_entry_eq]
  generalize (lg_sl ([.ref t, .int us, .int ia, .int ib, .int ic]) ++ List.replicate (5 - (lg_sl ([.ref t, .int us, .int ia, .int ib, .int ic])).length) Slot.unset).toArray = ls at hl ⊢
  have hl : lv_has ls 5 [(0, .ref t), (1, .int us), (2, .int ia), (3, .int ib), (4, .int ic)] := hl
  generalize hQ : MQ below _ _ s _ _ _ = Q
  refine xGo (A := A) hP (fun H locs hP hS => ?_)
  unfold F_X8_law at hF
  refine lv_iload_n hx hb dX8_law_0 rfl (lv_at hl 1 rfl) ?_
  refine lv_iconst (v := 0) hx hb dX8_law_1 (by decide) ?_
  refine lv_iconst (v := 1) hx hb dX8_law_2 (by decide) ?_
  obtain ⟨u1, e1, hF⟩ := bdS hF
  refine xEndI (xRunS (As := [.int us, .int (0 : Int32), .int (1 : Int32)]) (rest := []) hZ (c_X8_in G us (0 : Int32) (1 : Int32) u1 e1 l H.size) m190 m191 m5 m192 3 hdX8_in ⟨Nat.le_of_ble_eq_true rfl, Nat.le_of_ble_eq_true rfl⟩ ⟨rfl, rfl⟩ hP hD hS [] rfl rfl rfl hl.1 rfl (Nat.le_of_ble_eq_true rfl) dX8_law_3 ⟨Nat.zero_le _, Nat.zero_le _⟩) hP hD hS hA [] rfl rfl rfl (fun H locs n1 hP hD hS => ?_)
  have hP : va_P G.1 vwCl [(t, .inr (8, [.ref row, .ref kpt, .int images, .ref errs, .ref bitsOf, .ref sizeOf, .ref cels, .ref broken, .ref isFit, .ref breaks, .int mfit, .int known, .ref act, .ref wth, .ref facts, .ref pile, .int laid, .int hre, .int opnd, .int bad, .int usg, .ref trc, .int trcd, .int isP])), (row, .inl (xI G, 400, .inl row_f)), (errs, .inl (xI G, 7, .inl errs_f)), (facts, .inl (xI G, 3, .inl facts_f)), (pile, .inl (xI G, 60, .inl pile_f))] H := hP
  have hD : va_D A [(t, .inr (8, [.ref row, .ref kpt, .int images, .ref errs, .ref bitsOf, .ref sizeOf, .ref cels, .ref broken, .ref isFit, .ref breaks, .int mfit, .int known, .ref act, .ref wth, .ref facts, .ref pile, .int laid, .int hre, .int opnd, .int bad, .int usg, .ref trc, .int trcd, .int isP])), (row, .inl (xI G, 400, .inl row_f)), (errs, .inl (xI G, 7, .inl errs_f)), (facts, .inl (xI G, 3, .inl facts_f)), (pile, .inl (xI G, 60, .inl pile_f))] := hD
  refine lv_if_eq (tgt := 21) hx hb dX8_law_6 (by decide) (fun c6 => ?_) (fun c6 => ?_)
  · have hF := itP c6 hF
    refine lv_aload_n hx hb dX8_law_21 rfl (lv_at hl 0 rfl) ?_
    refine lv_ldc (v := -1000000001) hx hb hown (hts _ (tcons _ m185)) dX8_law_22 ?_
    obtain ⟨u2, e2, hF⟩ := bdS hF
    refine xEndI (xRunV (As := [.int (-1000000001 : Int32)]) (rest := []) hZ (c_X8_error G t row kpt errs bitsOf sizeOf cels broken isFit breaks act wth facts pile trc images mfit known laid hre opnd bad usg trcd isP errs_f (-1000000001 : Int32) u2 e2 l H.size) m193 m194 m195 m5 m196 1 ⟨rfl, hdX8_error⟩ ⟨Nat.le_of_ble_eq_true rfl, Nat.le_of_ble_eq_true rfl⟩ ⟨rfl, rfl⟩ hP hD hS 0 8 rfl rfl rfl [0, 2] rfl rfl rfl hl.1 rfl (Nat.le_of_ble_eq_true rfl) dX8_law_24 ⟨Nat.zero_le _, Nat.zero_le _⟩) hP hD hS hA [0, 2] rfl rfl rfl (fun H locs n2 hP hD hS => ?_)
    have hP : va_P G.1 vwCl [(t, .inr (8, [.ref row, .ref kpt, .int images, .ref errs, .ref bitsOf, .ref sizeOf, .ref cels, .ref broken, .ref isFit, .ref breaks, .int mfit, .int known, .ref act, .ref wth, .ref facts, .ref pile, .int laid, .int hre, .int opnd, .int bad, .int usg, .ref trc, .int trcd, .int isP])), (row, .inl (xI G, 400, .inl row_f)), (errs, .inl (xI G, 7, .inl u2.2)), (facts, .inl (xI G, 3, .inl facts_f)), (pile, .inl (xI G, 60, .inl pile_f))] H := hP
    have hD : va_D A [(t, .inr (8, [.ref row, .ref kpt, .int images, .ref errs, .ref bitsOf, .ref sizeOf, .ref cels, .ref broken, .ref isFit, .ref breaks, .int mfit, .int known, .ref act, .ref wth, .ref facts, .ref pile, .int laid, .int hre, .int opnd, .int bad, .int usg, .ref trc, .int trcd, .int isP])), (row, .inl (xI G, 400, .inl row_f)), (errs, .inl (xI G, 7, .inl u2.2)), (facts, .inl (xI G, 3, .inl facts_f)), (pile, .inl (xI G, 60, .inl pile_f))] := hD
    obtain rfl := Option.some.inj hF
    rw [← hQ]
    exact W.iret (v := u2.1) hx hb hr (fun t ht hW => ⟨⟨_, (), rfl, ⟨rfl, rfl⟩, xLf hP ht⟩, hS.F ht⟩) hS.2.2 dX8_law_27
  · have hF := itN c6 hF
    refine lv_aload_n hx hb dX8_law_9 rfl (lv_at hl 0 rfl) ?_
    refine lv_iload_n hx hb dX8_law_10 rfl (lv_at hl 1 rfl) ?_
    refine lv_iload_n hx hb dX8_law_11 rfl (lv_at hl 2 rfl) ?_
    refine lv_iload_n hx hb dX8_law_12 rfl (lv_at hl 3 rfl) ?_
    refine lv_iload hx hb dX8_law_13 (lv_at hl 4 rfl) ?_
    obtain ⟨u2, e2, hF⟩ := bdS hF
    refine xEndI (xRunV (As := [.int us, .int ia, .int ib, .int ic]) (rest := []) hZ (c_X8_gives G t row kpt errs bitsOf sizeOf cels broken isFit breaks act wth facts pile trc images mfit known laid hre opnd bad usg trcd isP row_f facts_f pile_f us ia ib ic u2 e2 l H.size) m325 m326 m327 m5 m328 4 ⟨rfl, hdX8_gives⟩ ⟨Nat.le_of_ble_eq_true rfl, Nat.le_of_ble_eq_true rfl⟩ ⟨rfl, rfl⟩ hP hD hS 0 8 rfl rfl rfl [0, 1, 3, 4] rfl rfl rfl hl.1 rfl (Nat.le_of_ble_eq_true rfl) dX8_law_15 ⟨Nat.zero_le _, Nat.zero_le _⟩) hP hD hS hA [0, 1, 3, 4] rfl rfl rfl (fun H locs n2 hP hD hS => ?_)
    have hP : va_P G.1 vwCl [(t, .inr (8, [.ref row, .ref kpt, .int images, .ref errs, .ref bitsOf, .ref sizeOf, .ref cels, .ref broken, .ref isFit, .ref breaks, .int mfit, .int known, .ref act, .ref wth, .ref facts, .ref pile, .int laid, .int hre, .int opnd, .int bad, .int usg, .ref trc, .int trcd, .int isP])), (row, .inl (xI G, 400, .inl row_f)), (errs, .inl (xI G, 7, .inl errs_f)), (facts, .inl (xI G, 3, .inl u2.2.1)), (pile, .inl (xI G, 60, .inl u2.2.2))] H := hP
    have hD : va_D A [(t, .inr (8, [.ref row, .ref kpt, .int images, .ref errs, .ref bitsOf, .ref sizeOf, .ref cels, .ref broken, .ref isFit, .ref breaks, .int mfit, .int known, .ref act, .ref wth, .ref facts, .ref pile, .int laid, .int hre, .int opnd, .int bad, .int usg, .ref trc, .int trcd, .int isP])), (row, .inl (xI G, 400, .inl row_f)), (errs, .inl (xI G, 7, .inl errs_f)), (facts, .inl (xI G, 3, .inl u2.2.1)), (pile, .inl (xI G, 60, .inl u2.2.2))] := hD
    refine lv_goto (tgt := 27) hx hb dX8_law_18 (by decide) ?_
    obtain rfl := Option.some.inj hF
    rw [← hQ]
    exact W.iret (v := u2.1) hx hb hr (fun t ht hW => ⟨⟨_, (), rfl, ⟨rfl, rfl⟩, xLf hP ht⟩, hS.F ht⟩) hS.2.2 dX8_law_27
def B_X8_loose_42 (errs_f : Nat → Int32) (broken_f : Nat → Int64) (k : Int32) (k42 : (Int32 × Int32 × Int32 × Int32 × (Nat → Int32) × (Nat → Int32) × (Nat → Int32) × (Nat → Int32) × (Nat → Int32)) → Option (Int32 × Int32 × Int32 × (Nat → Int32) × (Nat → Int32) × (Nat → Int32) × (Nat → Int32) × (Nat → Int32) × (Nat → Int32))) (v42 : (Int32 × Int32 × Int32 × Int32 × (Nat → Int32) × (Nat → Int32) × (Nat → Int32) × (Nat → Int32) × (Nat → Int32))) : Option (Int32 × Int32 × Int32 × (Nat → Int32) × (Nat → Int32) × (Nat → Int32) × (Nat → Int32) × (Nat → Int32) × (Nat → Int32)) := if k ≤ v42.2.1 then (some (v42.1, v42.2.2.1, v42.2.2.2.1, v42.2.2.2.2.1, errs_f, v42.2.2.2.2.2.1, v42.2.2.2.2.2.2.1, v42.2.2.2.2.2.2.2.1, v42.2.2.2.2.2.2.2.2)) else (bd (F_X8_drawn v42.2.2.1 v42.2.2.2.1 v42.2.2.2.2.1 broken_f v42.2.2.2.2.2.1 v42.2.2.2.2.2.2.1 v42.2.2.2.2.2.2.2.1 v42.2.2.2.2.2.2.2.2) (fun (u2 : (Int32 × Int32 × Int32 × (Nat → Int32) × (Nat → Int32) × (Nat → Int32) × (Nat → Int32) × (Nat → Int32))) => k42 ((v42.1 + u2.1), (v42.2.1 + (1 : Int32)), u2.2.1, u2.2.2.1, u2.2.2.2.1, u2.2.2.2.2.1, u2.2.2.2.2.2.1, u2.2.2.2.2.2.2.1, u2.2.2.2.2.2.2.2)))
def F_X8_loose (mfit : Int32) (known : Int32) (row_f : Nat → Int32) (errs_f : Nat → Int32) (broken_f : Nat → Int64) (isFit_f : Nat → Int32) (breaks_f : Nat → Int32) (facts_f : Nat → Int32) (pile_f : Nat → Int32) (k : Int32) : Option (Int32 × Int32 × Int32 × (Nat → Int32) × (Nat → Int32) × (Nat → Int32) × (Nat → Int32) × (Nat → Int32) × (Nat → Int32)) := bd (F_X8_in k (1 : Int32) (20 : Int32)) (fun (u1 : Int32) => if u1 = 0 then (bd (F_X8_error errs_f (-1000000001 : Int32)) (fun (u2 : (Int32 × (Nat → Int32))) => some (u2.1, mfit, known, row_f, u2.2, isFit_f, breaks_f, facts_f, pile_f))) else (if ((row_f (0 : Int32).toNatClampNeg) + k) ≤ (9999 : Int32) then (lp (B_X8_loose_42 errs_f broken_f k) fuelC ((0 : Int32), (0 : Int32), mfit, known, row_f, isFit_f, breaks_f, facts_f, pile_f)) else (bd (F_X8_error errs_f (-1000000003 : Int32)) (fun (u2 : (Int32 × (Nat → Int32))) => some (u2.1, mfit, known, row_f, u2.2, isFit_f, breaks_f, facts_f, pile_f)))))
theorem hdX8_loose : yX8_loose.cls ≠ "java/lang/invoke/MethodHandle" ∧ yX8_loose.cls ≠ "java/lang/invoke/VarHandle" ∧ (parseMethodDescriptor yX8_loose.desc).map (fun d => d.parameters.length) = some 1 := by decide +kernel
set_option maxHeartbeats 4000000 in
set_option maxRecDepth 100000 in
theorem c_X8_loose (G : xG) (t : Nat) (row : Nat) (kpt : Nat) (errs : Nat) (bitsOf : Nat) (sizeOf : Nat) (cels : Nat) (broken : Nat) (isFit : Nat) (breaks : Nat) (act : Nat) (wth : Nat) (facts : Nat) (pile : Nat) (trc : Nat) (images : Int32) (mfit : Int32) (known : Int32) (laid : Int32) (hre : Int32) (opnd : Int32) (bad : Int32) (usg : Int32) (trcd : Int32) (isP : Int32) (row_f : Nat → Int32) (errs_f : Nat → Int32) (broken_f : Nat → Int64) (isFit_f : Nat → Int32) (breaks_f : Nat → Int32) (facts_f : Nat → Int32) (pile_f : Nat → Int32) (k : Int32)  (u : (Int32 × Int32 × Int32 × (Nat → Int32) × (Nat → Int32) × (Nat → Int32) × (Nat → Int32) × (Nat → Int32) × (Nat → Int32))) (hF : F_X8_loose mfit known row_f errs_f broken_f isFit_f breaks_f facts_f pile_f k = some u) : Ki G .int yX8_loose (Cond.code yX8_loose cX8_loose 4 (some .int) :: TBL) { frames := 7, cells := 0, slots := 0, locals := 161 } [.ref t, .int k] [(t, .inr (8, [.ref row, .ref kpt, .int images, .ref errs, .ref bitsOf, .ref sizeOf, .ref cels, .ref broken, .ref isFit, .ref breaks, .int mfit, .int known, .ref act, .ref wth, .ref facts, .ref pile, .int laid, .int hre, .int opnd, .int bad, .int usg, .ref trc, .int trcd, .int isP])), (row, .inl (xI G, 400, .inl row_f)), (errs, .inl (xI G, 7, .inl errs_f)), (broken, .inl (xJ G, 729, .inr (.inl broken_f))), (isFit, .inl (xZ G, 729, .inl isFit_f)), (breaks, .inl (xI G, 64, .inl breaks_f)), (facts, .inl (xI G, 3, .inl facts_f)), (pile, .inl (xI G, 60, .inl pile_f))] [(t, .inr (8, [.ref row, .ref kpt, .int images, .ref errs, .ref bitsOf, .ref sizeOf, .ref cels, .ref broken, .ref isFit, .ref breaks, .int u.2.1, .int u.2.2.1, .ref act, .ref wth, .ref facts, .ref pile, .int laid, .int hre, .int opnd, .int bad, .int usg, .ref trc, .int trcd, .int isP])), (row, .inl (xI G, 400, .inl u.2.2.2.1)), (errs, .inl (xI G, 7, .inl u.2.2.2.2.1)), (broken, .inl (xJ G, 729, .inr (.inl broken_f))), (isFit, .inl (xZ G, 729, .inl u.2.2.2.2.2.1)), (breaks, .inl (xI G, 64, .inl u.2.2.2.2.2.2.1)), (facts, .inl (xI G, 3, .inl u.2.2.2.2.2.2.2.1)), (pile, .inl (xI G, 60, .inl u.2.2.2.2.2.2.2.2))] u.1 := by
  intro l sz
  refine Met.ofW (cc := cX8_loose) (maxL := 4) (ret := (some .int)) (by decide) rfl ?_
  intro p e s m args below meth c s₁ B hml hv
  obtain ⟨rfl, hsz, hP, hD0, hm⟩ := hv
  have hx := B.exec
  have hb := B.bytes
  have hr := B.returns
  have hts := atoms_spec (ws := Cond.code yX8_loose cX8_loose 4 (some .int) :: TBL) B.pre
  have hown : s.vm.findClass RX8 = some m.cls := findClass_of_methodNamed B.named
  have hlocks := B.notSynchronized
  subst hsz
  have hD := hD0.self (sz := s.heap.size)
  generalize hAe : va_A [(t, .inr (8, [.ref row, .ref kpt, .int images, .ref errs, .ref bitsOf, .ref sizeOf, .ref cels, .ref broken, .ref isFit, .ref breaks, .int mfit, .int known, .ref act, .ref wth, .ref facts, .ref pile, .int laid, .int hre, .int opnd, .int bad, .int usg, .ref trc, .int trcd, .int isP])), (row, .inl (xI G, 400, .inl row_f)), (errs, .inl (xI G, 7, .inl errs_f)), (broken, .inl (xJ G, 729, .inr (.inl broken_f))), (isFit, .inl (xZ G, 729, .inl isFit_f)), (breaks, .inl (xI G, 64, .inl breaks_f)), (facts, .inl (xI G, 3, .inl facts_f)), (pile, .inl (xI G, 60, .inl pile_f))] s.heap.size = A at hD hm ⊢
  have hA : ∀ q : Nat, s.heap.size ≤ q → A q := fun q h => by rw [← hAe]; exact Or.inr h
  have hK := hm.1
  have hZ : xAnd p m c cX8_loose 4 s _ (Cond.code yX8_loose cX8_loose 4 (some .int) :: TBL) RX8 G A := ⟨⟨hx, hb, hml, hown, hts⟩, tcons, hA, hm⟩
  have hP : va_P G.1 vwCl [(t, .inr (8, [.ref row, .ref kpt, .int images, .ref errs, .ref bitsOf, .ref sizeOf, .ref cels, .ref broken, .ref isFit, .ref breaks, .int mfit, .int known, .ref act, .ref wth, .ref facts, .ref pile, .int laid, .int hre, .int opnd, .int bad, .int usg, .ref trc, .int trcd, .int isP])), (row, .inl (xI G, 400, .inl row_f)), (errs, .inl (xI G, 7, .inl errs_f)), (broken, .inl (xJ G, 729, .inr (.inl broken_f))), (isFit, .inl (xZ G, 729, .inl isFit_f)), (breaks, .inl (xI G, 64, .inl breaks_f)), (facts, .inl (xI G, 3, .inl facts_f)), (pile, .inl (xI G, 60, .inl pile_f))] s.heap := hP
  have hl := lv_entry ([.ref t, .int k]) (n := 4) (Nat.le_of_ble_eq_true rfl)
  rw [lg_entry_eq]
  generalize (lg_sl ([.ref t, .int k]) ++ List.replicate (4 - (lg_sl ([.ref t, .int k])).length) Slot.unset).toArray = ls at hl ⊢
  have hl : lv_has ls 4 [(0, .ref t), (1, .int k)] := hl
  generalize hQ : MQ below _ _ s _ _ _ = Q
  refine xGo (A := A) hP (fun H locs hP hS => ?_)
  unfold F_X8_loose at hF
  refine lv_iload_n hx hb dX8_loose_0 rfl (lv_at hl 1 rfl) ?_
  refine lv_iconst (v := 1) hx hb dX8_loose_1 (by decide) ?_
  refine lv_bipush (v := 20) hx hb dX8_loose_2 (by decide) ?_
  obtain ⟨u1, e1, hF⟩ := bdS hF
  refine xEndI (xRunS (As := [.int k, .int (1 : Int32), .int (20 : Int32)]) (rest := []) hZ (c_X8_in G k (1 : Int32) (20 : Int32) u1 e1 l H.size) m190 m191 m5 m192 3 hdX8_in ⟨Nat.le_of_ble_eq_true rfl, Nat.le_of_ble_eq_true rfl⟩ ⟨rfl, rfl⟩ hP hD hS [] rfl rfl rfl hl.1 rfl (Nat.le_of_ble_eq_true rfl) dX8_loose_4 ⟨Nat.zero_le _, Nat.zero_le _⟩) hP hD hS hA [] rfl rfl rfl (fun H locs n1 hP hD hS => ?_)
  have hP : va_P G.1 vwCl [(t, .inr (8, [.ref row, .ref kpt, .int images, .ref errs, .ref bitsOf, .ref sizeOf, .ref cels, .ref broken, .ref isFit, .ref breaks, .int mfit, .int known, .ref act, .ref wth, .ref facts, .ref pile, .int laid, .int hre, .int opnd, .int bad, .int usg, .ref trc, .int trcd, .int isP])), (row, .inl (xI G, 400, .inl row_f)), (errs, .inl (xI G, 7, .inl errs_f)), (broken, .inl (xJ G, 729, .inr (.inl broken_f))), (isFit, .inl (xZ G, 729, .inl isFit_f)), (breaks, .inl (xI G, 64, .inl breaks_f)), (facts, .inl (xI G, 3, .inl facts_f)), (pile, .inl (xI G, 60, .inl pile_f))] H := hP
  have hD : va_D A [(t, .inr (8, [.ref row, .ref kpt, .int images, .ref errs, .ref bitsOf, .ref sizeOf, .ref cels, .ref broken, .ref isFit, .ref breaks, .int mfit, .int known, .ref act, .ref wth, .ref facts, .ref pile, .int laid, .int hre, .int opnd, .int bad, .int usg, .ref trc, .int trcd, .int isP])), (row, .inl (xI G, 400, .inl row_f)), (errs, .inl (xI G, 7, .inl errs_f)), (broken, .inl (xJ G, 729, .inr (.inl broken_f))), (isFit, .inl (xZ G, 729, .inl isFit_f)), (breaks, .inl (xI G, 64, .inl breaks_f)), (facts, .inl (xI G, 3, .inl facts_f)), (pile, .inl (xI G, 60, .inl pile_f))] := hD
  refine lv_if_ne (tgt := 17) hx hb dX8_loose_7 (by decide) (fun c7 => ?_) (fun c7 => ?_)
  · have hF := itN c7 hF
    refine lv_aload_n hx hb dX8_loose_17 rfl (lv_at hl 0 rfl) ?_
    refine va_get (ci := 8) (v := .ref row) (C := RX8) (T := TX8) (N := 24) hx hb hts (fun w h => tcons w (xin8 w h)) hown hK hP 0 rfl rfl 0 (by decide) (hts _ (tcons _ m137)) (fun _ h9 => h9) rfl dX8_loose_18 ?_
    refine lv_iconst (v := 0) hx hb dX8_loose_21 (by decide) ?_
    refine va_iald hx hb hK hP 1 0 rfl rfl (by unfold vp_in; decide) dX8_loose_22 ?_
    refine lv_iload_n hx hb dX8_loose_23 rfl (lv_at hl 1 rfl) ?_
    refine lv_iadd hx hb dX8_loose_24 ?_
    refine lv_sipush (v := 9999) hx hb dX8_loose_25 (by decide) ?_
    refine lv_icmp_le (tgt := 38) hx hb dX8_loose_28 (by decide) (fun c28 => ?_) (fun c28 => ?_)
    · have hF := itP c28 hF
      refine lv_iconst (v := 0) hx hb dX8_loose_38 (by decide) ?_
      refine lv_istore_n (lv' := [(2, .int (0 : Int32)), (0, .ref t), (1, .int k)]) hx hb dX8_loose_39 rfl hl (by decide) rfl (fun ls hl => ?_)
      refine lv_iconst (v := 0) hx hb dX8_loose_40 (by decide) ?_
      refine lv_istore_n (lv' := [(3, .int (0 : Int32)), (2, .int (0 : Int32)), (0, .ref t), (1, .int k)]) hx hb dX8_loose_41 rfl hl (by decide) rfl (fun ls hl => ?_)
      refine xLoop9 (body := (B_X8_loose_42 errs_f broken_f k)) (fun (v42_0 : Int32) (v42_1 : Int32) (v42_2 : Int32) (v42_3 : Int32) (v42_4 : Nat → Int32) (v42_5 : Nat → Int32) (v42_6 : Nat → Int32) (v42_7 : Nat → Int32) (v42_8 : Nat → Int32) H locs ls => va_P G.1 vwCl [(t, .inr (8, [.ref row, .ref kpt, .int images, .ref errs, .ref bitsOf, .ref sizeOf, .ref cels, .ref broken, .ref isFit, .ref breaks, .int v42_2, .int v42_3, .ref act, .ref wth, .ref facts, .ref pile, .int laid, .int hre, .int opnd, .int bad, .int usg, .ref trc, .int trcd, .int isP])), (row, .inl (xI G, 400, .inl v42_4)), (errs, .inl (xI G, 7, .inl errs_f)), (broken, .inl (xJ G, 729, .inr (.inl broken_f))), (isFit, .inl (xZ G, 729, .inl v42_5)), (breaks, .inl (xI G, 64, .inl v42_6)), (facts, .inl (xI G, 3, .inl v42_7)), (pile, .inl (xI G, 60, .inl v42_8))] H ∧ va_D A [(t, .inr (8, [.ref row, .ref kpt, .int images, .ref errs, .ref bitsOf, .ref sizeOf, .ref cels, .ref broken, .ref isFit, .ref breaks, .int v42_2, .int v42_3, .ref act, .ref wth, .ref facts, .ref pile, .int laid, .int hre, .int opnd, .int bad, .int usg, .ref trc, .int trcd, .int isP])), (row, .inl (xI G, 400, .inl v42_4)), (errs, .inl (xI G, 7, .inl errs_f)), (broken, .inl (xJ G, 729, .inr (.inl broken_f))), (isFit, .inl (xZ G, 729, .inl v42_5)), (breaks, .inl (xI G, 64, .inl v42_6)), (facts, .inl (xI G, 3, .inl v42_7)), (pile, .inl (xI G, 60, .inl v42_8))] ∧ va_S A s.heap H locs ∧ lv_has ls 4 [(0, .ref t), (1, .int k), (2, .int v42_0), (3, .int v42_1)]) (fun N42 v42_0 v42_1 v42_2 v42_3 v42_4 v42_5 v42_6 v42_7 v42_8 ih42 H locs ls hI hF => ?_) fuelC (0 : Int32) (0 : Int32) mfit known row_f isFit_f breaks_f facts_f pile_f H locs ls ⟨hP, hD, hS, lv_sub hl [2, 3, 1, 0] rfl⟩ hF
      obtain ⟨hP, hD, hS, hl⟩ := hI
      unfold B_X8_loose_42 at hF
      refine lv_iload_n hx hb dX8_loose_42 rfl (lv_at hl 3 rfl) ?_
      refine lv_iload_n hx hb dX8_loose_43 rfl (lv_at hl 1 rfl) ?_
      refine lv_icmp_ge (tgt := 60) hx hb dX8_loose_44 (by decide) (fun c44 => ?_) (fun c44 => ?_)
      · have hF := itP c44 hF
        refine lv_iload_n hx hb dX8_loose_60 rfl (lv_at hl 2 rfl) ?_
        obtain rfl := Option.some.inj hF
        rw [← hQ]
        exact W.iret (v := v42_0) hx hb hr (fun t ht hW => ⟨⟨_, (), rfl, ⟨rfl, rfl⟩, xLf hP ht⟩, hS.F ht⟩) hS.2.2 dX8_loose_61
      · have hF := itN c44 hF
        refine lv_iload_n hx hb dX8_loose_47 rfl (lv_at hl 2 rfl) ?_
        refine lv_aload_n hx hb dX8_loose_48 rfl (lv_at hl 0 rfl) ?_
        obtain ⟨u2, e2, hF⟩ := bdS hF
        refine xEndI (xRunV (As := []) (rest := [.int v42_0]) hZ (c_X8_drawn G t row kpt errs bitsOf sizeOf cels broken isFit breaks act wth facts pile trc images v42_2 v42_3 laid hre opnd bad usg trcd isP v42_4 broken_f v42_5 v42_6 v42_7 v42_8 u2 e2 l H.size) m758 m759 m760 m5 m761 0 ⟨rfl, hdX8_drawn⟩ ⟨Nat.le_of_ble_eq_true rfl, Nat.le_of_ble_eq_true rfl⟩ ⟨rfl, rfl⟩ hP hD hS 0 8 rfl rfl rfl [0, 1, 3, 4, 5, 6, 7] rfl rfl rfl hl.1 rfl (Nat.le_of_ble_eq_true rfl) dX8_loose_49 ⟨Nat.zero_le _, Nat.zero_le _⟩) hP hD hS hA [0, 1, 3, 4, 5, 6, 7] rfl rfl rfl (fun H locs n2 hP hD hS => ?_)
        have hP : va_P G.1 vwCl [(t, .inr (8, [.ref row, .ref kpt, .int images, .ref errs, .ref bitsOf, .ref sizeOf, .ref cels, .ref broken, .ref isFit, .ref breaks, .int u2.2.1, .int u2.2.2.1, .ref act, .ref wth, .ref facts, .ref pile, .int laid, .int hre, .int opnd, .int bad, .int usg, .ref trc, .int trcd, .int isP])), (row, .inl (xI G, 400, .inl u2.2.2.2.1)), (errs, .inl (xI G, 7, .inl errs_f)), (broken, .inl (xJ G, 729, .inr (.inl broken_f))), (isFit, .inl (xZ G, 729, .inl u2.2.2.2.2.1)), (breaks, .inl (xI G, 64, .inl u2.2.2.2.2.2.1)), (facts, .inl (xI G, 3, .inl u2.2.2.2.2.2.2.1)), (pile, .inl (xI G, 60, .inl u2.2.2.2.2.2.2.2))] H := hP
        have hD : va_D A [(t, .inr (8, [.ref row, .ref kpt, .int images, .ref errs, .ref bitsOf, .ref sizeOf, .ref cels, .ref broken, .ref isFit, .ref breaks, .int u2.2.1, .int u2.2.2.1, .ref act, .ref wth, .ref facts, .ref pile, .int laid, .int hre, .int opnd, .int bad, .int usg, .ref trc, .int trcd, .int isP])), (row, .inl (xI G, 400, .inl u2.2.2.2.1)), (errs, .inl (xI G, 7, .inl errs_f)), (broken, .inl (xJ G, 729, .inr (.inl broken_f))), (isFit, .inl (xZ G, 729, .inl u2.2.2.2.2.1)), (breaks, .inl (xI G, 64, .inl u2.2.2.2.2.2.1)), (facts, .inl (xI G, 3, .inl u2.2.2.2.2.2.2.1)), (pile, .inl (xI G, 60, .inl u2.2.2.2.2.2.2.2))] := hD
        refine lv_iadd hx hb dX8_loose_52 ?_
        refine lv_istore_n (lv' := [(2, .int (v42_0 + u2.1)), (0, .ref t), (1, .int k), (3, .int v42_1)]) hx hb dX8_loose_53 rfl hl (by decide) rfl (fun ls hl => ?_)
        refine lv_iinc (v := (v42_1 + (1 : Int32))) (lv' := [(3, .int (v42_1 + (1 : Int32))), (2, .int (v42_0 + u2.1)), (0, .ref t), (1, .int k)]) hx hb dX8_loose_54 hl (k := 3) rfl (xInc_1 _) (by decide) rfl (fun ls hl => ?_)
        refine lv_goto (tgt := 42) hx hb dX8_loose_57 (by decide) ?_
        exact ih42 (v42_0 + u2.1) (v42_1 + (1 : Int32)) u2.2.1 u2.2.2.1 u2.2.2.2.1 u2.2.2.2.2.1 u2.2.2.2.2.2.1 u2.2.2.2.2.2.2.1 u2.2.2.2.2.2.2.2 H locs ls ⟨hP, hD, hS, lv_sub hl [2, 3, 1, 0] rfl⟩ hF
    · have hF := itN c28 hF
      refine lv_aload_n hx hb dX8_loose_31 rfl (lv_at hl 0 rfl) ?_
      refine lv_ldc (v := -1000000003) hx hb hown (hts _ (tcons _ m477)) dX8_loose_32 ?_
      obtain ⟨u2, e2, hF⟩ := bdS hF
      refine xEndI (xRunV (As := [.int (-1000000003 : Int32)]) (rest := []) hZ (c_X8_error G t row kpt errs bitsOf sizeOf cels broken isFit breaks act wth facts pile trc images mfit known laid hre opnd bad usg trcd isP errs_f (-1000000003 : Int32) u2 e2 l H.size) m193 m194 m195 m5 m196 1 ⟨rfl, hdX8_error⟩ ⟨Nat.le_of_ble_eq_true rfl, Nat.le_of_ble_eq_true rfl⟩ ⟨rfl, rfl⟩ hP hD hS 0 8 rfl rfl rfl [0, 2] rfl rfl rfl hl.1 rfl (Nat.le_of_ble_eq_true rfl) dX8_loose_34 ⟨Nat.zero_le _, Nat.zero_le _⟩) hP hD hS hA [0, 2] rfl rfl rfl (fun H locs n2 hP hD hS => ?_)
      have hP : va_P G.1 vwCl [(t, .inr (8, [.ref row, .ref kpt, .int images, .ref errs, .ref bitsOf, .ref sizeOf, .ref cels, .ref broken, .ref isFit, .ref breaks, .int mfit, .int known, .ref act, .ref wth, .ref facts, .ref pile, .int laid, .int hre, .int opnd, .int bad, .int usg, .ref trc, .int trcd, .int isP])), (row, .inl (xI G, 400, .inl row_f)), (errs, .inl (xI G, 7, .inl u2.2)), (broken, .inl (xJ G, 729, .inr (.inl broken_f))), (isFit, .inl (xZ G, 729, .inl isFit_f)), (breaks, .inl (xI G, 64, .inl breaks_f)), (facts, .inl (xI G, 3, .inl facts_f)), (pile, .inl (xI G, 60, .inl pile_f))] H := hP
      have hD : va_D A [(t, .inr (8, [.ref row, .ref kpt, .int images, .ref errs, .ref bitsOf, .ref sizeOf, .ref cels, .ref broken, .ref isFit, .ref breaks, .int mfit, .int known, .ref act, .ref wth, .ref facts, .ref pile, .int laid, .int hre, .int opnd, .int bad, .int usg, .ref trc, .int trcd, .int isP])), (row, .inl (xI G, 400, .inl row_f)), (errs, .inl (xI G, 7, .inl u2.2)), (broken, .inl (xJ G, 729, .inr (.inl broken_f))), (isFit, .inl (xZ G, 729, .inl isFit_f)), (breaks, .inl (xI G, 64, .inl breaks_f)), (facts, .inl (xI G, 3, .inl facts_f)), (pile, .inl (xI G, 60, .inl pile_f))] := hD
      obtain rfl := Option.some.inj hF
      rw [← hQ]
      exact W.iret (v := u2.1) hx hb hr (fun t ht hW => ⟨⟨_, (), rfl, ⟨rfl, rfl⟩, xLf hP ht⟩, hS.F ht⟩) hS.2.2 dX8_loose_37
  · have hF := itP c7 hF
    refine lv_aload_n hx hb dX8_loose_10 rfl (lv_at hl 0 rfl) ?_
    refine lv_ldc (v := -1000000001) hx hb hown (hts _ (tcons _ m185)) dX8_loose_11 ?_
    obtain ⟨u2, e2, hF⟩ := bdS hF
    refine xEndI (xRunV (As := [.int (-1000000001 : Int32)]) (rest := []) hZ (c_X8_error G t row kpt errs bitsOf sizeOf cels broken isFit breaks act wth facts pile trc images mfit known laid hre opnd bad usg trcd isP errs_f (-1000000001 : Int32) u2 e2 l H.size) m193 m194 m195 m5 m196 1 ⟨rfl, hdX8_error⟩ ⟨Nat.le_of_ble_eq_true rfl, Nat.le_of_ble_eq_true rfl⟩ ⟨rfl, rfl⟩ hP hD hS 0 8 rfl rfl rfl [0, 2] rfl rfl rfl hl.1 rfl (Nat.le_of_ble_eq_true rfl) dX8_loose_13 ⟨Nat.zero_le _, Nat.zero_le _⟩) hP hD hS hA [0, 2] rfl rfl rfl (fun H locs n2 hP hD hS => ?_)
    have hP : va_P G.1 vwCl [(t, .inr (8, [.ref row, .ref kpt, .int images, .ref errs, .ref bitsOf, .ref sizeOf, .ref cels, .ref broken, .ref isFit, .ref breaks, .int mfit, .int known, .ref act, .ref wth, .ref facts, .ref pile, .int laid, .int hre, .int opnd, .int bad, .int usg, .ref trc, .int trcd, .int isP])), (row, .inl (xI G, 400, .inl row_f)), (errs, .inl (xI G, 7, .inl u2.2)), (broken, .inl (xJ G, 729, .inr (.inl broken_f))), (isFit, .inl (xZ G, 729, .inl isFit_f)), (breaks, .inl (xI G, 64, .inl breaks_f)), (facts, .inl (xI G, 3, .inl facts_f)), (pile, .inl (xI G, 60, .inl pile_f))] H := hP
    have hD : va_D A [(t, .inr (8, [.ref row, .ref kpt, .int images, .ref errs, .ref bitsOf, .ref sizeOf, .ref cels, .ref broken, .ref isFit, .ref breaks, .int mfit, .int known, .ref act, .ref wth, .ref facts, .ref pile, .int laid, .int hre, .int opnd, .int bad, .int usg, .ref trc, .int trcd, .int isP])), (row, .inl (xI G, 400, .inl row_f)), (errs, .inl (xI G, 7, .inl u2.2)), (broken, .inl (xJ G, 729, .inr (.inl broken_f))), (isFit, .inl (xZ G, 729, .inl isFit_f)), (breaks, .inl (xI G, 64, .inl breaks_f)), (facts, .inl (xI G, 3, .inl facts_f)), (pile, .inl (xI G, 60, .inl pile_f))] := hD
    obtain rfl := Option.some.inj hF
    rw [← hQ]
    exact W.iret (v := u2.1) hx hb hr (fun t ht hW => ⟨⟨_, (), rfl, ⟨rfl, rfl⟩, xLf hP ht⟩, hS.F ht⟩) hS.2.2 dX8_loose_16
