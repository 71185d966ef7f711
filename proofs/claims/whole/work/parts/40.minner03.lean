def F_X8_tellsOf (row_f : Nat → Int32) (br : Int32) (sy : Int32) : Option Int32 := bd (F_X8_bits (sy.toInt64)) (fun (u1 : Int32) => bd (F_X8_of row_f br (1 : Int32)) (fun (u2 : Int32) => bd (F_X8_of row_f br (0 : Int32)) (fun (u3 : Int32) => if u3 = (1 : Int32) then (some ((u1 + u2) / (2 : Int32))) else (if u3 = (2 : Int32) then (some ((u1 + u2) + (sy - sy / (5 : Int32) * (5 : Int32)))) else (if u3 = (4 : Int32) then (some (0 : Int32)) else (if u3 = (5 : Int32) then (some (((u1 + u2) + (sy - sy / (5 : Int32) * (5 : Int32))) - (1 : Int32))) else (if u3 = (6 : Int32) then (some ((u1 + u2) + ((row_f (0 : Int32).toNatClampNeg) - (row_f (0 : Int32).toNatClampNeg) / (3 : Int32) * (3 : Int32)))) else (some (u1 + u2)))))))))
theorem hdX8_tellsOf : yX8_tellsOf.cls ≠ "java/lang/invoke/MethodHandle" ∧ yX8_tellsOf.cls ≠ "java/lang/invoke/VarHandle" ∧ (parseMethodDescriptor yX8_tellsOf.desc).map (fun d => d.parameters.length) = some 2 := by decide +kernel
set_option maxHeartbeats 4000000 in
set_option maxRecDepth 100000 in
theorem c_X8_tellsOf (G : xG) (t : Nat) (row : Nat) (kpt : Nat) (errs : Nat) (bitsOf : Nat) (sizeOf : Nat) (cels : Nat) (broken : Nat) (isFit : Nat) (breaks : Nat) (act : Nat) (wth : Nat) (facts : Nat) (pile : Nat) (trc : Nat) (images : Int32) (mfit : Int32) (known : Int32) (laid : Int32) (hre : Int32) (opnd : Int32) (bad : Int32) (usg : Int32) (trcd : Int32) (isP : Int32) (row_f : Nat → Int32) (br : Int32) (sy : Int32)  (u : Int32) (hF : F_X8_tellsOf row_f br sy = some u) : Ki G .int yX8_tellsOf (Cond.code yX8_tellsOf cX8_tellsOf 4 (some .int) :: TBL) { frames := 1, cells := 0, slots := 0, locals := 24 } [.ref t, .int br, .int sy] [(t, .inr (8, [.ref row, .ref kpt, .int images, .ref errs, .ref bitsOf, .ref sizeOf, .ref cels, .ref broken, .ref isFit, .ref breaks, .int mfit, .int known, .ref act, .ref wth, .ref facts, .ref pile, .int laid, .int hre, .int opnd, .int bad, .int usg, .ref trc, .int trcd, .int isP])), (row, .inl (xI G, 400, .inl row_f))] [(t, .inr (8, [.ref row, .ref kpt, .int images, .ref errs, .ref bitsOf, .ref sizeOf, .ref cels, .ref broken, .ref isFit, .ref breaks, .int mfit, .int known, .ref act, .ref wth, .ref facts, .ref pile, .int laid, .int hre, .int opnd, .int bad, .int usg, .ref trc, .int trcd, .int isP])), (row, .inl (xI G, 400, .inl row_f))] u := by
  intro l sz
  refine Met.ofW (cc := cX8_tellsOf) (maxL := 4) (ret := (some .int)) (by decide) rfl ?_
  intro p e s m args below meth c s₁ B hml hv
  obtain ⟨rfl, hsz, hP, hD0, hm⟩ := hv
  have hx := B.exec
  have hb := B.bytes
  have hr := B.returns
  have hts := atoms_spec (ws := Cond.code yX8_tellsOf cX8_tellsOf 4 (some .int) :: TBL) B.pre
  have hown : s.vm.findClass RX8 = some m.cls := findClass_of_methodNamed B.named
  have hlocks := B.notSynchronized
  subst hsz
  have hD := hD0.self (sz := s.heap.size)
  generalize hAe : va_A [(t, .inr (8, [.ref row, .ref kpt, .int images, .ref errs, .ref bitsOf, .ref sizeOf, .ref cels, .ref broken, .ref isFit, .ref breaks, .int mfit, .int known, .ref act, .ref wth, .ref facts, .ref pile, .int laid, .int hre, .int opnd, .int bad, .int usg, .ref trc, .int trcd, .int isP])), (row, .inl (xI G, 400, .inl row_f))] s.heap.size = A at hD hm ⊢
  have hA : ∀ q : Nat, s.heap.size ≤ q → A q := fun q h => by rw [← hAe]; exact Or.inr h
  have hK := hm.1
  have hZ : xAnd p m c cX8_tellsOf 4 s _ (Cond.code yX8_tellsOf cX8_tellsOf 4 (some .int) :: TBL) RX8 G A := ⟨⟨hx, hb, hml, hown, hts⟩, tcons, hA, hm⟩
  have hP : va_P G.1 vwCl [(t, .inr (8, [.ref row, .ref kpt, .int images, .ref errs, .ref bitsOf, .ref sizeOf, .ref cels, .ref broken, .ref isFit, .ref breaks, .int mfit, .int known, .ref act, .ref wth, .ref facts, .ref pile, .int laid, .int hre, .int opnd, .int bad, .int usg, .ref trc, .int trcd, .int isP])), (row, .inl (xI G, 400, .inl row_f))] s.heap := hP
  have hl := lv_entry ([.ref t, .int br, .int sy]) (n := 4) (Nat.le_of_ble_eq_true rfl)
  rw [lg_entry_eq]
  generalize (lg_sl ([.ref t, .int br, .int sy]) ++ List.replicate (4 - (lg_sl ([.ref t, .int br, .int sy])).length) Slot.unset).toArray = ls at hl ⊢
  have hl : lv_has ls 4 [(0, .ref t), (1, .int br), (2, .int sy)] := hl
  generalize hQ : MQ below _ _ s _ _ _ = Q
  refine xGo (A := A) hP (fun H locs hP hS => ?_)
  unfold F_X8_tellsOf at hF
  refine lv_iload_n hx hb dX8_tellsOf_0 rfl (lv_at hl 2 rfl) ?_
  refine lv_i2l hx hb dX8_tellsOf_1 rfl ?_
  obtain ⟨u1, e1, hF⟩ := bdS hF
  refine xEndI (xRunS (As := [.long (sy.toInt64)]) (rest := []) hZ (c_X8_bits G (sy.toInt64) u1 e1 l H.size) m414 m415 m5 m416 1 hdX8_bits ⟨Nat.le_of_ble_eq_true rfl, Nat.le_of_ble_eq_true rfl⟩ ⟨rfl, rfl⟩ hP hD hS [] rfl rfl rfl hl.1 rfl (Nat.le_of_ble_eq_true rfl) dX8_tellsOf_2 ⟨Nat.zero_le _, Nat.zero_le _⟩) hP hD hS hA [] rfl rfl rfl (fun H locs n1 hP hD hS => ?_)
  have hP : va_P G.1 vwCl [(t, .inr (8, [.ref row, .ref kpt, .int images, .ref errs, .ref bitsOf, .ref sizeOf, .ref cels, .ref broken, .ref isFit, .ref breaks, .int mfit, .int known, .ref act, .ref wth, .ref facts, .ref pile, .int laid, .int hre, .int opnd, .int bad, .int usg, .ref trc, .int trcd, .int isP])), (row, .inl (xI G, 400, .inl row_f))] H := hP
  have hD : va_D A [(t, .inr (8, [.ref row, .ref kpt, .int images, .ref errs, .ref bitsOf, .ref sizeOf, .ref cels, .ref broken, .ref isFit, .ref breaks, .int mfit, .int known, .ref act, .ref wth, .ref facts, .ref pile, .int laid, .int hre, .int opnd, .int bad, .int usg, .ref trc, .int trcd, .int isP])), (row, .inl (xI G, 400, .inl row_f))] := hD
  refine lv_aload_n hx hb dX8_tellsOf_5 rfl (lv_at hl 0 rfl) ?_
  refine lv_iload_n hx hb dX8_tellsOf_6 rfl (lv_at hl 1 rfl) ?_
  refine lv_iconst (v := 1) hx hb dX8_tellsOf_7 (by decide) ?_
  obtain ⟨u2, e2, hF⟩ := bdS hF
  refine xEndI (xRunV (As := [.int br, .int (1 : Int32)]) (rest := [.int u1]) hZ (c_X8_of G t row kpt errs bitsOf sizeOf cels broken isFit breaks act wth facts pile trc images mfit known laid hre opnd bad usg trcd isP row_f br (1 : Int32) u2 e2 l H.size) m291 m292 m293 m5 m294 2 ⟨rfl, hdX8_of⟩ ⟨Nat.le_of_ble_eq_true rfl, Nat.le_of_ble_eq_true rfl⟩ ⟨rfl, rfl⟩ hP hD hS 0 8 rfl rfl rfl [0, 1] rfl rfl rfl hl.1 rfl (Nat.le_of_ble_eq_true rfl) dX8_tellsOf_8 ⟨Nat.zero_le _, Nat.zero_le _⟩) hP hD hS hA [0, 1] rfl rfl rfl (fun H locs n2 hP hD hS => ?_)
  have hP : va_P G.1 vwCl [(t, .inr (8, [.ref row, .ref kpt, .int images, .ref errs, .ref bitsOf, .ref sizeOf, .ref cels, .ref broken, .ref isFit, .ref breaks, .int mfit, .int known, .ref act, .ref wth, .ref facts, .ref pile, .int laid, .int hre, .int opnd, .int bad, .int usg, .ref trc, .int trcd, .int isP])), (row, .inl (xI G, 400, .inl row_f))] H := hP
  have hD : va_D A [(t, .inr (8, [.ref row, .ref kpt, .int images, .ref errs, .ref bitsOf, .ref sizeOf, .ref cels, .ref broken, .ref isFit, .ref breaks, .int mfit, .int known, .ref act, .ref wth, .ref facts, .ref pile, .int laid, .int hre, .int opnd, .int bad, .int usg, .ref trc, .int trcd, .int isP])), (row, .inl (xI G, 400, .inl row_f))] := hD
  refine lv_iadd hx hb dX8_tellsOf_11 ?_
  refine lv_istore_n (lv' := [(3, .int (u1 + u2)), (0, .ref t), (1, .int br), (2, .int sy)]) hx hb dX8_tellsOf_12 rfl hl (by decide) rfl (fun ls hl => ?_)
  refine lv_aload_n hx hb dX8_tellsOf_13 rfl (lv_at hl 1 rfl) ?_
  refine lv_iload_n hx hb dX8_tellsOf_14 rfl (lv_at hl 2 rfl) ?_
  refine lv_iconst (v := 0) hx hb dX8_tellsOf_15 (by decide) ?_
  obtain ⟨u3, e3, hF⟩ := bdS hF
  refine xEndI (xRunV (As := [.int br, .int (0 : Int32)]) (rest := []) hZ (c_X8_of G t row kpt errs bitsOf sizeOf cels broken isFit breaks act wth facts pile trc images mfit known laid hre opnd bad usg trcd isP row_f br (0 : Int32) u3 e3 l H.size) m291 m292 m293 m5 m294 2 ⟨rfl, hdX8_of⟩ ⟨Nat.le_of_ble_eq_true rfl, Nat.le_of_ble_eq_true rfl⟩ ⟨rfl, rfl⟩ hP hD hS 0 8 rfl rfl rfl [0, 1] rfl rfl rfl hl.1 rfl (Nat.le_of_ble_eq_true rfl) dX8_tellsOf_16 ⟨Nat.zero_le _, Nat.zero_le _⟩) hP hD hS hA [0, 1] rfl rfl rfl (fun H locs n3 hP hD hS => ?_)
  have hP : va_P G.1 vwCl [(t, .inr (8, [.ref row, .ref kpt, .int images, .ref errs, .ref bitsOf, .ref sizeOf, .ref cels, .ref broken, .ref isFit, .ref breaks, .int mfit, .int known, .ref act, .ref wth, .ref facts, .ref pile, .int laid, .int hre, .int opnd, .int bad, .int usg, .ref trc, .int trcd, .int isP])), (row, .inl (xI G, 400, .inl row_f))] H := hP
  have hD : va_D A [(t, .inr (8, [.ref row, .ref kpt, .int images, .ref errs, .ref bitsOf, .ref sizeOf, .ref cels, .ref broken, .ref isFit, .ref breaks, .int mfit, .int known, .ref act, .ref wth, .ref facts, .ref pile, .int laid, .int hre, .int opnd, .int bad, .int usg, .ref trc, .int trcd, .int isP])), (row, .inl (xI G, 400, .inl row_f))] := hD
  by_cases c19_0 : u3 = (1 : Int32)
  · have hF := itP c19_0 hF
    refine lv_tableIn (off := 37) (tgt := 56) hx hb dX8_tellsOf_19 (by rw [c19_0]; decide) (by rw [c19_0]; decide) (by rw [c19_0]; rfl) (by decide) ?_
    refine lv_iload_n hx hb dX8_tellsOf_56 rfl (lv_at hl 0 rfl) ?_
    refine lv_iconst (v := 2) hx hb dX8_tellsOf_57 (by decide) ?_
    refine lv_idiv hx hb dX8_tellsOf_58 (by decide) ?_
    obtain rfl := Option.some.inj hF
    rw [← hQ]
    exact W.iret (v := ((u1 + u2) / (2 : Int32))) hx hb hr (fun t ht hW => ⟨⟨_, (), rfl, ⟨rfl, rfl⟩, xLf hP ht⟩, hS.F ht⟩) hS.2.2 dX8_tellsOf_59
  · have hF := itN c19_0 hF
    by_cases c19_1 : u3 = (2 : Int32)
    · have hF := itP c19_1 hF
      refine lv_tableIn (off := 41) (tgt := 60) hx hb dX8_tellsOf_19 (by rw [c19_1]; decide) (by rw [c19_1]; decide) (by rw [c19_1]; rfl) (by decide) ?_
      refine lv_iload_n hx hb dX8_tellsOf_60 rfl (lv_at hl 0 rfl) ?_
      refine lv_iload_n hx hb dX8_tellsOf_61 rfl (lv_at hl 3 rfl) ?_
      refine lv_iconst (v := 5) hx hb dX8_tellsOf_62 (by decide) ?_
      refine lv_irem hx hb dX8_tellsOf_63 (by decide) ?_
      refine lv_iadd hx hb dX8_tellsOf_64 ?_
      obtain rfl := Option.some.inj hF
      rw [← hQ]
      exact W.iret (v := ((u1 + u2) + (sy - sy / (5 : Int32) * (5 : Int32)))) hx hb hr (fun t ht hW => ⟨⟨_, (), rfl, ⟨rfl, rfl⟩, xLf hP ht⟩, hS.F ht⟩) hS.2.2 dX8_tellsOf_65
    · have hF := itN c19_1 hF
      by_cases c19_2 : u3 = (4 : Int32)
      · have hF := itP c19_2 hF
        refine lv_tableIn (off := 47) (tgt := 66) hx hb dX8_tellsOf_19 (by rw [c19_2]; decide) (by rw [c19_2]; decide) (by rw [c19_2]; rfl) (by decide) ?_
        refine lv_iconst (v := 0) hx hb dX8_tellsOf_66 (by decide) ?_
        obtain rfl := Option.some.inj hF
        rw [← hQ]
        exact W.iret (v := (0 : Int32)) hx hb hr (fun t ht hW => ⟨⟨_, (), rfl, ⟨rfl, rfl⟩, xLf hP ht⟩, hS.F ht⟩) hS.2.2 dX8_tellsOf_67
      · have hF := itN c19_2 hF
        by_cases c19_3 : u3 = (5 : Int32)
        · have hF := itP c19_3 hF
          refine lv_tableIn (off := 49) (tgt := 68) hx hb dX8_tellsOf_19 (by rw [c19_3]; decide) (by rw [c19_3]; decide) (by rw [c19_3]; rfl) (by decide) ?_
          refine lv_iload_n hx hb dX8_tellsOf_68 rfl (lv_at hl 0 rfl) ?_
          refine lv_iload_n hx hb dX8_tellsOf_69 rfl (lv_at hl 3 rfl) ?_
          refine lv_iconst (v := 5) hx hb dX8_tellsOf_70 (by decide) ?_
          refine lv_irem hx hb dX8_tellsOf_71 (by decide) ?_
          refine lv_iadd hx hb dX8_tellsOf_72 ?_
          refine lv_iconst (v := 1) hx hb dX8_tellsOf_73 (by decide) ?_
          refine lv_isub hx hb dX8_tellsOf_74 ?_
          obtain rfl := Option.some.inj hF
          rw [← hQ]
          exact W.iret (v := (((u1 + u2) + (sy - sy / (5 : Int32) * (5 : Int32))) - (1 : Int32))) hx hb hr (fun t ht hW => ⟨⟨_, (), rfl, ⟨rfl, rfl⟩, xLf hP ht⟩, hS.F ht⟩) hS.2.2 dX8_tellsOf_75
        · have hF := itN c19_3 hF
          by_cases c19_4 : u3 = (6 : Int32)
          · have hF := itP c19_4 hF
            refine lv_tableIn (off := 57) (tgt := 76) hx hb dX8_tellsOf_19 (by rw [c19_4]; decide) (by rw [c19_4]; decide) (by rw [c19_4]; rfl) (by decide) ?_
            refine lv_iload_n hx hb dX8_tellsOf_76 rfl (lv_at hl 0 rfl) ?_
            refine lv_aload_n hx hb dX8_tellsOf_77 rfl (lv_at hl 1 rfl) ?_
            refine va_get (ci := 8) (v := .ref row) (C := RX8) (T := TX8) (N := 24) hx hb hts (fun w h => tcons w (xin8 w h)) hown hK hP 0 rfl rfl 0 (by decide) (hts _ (tcons _ m137)) (fun _ h9 => h9) rfl dX8_tellsOf_78 ?_
            refine lv_iconst (v := 0) hx hb dX8_tellsOf_81 (by decide) ?_
            refine va_iald hx hb hK hP 1 0 rfl rfl (by unfold vp_in; decide) dX8_tellsOf_82 ?_
            refine lv_iconst (v := 3) hx hb dX8_tellsOf_83 (by decide) ?_
            refine lv_irem hx hb dX8_tellsOf_84 (by decide) ?_
            refine lv_iadd hx hb dX8_tellsOf_85 ?_
            obtain rfl := Option.some.inj hF
            rw [← hQ]
            exact W.iret (v := ((u1 + u2) + ((row_f (0 : Int32).toNatClampNeg) - (row_f (0 : Int32).toNatClampNeg) / (3 : Int32) * (3 : Int32)))) hx hb hr (fun t ht hW => ⟨⟨_, (), rfl, ⟨rfl, rfl⟩, xLf hP ht⟩, hS.F ht⟩) hS.2.2 dX8_tellsOf_86
          · have hF := itN c19_4 hF
            refine xTab (tgt := 87) hx hb dX8_tellsOf_19 (by have h0 : u3.toInt ≠ 1 := xNe c19_0; have h1 : u3.toInt ≠ 2 := xNe c19_1; have h2 : u3.toInt ≠ 4 := xNe c19_2; have h3 : u3.toInt ≠ 5 := xNe c19_3; have h4 : u3.toInt ≠ 6 := xNe c19_4; rcases (show u3.toInt < 1 ∨ 6 < u3.toInt ∨ u3.toInt = 3 by omega) with h | h | h; exact Or.inl h; exact Or.inr (Or.inl h); all_goals exact Or.inr (Or.inr (by rw [h]; rfl))) (by decide) ?_
            refine lv_iload_n hx hb dX8_tellsOf_87 rfl (lv_at hl 0 rfl) ?_
            obtain rfl := Option.some.inj hF
            rw [← hQ]
            exact W.iret (v := (u1 + u2)) hx hb hr (fun t ht hW => ⟨⟨_, (), rfl, ⟨rfl, rfl⟩, xLf hP ht⟩, hS.F ht⟩) hS.2.2 dX8_tellsOf_88
def F_X8_doesAvoid (mfit : Int32) (known : Int32) (row_f : Nat → Int32) (broken_f : Nat → Int64) (isFit_f : Nat → Int32) (breaks_f : Nat → Int32) (facts_f : Nat → Int32) (pile_f : Nat → Int32) (br : Int32) (sy : Int32) : Option (Int32 × Int32 × Int32 × (Nat → Int32) × (Nat → Int32) × (Nat → Int32) × (Nat → Int32)) := bd (F_X8_doesShun mfit known row_f broken_f isFit_f breaks_f br sy) (fun (u1 : (Int32 × Int32 × Int32 × (Nat → Int32) × (Nat → Int32))) => if u1.1 = 0 then (if (sy < 0 ∨ 64 ≤ sy.toNatClampNeg) then none else (bd (F_X8_gives row_f facts_f pile_f (0 : Int32) (0 : Int32) (u1.2.2.2.2 sy.toNatClampNeg) u1.2.1) (fun (u2 : (Int32 × (Nat → Int32) × (Nat → Int32))) => if u2.1 = (1 : Int32) then (some ((1 : Int32), u1.2.1, u1.2.2.1, u1.2.2.2.1, u1.2.2.2.2, u2.2.1, u2.2.2)) else (some ((0 : Int32), u1.2.1, u1.2.2.1, u1.2.2.2.1, u1.2.2.2.2, u2.2.1, u2.2.2))))) else (if (sy < 0 ∨ 64 ≤ sy.toNatClampNeg) then none else (bd (F_X8_gives row_f facts_f pile_f (0 : Int32) (1 : Int32) (u1.2.2.2.2 sy.toNatClampNeg) u1.2.1) (fun (u2 : (Int32 × (Nat → Int32) × (Nat → Int32))) => if u2.1 = (1 : Int32) then (some ((1 : Int32), u1.2.1, u1.2.2.1, u1.2.2.2.1, u1.2.2.2.2, u2.2.1, u2.2.2)) else (some ((0 : Int32), u1.2.1, u1.2.2.1, u1.2.2.2.1, u1.2.2.2.2, u2.2.1, u2.2.2))))))
theorem hdX8_doesAvoid : yX8_doesAvoid.cls ≠ "java/lang/invoke/MethodHandle" ∧ yX8_doesAvoid.cls ≠ "java/lang/invoke/VarHandle" ∧ (parseMethodDescriptor yX8_doesAvoid.desc).map (fun d => d.parameters.length) = some 2 := by decide +kernel
set_option maxHeartbeats 4000000 in
set_option maxRecDepth 100000 in
theorem c_X8_doesAvoid (G : xG) (t : Nat) (row : Nat) (kpt : Nat) (errs : Nat) (bitsOf : Nat) (sizeOf : Nat) (cels : Nat) (broken : Nat) (isFit : Nat) (breaks : Nat) (act : Nat) (wth : Nat) (facts : Nat) (pile : Nat) (trc : Nat) (images : Int32) (mfit : Int32) (known : Int32) (laid : Int32) (hre : Int32) (opnd : Int32) (bad : Int32) (usg : Int32) (trcd : Int32) (isP : Int32) (row_f : Nat → Int32) (broken_f : Nat → Int64) (isFit_f : Nat → Int32) (breaks_f : Nat → Int32) (facts_f : Nat → Int32) (pile_f : Nat → Int32) (br : Int32) (sy : Int32)  (u : (Int32 × Int32 × Int32 × (Nat → Int32) × (Nat → Int32) × (Nat → Int32) × (Nat → Int32))) (hF : F_X8_doesAvoid mfit known row_f broken_f isFit_f breaks_f facts_f pile_f br sy = some u) : Ki G .boolean yX8_doesAvoid (Cond.code yX8_doesAvoid cX8_doesAvoid 4 (some .boolean) :: TBL) { frames := 5, cells := 0, slots := 0, locals := 114 } [.ref t, .int br, .int sy] [(t, .inr (8, [.ref row, .ref kpt, .int images, .ref errs, .ref bitsOf, .ref sizeOf, .ref cels, .ref broken, .ref isFit, .ref breaks, .int mfit, .int known, .ref act, .ref wth, .ref facts, .ref pile, .int laid, .int hre, .int opnd, .int bad, .int usg, .ref trc, .int trcd, .int isP])), (row, .inl (xI G, 400, .inl row_f)), (broken, .inl (xJ G, 729, .inr (.inl broken_f))), (isFit, .inl (xZ G, 729, .inl isFit_f)), (breaks, .inl (xI G, 64, .inl breaks_f)), (facts, .inl (xI G, 3, .inl facts_f)), (pile, .inl (xI G, 60, .inl pile_f))] [(t, .inr (8, [.ref row, .ref kpt, .int images, .ref errs, .ref bitsOf, .ref sizeOf, .ref cels, .ref broken, .ref isFit, .ref breaks, .int u.2.1, .int u.2.2.1, .ref act, .ref wth, .ref facts, .ref pile, .int laid, .int hre, .int opnd, .int bad, .int usg, .ref trc, .int trcd, .int isP])), (row, .inl (xI G, 400, .inl row_f)), (broken, .inl (xJ G, 729, .inr (.inl broken_f))), (isFit, .inl (xZ G, 729, .inl u.2.2.2.1)), (breaks, .inl (xI G, 64, .inl u.2.2.2.2.1)), (facts, .inl (xI G, 3, .inl u.2.2.2.2.2.1)), (pile, .inl (xI G, 60, .inl u.2.2.2.2.2.2))] u.1 := by
  intro l sz
  refine Met.ofW (cc := cX8_doesAvoid) (maxL := 4) (ret := (some .boolean)) (by decide) rfl ?_
  intro p e s m args below meth c s₁ B hml hv
  obtain ⟨rfl, hsz, hP, hD0, hm⟩ := hv
  have hx := B.exec
  have hb := B.bytes
  have hr := B.returns
  have hts := atoms_spec (ws := Cond.code yX8_doesAvoid cX8_doesAvoid 4 (some .boolean) :: TBL) B.pre
  have hown : s.vm.findClass RX8 = some m.cls := findClass_of_methodNamed B.named
  have hlocks := B.notSynchronized
  subst hsz
  have hD := hD0.self (sz := s.heap.size)
  generalize hAe : va_A [(t, .inr (8, [.ref row, .ref kpt, .int images, .ref errs, .ref bitsOf, .ref sizeOf, .ref cels, .ref broken, .ref isFit, .ref breaks, .int mfit, .int known, .ref act, .ref wth, .ref facts, .ref pile, .int laid, .int hre, .int opnd, .int bad, .int usg, .ref trc, .int trcd, .int isP])), (row, .inl (xI G, 400, .inl row_f)), (broken, .inl (xJ G, 729, .inr (.inl broken_f))), (isFit, .inl (xZ G, 729, .inl isFit_f)), (breaks, .inl (xI G, 64, .inl breaks_f)), (facts, .inl (xI G, 3, .inl facts_f)), (pile, .inl (xI G, 60, .inl pile_f))] s.heap.size = A at hD hm ⊢
  have hA : ∀ q : Nat, s.heap.size ≤ q → A q := fun q h => by rw [← hAe]; exact Or.inr h
  have hK := hm.1
  have hZ : xAnd p m c cX8_doesAvoid 4 s _ (Cond.code yX8_doesAvoid cX8_doesAvoid 4 (some .boolean) :: TBL) RX8 G A := ⟨⟨hx, hb, hml, hown, hts⟩, tcons, hA, hm⟩
  have hP : va_P G.1 vwCl [(t, .inr (8, [.ref row, .ref kpt, .int images, .ref errs, .ref bitsOf, .ref sizeOf, .ref cels, .ref broken, .ref isFit, .ref breaks, .int mfit, .int known, .ref act, .ref wth, .ref facts, .ref pile, .int laid, .int hre, .int opnd, .int bad, .int usg, .ref trc, .int trcd, .int isP])), (row, .inl (xI G, 400, .inl row_f)), (broken, .inl (xJ G, 729, .inr (.inl broken_f))), (isFit, .inl (xZ G, 729, .inl isFit_f)), (breaks, .inl (xI G, 64, .inl breaks_f)), (facts, .inl (xI G, 3, .inl facts_f)), (pile, .inl (xI G, 60, .inl pile_f))] s.heap := hP
  have hl := lv_entry ([.ref t, .int br, .int sy]) (n := 4) (Nat.le_of_ble_eq_true rfl)
  rw [lg_entry_eq]
  generalize (lg_sl ([.ref t, .int br, .int sy]) ++ List.replicate (4 - (lg_sl ([.ref t, .int br, .int sy])).length) Slot.unset).toArray = ls at hl ⊢
  have hl : lv_has ls 4 [(0, .ref t), (1, .int br), (2, .int sy)] := hl
  generalize hQ : MQ below _ _ s _ _ _ = Q
  refine xGo (A := A) hP (fun H locs hP hS => ?_)
  unfold F_X8_doesAvoid at hF
  refine lv_aload_n hx hb dX8_doesAvoid_0 rfl (lv_at hl 0 rfl) ?_
  refine lv_iload_n hx hb dX8_doesAvoid_1 rfl (lv_at hl 1 rfl) ?_
  refine lv_iload_n hx hb dX8_doesAvoid_2 rfl (lv_at hl 2 rfl) ?_
  obtain ⟨u1, e1, hF⟩ := bdS hF
  refine xEndI (xRunV (As := [.int br, .int sy]) (rest := []) hZ (c_X8_doesShun G t row kpt errs bitsOf sizeOf cels broken isFit breaks act wth facts pile trc images mfit known laid hre opnd bad usg trcd isP row_f broken_f isFit_f breaks_f br sy u1 e1 l H.size) m304 m305 m306 m5 m307 2 ⟨rfl, hdX8_doesShun⟩ ⟨Nat.le_of_ble_eq_true rfl, Nat.le_of_ble_eq_true rfl⟩ ⟨rfl, rfl⟩ hP hD hS 0 8 rfl rfl rfl [0, 1, 2, 3, 4] rfl rfl rfl hl.1 rfl (Nat.le_of_ble_eq_true rfl) dX8_doesAvoid_3 ⟨Nat.zero_le _, Nat.zero_le _⟩) hP hD hS hA [0, 1, 2, 3, 4] rfl rfl rfl (fun H locs n1 hP hD hS => ?_)
  have hP : va_P G.1 vwCl [(t, .inr (8, [.ref row, .ref kpt, .int images, .ref errs, .ref bitsOf, .ref sizeOf, .ref cels, .ref broken, .ref isFit, .ref breaks, .int u1.2.1, .int u1.2.2.1, .ref act, .ref wth, .ref facts, .ref pile, .int laid, .int hre, .int opnd, .int bad, .int usg, .ref trc, .int trcd, .int isP])), (row, .inl (xI G, 400, .inl row_f)), (broken, .inl (xJ G, 729, .inr (.inl broken_f))), (isFit, .inl (xZ G, 729, .inl u1.2.2.2.1)), (breaks, .inl (xI G, 64, .inl u1.2.2.2.2)), (facts, .inl (xI G, 3, .inl facts_f)), (pile, .inl (xI G, 60, .inl pile_f))] H := hP
  have hD : va_D A [(t, .inr (8, [.ref row, .ref kpt, .int images, .ref errs, .ref bitsOf, .ref sizeOf, .ref cels, .ref broken, .ref isFit, .ref breaks, .int u1.2.1, .int u1.2.2.1, .ref act, .ref wth, .ref facts, .ref pile, .int laid, .int hre, .int opnd, .int bad, .int usg, .ref trc, .int trcd, .int isP])), (row, .inl (xI G, 400, .inl row_f)), (broken, .inl (xJ G, 729, .inr (.inl broken_f))), (isFit, .inl (xZ G, 729, .inl u1.2.2.2.1)), (breaks, .inl (xI G, 64, .inl u1.2.2.2.2)), (facts, .inl (xI G, 3, .inl facts_f)), (pile, .inl (xI G, 60, .inl pile_f))] := hD
  refine lv_istore_n (lv' := [(3, .int u1.1), (0, .ref t), (1, .int br), (2, .int sy)]) hx hb dX8_doesAvoid_6 rfl hl (by decide) rfl (fun ls hl => ?_)
  refine lv_aload_n hx hb dX8_doesAvoid_7 rfl (lv_at hl 1 rfl) ?_
  refine lv_iconst (v := 0) hx hb dX8_doesAvoid_8 (by decide) ?_
  refine lv_iload_n hx hb dX8_doesAvoid_9 rfl (lv_at hl 0 rfl) ?_
  refine lv_if_eq (tgt := 17) hx hb dX8_doesAvoid_10 (by decide) (fun c10 => ?_) (fun c10 => ?_)
  · have hF := itP c10 hF
    refine lv_iconst (v := 0) hx hb dX8_doesAvoid_17 (by decide) ?_
    refine lv_aload_n hx hb dX8_doesAvoid_18 rfl (lv_at hl 1 rfl) ?_
    refine va_get (ci := 8) (v := .ref breaks) (C := RX8) (T := TX8) (N := 24) hx hb hts (fun w h => tcons w (xin8 w h)) hown hK hP 0 rfl rfl 9 (by decide) (hts _ (tcons _ m145)) (fun _ h9 => h9) rfl dX8_doesAvoid_19 ?_
    refine lv_iload_n hx hb dX8_doesAvoid_22 rfl (lv_at hl 3 rfl) ?_
    obtain ⟨g23, hF⟩ := gdS hF
    refine va_iald hx hb hK hP 4 0 rfl rfl g23 dX8_doesAvoid_23 ?_
    refine lv_aload_n hx hb dX8_doesAvoid_24 rfl (lv_at hl 1 rfl) ?_
    refine va_get (ci := 8) (v := .int u1.2.1) (C := RX8) (T := TX8) (N := 24) hx hb hts (fun w h => tcons w (xin8 w h)) hown hK hP 0 rfl rfl 10 (by decide) (hts _ (tcons _ m303)) (fun _ h9 => h9) rfl dX8_doesAvoid_25 ?_
    obtain ⟨u2, e2, hF⟩ := bdS hF
    refine xEndI (xRunV (As := [.int (0 : Int32), .int (0 : Int32), .int (u1.2.2.2.2 sy.toNatClampNeg), .int u1.2.1]) (rest := []) hZ (c_X8_gives G t row kpt errs bitsOf sizeOf cels broken isFit breaks act wth facts pile trc images u1.2.1 u1.2.2.1 laid hre opnd bad usg trcd isP row_f facts_f pile_f (0 : Int32) (0 : Int32) (u1.2.2.2.2 sy.toNatClampNeg) u1.2.1 u2 e2 l H.size) m325 m326 m327 m5 m328 4 ⟨rfl, hdX8_gives⟩ ⟨Nat.le_of_ble_eq_true rfl, Nat.le_of_ble_eq_true rfl⟩ ⟨rfl, rfl⟩ hP hD hS 0 8 rfl rfl rfl [0, 1, 5, 6] rfl rfl rfl hl.1 rfl (Nat.le_of_ble_eq_true rfl) dX8_doesAvoid_28 ⟨Nat.zero_le _, Nat.zero_le _⟩) hP hD hS hA [0, 1, 5, 6] rfl rfl rfl (fun H locs n2 hP hD hS => ?_)
    have hP : va_P G.1 vwCl [(t, .inr (8, [.ref row, .ref kpt, .int images, .ref errs, .ref bitsOf, .ref sizeOf, .ref cels, .ref broken, .ref isFit, .ref breaks, .int u1.2.1, .int u1.2.2.1, .ref act, .ref wth, .ref facts, .ref pile, .int laid, .int hre, .int opnd, .int bad, .int usg, .ref trc, .int trcd, .int isP])), (row, .inl (xI G, 400, .inl row_f)), (broken, .inl (xJ G, 729, .inr (.inl broken_f))), (isFit, .inl (xZ G, 729, .inl u1.2.2.2.1)), (breaks, .inl (xI G, 64, .inl u1.2.2.2.2)), (facts, .inl (xI G, 3, .inl u2.2.1)), (pile, .inl (xI G, 60, .inl u2.2.2))] H := hP
    have hD : va_D A [(t, .inr (8, [.ref row, .ref kpt, .int images, .ref errs, .ref bitsOf, .ref sizeOf, .ref cels, .ref broken, .ref isFit, .ref breaks, .int u1.2.1, .int u1.2.2.1, .ref act, .ref wth, .ref facts, .ref pile, .int laid, .int hre, .int opnd, .int bad, .int usg, .ref trc, .int trcd, .int isP])), (row, .inl (xI G, 400, .inl row_f)), (broken, .inl (xJ G, 729, .inr (.inl broken_f))), (isFit, .inl (xZ G, 729, .inl u1.2.2.2.1)), (breaks, .inl (xI G, 64, .inl u1.2.2.2.2)), (facts, .inl (xI G, 3, .inl u2.2.1)), (pile, .inl (xI G, 60, .inl u2.2.2))] := hD
    refine lv_iconst (v := 1) hx hb dX8_doesAvoid_31 (by decide) ?_
    refine lv_icmp_ne (tgt := 39) hx hb dX8_doesAvoid_32 (by decide) (fun c32 => ?_) (fun c32 => ?_)
    · have hF := itN c32 hF
      refine lv_iconst (v := 0) hx hb dX8_doesAvoid_39 (by decide) ?_
      obtain rfl := Option.some.inj hF
      rw [← hQ]
      exact W.zret (v := (0 : Int32)) hx hb hr (show narrow .boolean (.int (0 : Int32)) = .int (0 : Int32) from by decide) (fun t ht hW => ⟨⟨_, (), rfl, ⟨rfl, (show narrow .boolean (.int (0 : Int32)) = .int (0 : Int32) from by decide)⟩, xLf hP ht⟩, hS.F ht⟩) hS.2.2 dX8_doesAvoid_40
    · have hF := itP c32 hF
      refine lv_iconst (v := 1) hx hb dX8_doesAvoid_35 (by decide) ?_
      refine lv_goto (tgt := 40) hx hb dX8_doesAvoid_36 (by decide) ?_
      obtain rfl := Option.some.inj hF
      rw [← hQ]
      exact W.zret (v := (1 : Int32)) hx hb hr (show narrow .boolean (.int (1 : Int32)) = .int (1 : Int32) from by decide) (fun t ht hW => ⟨⟨_, (), rfl, ⟨rfl, (show narrow .boolean (.int (1 : Int32)) = .int (1 : Int32) from by decide)⟩, xLf hP ht⟩, hS.F ht⟩) hS.2.2 dX8_doesAvoid_40
  · have hF := itN c10 hF
    refine lv_iconst (v := 1) hx hb dX8_doesAvoid_13 (by decide) ?_
    refine lv_goto (tgt := 18) hx hb dX8_doesAvoid_14 (by decide) ?_
    refine lv_aload_n hx hb dX8_doesAvoid_18 rfl (lv_at hl 1 rfl) ?_
    refine va_get (ci := 8) (v := .ref breaks) (C := RX8) (T := TX8) (N := 24) hx hb hts (fun w h => tcons w (xin8 w h)) hown hK hP 0 rfl rfl 9 (by decide) (hts _ (tcons _ m145)) (fun _ h9 => h9) rfl dX8_doesAvoid_19 ?_
    refine lv_iload_n hx hb dX8_doesAvoid_22 rfl (lv_at hl 3 rfl) ?_
    obtain ⟨g23, hF⟩ := gdS hF
    refine va_iald hx hb hK hP 4 0 rfl rfl g23 dX8_doesAvoid_23 ?_
    refine lv_aload_n hx hb dX8_doesAvoid_24 rfl (lv_at hl 1 rfl) ?_
    refine va_get (ci := 8) (v := .int u1.2.1) (C := RX8) (T := TX8) (N := 24) hx hb hts (fun w h => tcons w (xin8 w h)) hown hK hP 0 rfl rfl 10 (by decide) (hts _ (tcons _ m303)) (fun _ h9 => h9) rfl dX8_doesAvoid_25 ?_
    obtain ⟨u2, e2, hF⟩ := bdS hF
    refine xEndI (xRunV (As := [.int (0 : Int32), .int (1 : Int32), .int (u1.2.2.2.2 sy.toNatClampNeg), .int u1.2.1]) (rest := []) hZ (c_X8_gives G t row kpt errs bitsOf sizeOf cels broken isFit breaks act wth facts pile trc images u1.2.1 u1.2.2.1 laid hre opnd bad usg trcd isP row_f facts_f pile_f (0 : Int32) (1 : Int32) (u1.2.2.2.2 sy.toNatClampNeg) u1.2.1 u2 e2 l H.size) m325 m326 m327 m5 m328 4 ⟨rfl, hdX8_gives⟩ ⟨Nat.le_of_ble_eq_true rfl, Nat.le_of_ble_eq_true rfl⟩ ⟨rfl, rfl⟩ hP hD hS 0 8 rfl rfl rfl [0, 1, 5, 6] rfl rfl rfl hl.1 rfl (Nat.le_of_ble_eq_true rfl) dX8_doesAvoid_28 ⟨Nat.zero_le _, Nat.zero_le _⟩) hP hD hS hA [0, 1, 5, 6] rfl rfl rfl (fun H locs n2 hP hD hS => ?_)
    have hP : va_P G.1 vwCl [(t, .inr (8, [.ref row, .ref kpt, .int images, .ref errs, .ref bitsOf, .ref sizeOf, .ref cels, .ref broken, .ref isFit, .ref breaks, .int u1.2.1, .int u1.2.2.1, .ref act, .ref wth, .ref facts, .ref pile, .int laid, .int hre, .int opnd, .int bad, .int usg, .ref trc, .int trcd, .int isP])), (row, .inl (xI G, 400, .inl row_f)), (broken, .inl (xJ G, 729, .inr (.inl broken_f))), (isFit, .inl (xZ G, 729, .inl u1.2.2.2.1)), (breaks, .inl (xI G, 64, .inl u1.2.2.2.2)), (facts, .inl (xI G, 3, .inl u2.2.1)), (pile, .inl (xI G, 60, .inl u2.2.2))] H := hP
    have hD : va_D A [(t, .inr (8, [.ref row, .ref kpt, .int images, .ref errs, .ref bitsOf, .ref sizeOf, .ref cels, .ref broken, .ref isFit, .ref breaks, .int u1.2.1, .int u1.2.2.1, .ref act, .ref wth, .ref facts, .ref pile, .int laid, .int hre, .int opnd, .int bad, .int usg, .ref trc, .int trcd, .int isP])), (row, .inl (xI G, 400, .inl row_f)), (broken, .inl (xJ G, 729, .inr (.inl broken_f))), (isFit, .inl (xZ G, 729, .inl u1.2.2.2.1)), (breaks, .inl (xI G, 64, .inl u1.2.2.2.2)), (facts, .inl (xI G, 3, .inl u2.2.1)), (pile, .inl (xI G, 60, .inl u2.2.2))] := hD
    refine lv_iconst (v := 1) hx hb dX8_doesAvoid_31 (by decide) ?_
    refine lv_icmp_ne (tgt := 39) hx hb dX8_doesAvoid_32 (by decide) (fun c32 => ?_) (fun c32 => ?_)
    · have hF := itN c32 hF
      refine lv_iconst (v := 0) hx hb dX8_doesAvoid_39 (by decide) ?_
      obtain rfl := Option.some.inj hF
      rw [← hQ]
      exact W.zret (v := (0 : Int32)) hx hb hr (show narrow .boolean (.int (0 : Int32)) = .int (0 : Int32) from by decide) (fun t ht hW => ⟨⟨_, (), rfl, ⟨rfl, (show narrow .boolean (.int (0 : Int32)) = .int (0 : Int32) from by decide)⟩, xLf hP ht⟩, hS.F ht⟩) hS.2.2 dX8_doesAvoid_40
    · have hF := itP c32 hF
      refine lv_iconst (v := 1) hx hb dX8_doesAvoid_35 (by decide) ?_
      refine lv_goto (tgt := 40) hx hb dX8_doesAvoid_36 (by decide) ?_
      obtain rfl := Option.some.inj hF
      rw [← hQ]
      exact W.zret (v := (1 : Int32)) hx hb hr (show narrow .boolean (.int (1 : Int32)) = .int (1 : Int32) from by decide) (fun t ht hW => ⟨⟨_, (), rfl, ⟨rfl, (show narrow .boolean (.int (1 : Int32)) = .int (1 : Int32) from by decide)⟩, xLf hP ht⟩, hS.F ht⟩) hS.2.2 dX8_doesAvoid_40
def F_X8_talkOf (row_f : Nat → Int32) (facts_f : Nat → Int32) (pile_f : Nat → Int32) (br : Int32) (sy : Int32) : Option (Int32 × (Nat → Int32) × (Nat → Int32)) := bd (F_X8_tellsOf row_f br sy) (fun (u1 : Int32) => bd (F_X8_gives row_f facts_f pile_f (1 : Int32) u1 sy ((row_f (0 : Int32).toNatClampNeg) - (row_f (0 : Int32).toNatClampNeg) / (7 : Int32) * (7 : Int32))) (fun (u2 : (Int32 × (Nat → Int32) × (Nat → Int32))) => some (u2.1, u2.2.1, u2.2.2)))
theorem hdX8_talkOf : yX8_talkOf.cls ≠ "java/lang/invoke/MethodHandle" ∧ yX8_talkOf.cls ≠ "java/lang/invoke/VarHandle" ∧ (parseMethodDescriptor yX8_talkOf.desc).map (fun d => d.parameters.length) = some 2 := by decide +kernel
set_option maxHeartbeats 4000000 in
set_option maxRecDepth 100000 in
theorem c_X8_talkOf (G : xG) (t : Nat) (row : Nat) (kpt : Nat) (errs : Nat) (bitsOf : Nat) (sizeOf : Nat) (cels : Nat) (broken : Nat) (isFit : Nat) (breaks : Nat) (act : Nat) (wth : Nat) (facts : Nat) (pile : Nat) (trc : Nat) (images : Int32) (mfit : Int32) (known : Int32) (laid : Int32) (hre : Int32) (opnd : Int32) (bad : Int32) (usg : Int32) (trcd : Int32) (isP : Int32) (row_f : Nat → Int32) (facts_f : Nat → Int32) (pile_f : Nat → Int32) (br : Int32) (sy : Int32)  (u : (Int32 × (Nat → Int32) × (Nat → Int32))) (hF : F_X8_talkOf row_f facts_f pile_f br sy = some u) : Ki G .int yX8_talkOf (Cond.code yX8_talkOf cX8_talkOf 3 (some .int) :: TBL) { frames := 3, cells := 0, slots := 0, locals := 72 } [.ref t, .int br, .int sy] [(t, .inr (8, [.ref row, .ref kpt, .int images, .ref errs, .ref bitsOf, .ref sizeOf, .ref cels, .ref broken, .ref isFit, .ref breaks, .int mfit, .int known, .ref act, .ref wth, .ref facts, .ref pile, .int laid, .int hre, .int opnd, .int bad, .int usg, .ref trc, .int trcd, .int isP])), (row, .inl (xI G, 400, .inl row_f)), (facts, .inl (xI G, 3, .inl facts_f)), (pile, .inl (xI G, 60, .inl pile_f))] [(t, .inr (8, [.ref row, .ref kpt, .int images, .ref errs, .ref bitsOf, .ref sizeOf, .ref cels, .ref broken, .ref isFit, .ref breaks, .int mfit, .int known, .ref act, .ref wth, .ref facts, .ref pile, .int laid, .int hre, .int opnd, .int bad, .int usg, .ref trc, .int trcd, .int isP])), (row, .inl (xI G, 400, .inl row_f)), (facts, .inl (xI G, 3, .inl u.2.1)), (pile, .inl (xI G, 60, .inl u.2.2))] u.1 := by
  intro l sz
  refine Met.ofW (cc := cX8_talkOf) (maxL := 3) (ret := (some .int)) (by decide) rfl ?_
  intro p e s m args below meth c s₁ B hml hv
  obtain ⟨rfl, hsz, hP, hD0, hm⟩ := hv
  have hx := B.exec
  have hb := B.bytes
  have hr := B.returns
  have hts := atoms_spec (ws := Cond.code yX8_talkOf cX8_talkOf 3 (some .int) :: TBL) B.pre
  have hown : s.vm.findClass RX8 = some m.cls := findClass_of_methodNamed B.named
  have hlocks := B.notSynchronized
  subst hsz
  have hD := hD0.self (sz := s.heap.size)
  generalize hAe : va_A [(t, .inr (8, [.ref row, .ref kpt, .int images, .ref errs, .ref bitsOf, .ref sizeOf, .ref cels, .ref broken, .ref isFit, .ref breaks, .int mfit, .int known, .ref act, .ref wth, .ref facts, .ref pile, .int laid, .int hre, .int opnd, .int bad, .int usg, .ref trc, .int trcd, .int isP])), (row, .inl (xI G, 400, .inl row_f)), (facts, .inl (xI G, 3, .inl facts_f)), (pile, .inl (xI G, 60, .inl pile_f))] s.heap.size = A at hD hm ⊢
  have hA : ∀ q : Nat, s.heap.size ≤ q → A q := fun q h => by rw [← hAe]; exact Or.inr h
  have hK := hm.1
  have hZ : xAnd p m c cX8_talkOf 3 s _ (Cond.code yX8_talkOf cX8_talkOf 3 (some .int) :: TBL) RX8 G A := ⟨⟨hx, hb, hml, hown, hts⟩, tcons, hA, hm⟩
  have hP : va_P G.1 vwCl [(t, .inr (8, [.ref row, .ref kpt, .int images, .ref errs, .ref bitsOf, .ref sizeOf, .ref cels, .ref broken, .ref isFit, .ref breaks, .int mfit, .int known, .ref act, .ref wth, .ref facts, .ref pile, .int laid, .int hre, .int opnd, .int bad, .int usg, .ref trc, .int trcd, .int isP])), (row, .inl (xI G, 400, .inl row_f)), (facts, .inl (xI G, 3, .inl facts_f)), (pile, .inl (xI G, 60, .inl pile_f))] s.heap := hP
  have hl := lv_entry ([.ref t, .int br, .int sy]) (n := 3) (Nat.le_of_ble_eq_true rfl)
  rw [lg_entry_eq]
  generalize (lg_sl ([.ref t, .int br, .int sy]) ++ List.replicate (3 - (lg_sl ([.ref t, .int br, .int sy])).length) Slot.unset).toArray = ls at hl ⊢
  have hl : lv_has ls 3 [(0, .ref t), (1, .int br), (2, .int sy)] := hl
  generalize hQ : MQ below _ _ s _ _ _ = Q
  refine xGo (A := A) hP (fun H locs hP hS => ?_)
  unfold F_X8_talkOf at hF
  refine lv_aload_n hx hb dX8_talkOf_0 rfl (lv_at hl 0 rfl) ?_
  refine lv_iconst (v := 1) hx hb dX8_talkOf_1 (by decide) ?_
  refine lv_aload_n hx hb dX8_talkOf_2 rfl (lv_at hl 0 rfl) ?_
  refine lv_iload_n hx hb dX8_talkOf_3 rfl (lv_at hl 1 rfl) ?_
  refine lv_iload_n hx hb dX8_talkOf_4 rfl (lv_at hl 2 rfl) ?_
  obtain ⟨u1, e1, hF⟩ := bdS hF
  refine xEndI (xRunV (As := [.int br, .int sy]) (rest := [.int (1 : Int32), .ref t]) hZ (c_X8_tellsOf G t row kpt errs bitsOf sizeOf cels broken isFit breaks act wth facts pile trc images mfit known laid hre opnd bad usg trcd isP row_f br sy u1 e1 l H.size) m410 m411 m412 m5 m413 2 ⟨rfl, hdX8_tellsOf⟩ ⟨Nat.le_of_ble_eq_true rfl, Nat.le_of_ble_eq_true rfl⟩ ⟨rfl, rfl⟩ hP hD hS 0 8 rfl rfl rfl [0, 1] rfl rfl rfl hl.1 rfl (Nat.le_of_ble_eq_true rfl) dX8_talkOf_5 ⟨Nat.zero_le _, Nat.zero_le _⟩) hP hD hS hA [0, 1] rfl rfl rfl (fun H locs n1 hP hD hS => ?_)
  have hP : va_P G.1 vwCl [(t, .inr (8, [.ref row, .ref kpt, .int images, .ref errs, .ref bitsOf, .ref sizeOf, .ref cels, .ref broken, .ref isFit, .ref breaks, .int mfit, .int known, .ref act, .ref wth, .ref facts, .ref pile, .int laid, .int hre, .int opnd, .int bad, .int usg, .ref trc, .int trcd, .int isP])), (row, .inl (xI G, 400, .inl row_f)), (facts, .inl (xI G, 3, .inl facts_f)), (pile, .inl (xI G, 60, .inl pile_f))] H := hP
  have hD : va_D A [(t, .inr (8, [.ref row, .ref kpt, .int images, .ref errs, .ref bitsOf, .ref sizeOf, .ref cels, .ref broken, .ref isFit, .ref breaks, .int mfit, .int known, .ref act, .ref wth, .ref facts, .ref pile, .int laid, .int hre, .int opnd, .int bad, .int usg, .ref trc, .int trcd, .int isP])), (row, .inl (xI G, 400, .inl row_f)), (facts, .inl (xI G, 3, .inl facts_f)), (pile, .inl (xI G, 60, .inl pile_f))] := hD
  refine lv_iload_n hx hb dX8_talkOf_8 rfl (lv_at hl 2 rfl) ?_
  refine lv_aload_n hx hb dX8_talkOf_9 rfl (lv_at hl 0 rfl) ?_
  refine va_get (ci := 8) (v := .ref row) (C := RX8) (T := TX8) (N := 24) hx hb hts (fun w h => tcons w (xin8 w h)) hown hK hP 0 rfl rfl 0 (by decide) (hts _ (tcons _ m137)) (fun _ h9 => h9) rfl dX8_talkOf_10 ?_
  refine lv_iconst (v := 0) hx hb dX8_talkOf_13 (by decide) ?_
  refine va_iald hx hb hK hP 1 0 rfl rfl (by unfold vp_in; decide) dX8_talkOf_14 ?_
  refine lv_bipush (v := 7) hx hb dX8_talkOf_15 (by decide) ?_
  refine lv_irem hx hb dX8_talkOf_17 (by decide) ?_
  obtain ⟨u2, e2, hF⟩ := bdS hF
  refine xEndI (xRunV (As := [.int (1 : Int32), .int u1, .int sy, .int ((row_f (0 : Int32).toNatClampNeg) - (row_f (0 : Int32).toNatClampNeg) / (7 : Int32) * (7 : Int32))]) (rest := []) hZ (c_X8_gives G t row kpt errs bitsOf sizeOf cels broken isFit breaks act wth facts pile trc images mfit known laid hre opnd bad usg trcd isP row_f facts_f pile_f (1 : Int32) u1 sy ((row_f (0 : Int32).toNatClampNeg) - (row_f (0 : Int32).toNatClampNeg) / (7 : Int32) * (7 : Int32)) u2 e2 l H.size) m325 m326 m327 m5 m328 4 ⟨rfl, hdX8_gives⟩ ⟨Nat.le_of_ble_eq_true rfl, Nat.le_of_ble_eq_true rfl⟩ ⟨rfl, rfl⟩ hP hD hS 0 8 rfl rfl rfl [0, 1, 2, 3] rfl rfl rfl hl.1 rfl (Nat.le_of_ble_eq_true rfl) dX8_talkOf_18 ⟨Nat.zero_le _, Nat.zero_le _⟩) hP hD hS hA [0, 1, 2, 3] rfl rfl rfl (fun H locs n2 hP hD hS => ?_)
  have hP : va_P G.1 vwCl [(t, .inr (8, [.ref row, .ref kpt, .int images, .ref errs, .ref bitsOf, .ref sizeOf, .ref cels, .ref broken, .ref isFit, .ref breaks, .int mfit, .int known, .ref act, .ref wth, .ref facts, .ref pile, .int laid, .int hre, .int opnd, .int bad, .int usg, .ref trc, .int trcd, .int isP])), (row, .inl (xI G, 400, .inl row_f)), (facts, .inl (xI G, 3, .inl u2.2.1)), (pile, .inl (xI G, 60, .inl u2.2.2))] H := hP
  have hD : va_D A [(t, .inr (8, [.ref row, .ref kpt, .int images, .ref errs, .ref bitsOf, .ref sizeOf, .ref cels, .ref broken, .ref isFit, .ref breaks, .int mfit, .int known, .ref act, .ref wth, .ref facts, .ref pile, .int laid, .int hre, .int opnd, .int bad, .int usg, .ref trc, .int trcd, .int isP])), (row, .inl (xI G, 400, .inl row_f)), (facts, .inl (xI G, 3, .inl u2.2.1)), (pile, .inl (xI G, 60, .inl u2.2.2))] := hD
  obtain rfl := Option.some.inj hF
  rw [← hQ]
  exact W.iret (v := u2.1) hx hb hr (fun t ht hW => ⟨⟨_, (), rfl, ⟨rfl, rfl⟩, xLf hP ht⟩, hS.F ht⟩) hS.2.2 dX8_talkOf_21
def F_X8_isKm (km : Int32) : Option Int32 := bd (F_X8_in km (0 : Int32) (69 : Int32)) (fun (u1 : Int32) => some u1)
theorem hdX8_isKm : yX8_isKm.cls ≠ "java/lang/invoke/MethodHandle" ∧ yX8_isKm.cls ≠ "java/lang/invoke/VarHandle" ∧ (parseMethodDescriptor yX8_isKm.desc).map (fun d => d.parameters.length) = some 1 := by decide +kernel
set_option maxHeartbeats 4000000 in
set_option maxRecDepth 100000 in
theorem c_X8_isKm (G : xG) (km : Int32)  (u : Int32) (hF : F_X8_isKm km = some u) : Ki G .boolean yX8_isKm (Cond.code yX8_isKm cX8_isKm 1 (some .boolean) :: TBL) { frames := 1, cells := 0, slots := 0, locals := 22 } [.int km] [] [] u := by
  intro l sz
  refine Met.ofW (cc := cX8_isKm) (maxL := 1) (ret := (some .boolean)) (by decide) rfl ?_
  intro p e s m args below meth c s₁ B hml hv
  obtain ⟨rfl, hsz, hP, hD0, hm⟩ := hv
  have hx := B.exec
  have hb := B.bytes
  have hr := B.returns
  have hts := atoms_spec (ws := Cond.code yX8_isKm cX8_isKm 1 (some .boolean) :: TBL) B.pre
  have hown : s.vm.findClass RX8 = some m.cls := findClass_of_methodNamed B.named
  have hlocks := B.notSynchronized
  subst hsz
  have hD := hD0.self (sz := s.heap.size)
  generalize hAe : va_A [] s.heap.size = A at hD hm ⊢
  have hA : ∀ q : Nat, s.heap.size ≤ q → A q := fun q h => by rw [← hAe]; exact Or.inr h
  have hK := hm.1
  have hZ : xAnd p m c cX8_isKm 1 s _ (Cond.code yX8_isKm cX8_isKm 1 (some .boolean) :: TBL) RX8 G A := ⟨⟨hx, hb, hml, hown, hts⟩, tcons, hA, hm⟩
  have hP : va_P G.1 vwCl [] s.heap := hP
  have hl := lv_entry ([.int km]) (n := 1) (Nat.le_of_ble_eq_true rfl)
  rw [lg_entry_eq]
  generalize (lg_sl ([.int km]) ++ List.replicate (1 - (lg_sl ([.int km])).length) Slot.unset).toArray = ls at hl ⊢
  have hl : lv_has ls 1 [(0, .int km)] := hl
  generalize hQ : MQ below _ _ s _ _ _ = Q
  refine xGo (A := A) hP (fun H locs hP hS => ?_)
  unfold F_X8_isKm at hF
  refine lv_iload_n hx hb dX8_isKm_0 rfl (lv_at hl 0 rfl) ?_
  refine lv_iconst (v := 0) hx hb dX8_isKm_1 (by decide) ?_
  refine lv_bipush (v := 69) hx hb dX8_isKm_2 (by decide) ?_
  obtain ⟨u1, e1, hF⟩ := bdS hF
  refine xEndI (xRunS (As := [.int km, .int (0 : Int32), .int (69 : Int32)]) (rest := []) hZ (c_X8_in G km (0 : Int32) (69 : Int32) u1 e1 l H.size) m190 m191 m5 m192 3 hdX8_in ⟨Nat.le_of_ble_eq_true rfl, Nat.le_of_ble_eq_true rfl⟩ ⟨rfl, rfl⟩ hP hD hS [] rfl rfl rfl hl.1 rfl (Nat.le_of_ble_eq_true rfl) dX8_isKm_4 ⟨Nat.zero_le _, Nat.zero_le _⟩) hP hD hS hA [] rfl rfl rfl (fun H locs n1 hP hD hS => ?_)
  have hP : va_P G.1 vwCl [] H := hP
  have hD : va_D A [] := hD
  obtain rfl := Option.some.inj hF
  rw [← hQ]
  exact W.zret (v := u1) hx hb hr n1 (fun t ht hW => ⟨⟨_, (), rfl, ⟨rfl, n1⟩, xLf hP ht⟩, hS.F ht⟩) hS.2.2 dX8_isKm_7
def B_X8_avoided_4 (row_f : Nat → Int32) (broken_f : Nat → Int64) (br : Int32) (k4 : (Int32 × Int32 × Int32 × Int32 × (Nat → Int32) × (Nat → Int32) × (Nat → Int32) × (Nat → Int32)) → Option (Int32 × Int32 × Int32 × (Nat → Int32) × (Nat → Int32) × (Nat → Int32) × (Nat → Int32))) (v4 : (Int32 × Int32 × Int32 × Int32 × (Nat → Int32) × (Nat → Int32) × (Nat → Int32) × (Nat → Int32))) : Option (Int32 × Int32 × Int32 × (Nat → Int32) × (Nat → Int32) × (Nat → Int32) × (Nat → Int32)) := if (64 : Int32) ≤ v4.2.1 then (some (v4.1, v4.2.2.1, v4.2.2.2.1, v4.2.2.2.2.1, v4.2.2.2.2.2.1, v4.2.2.2.2.2.2.1, v4.2.2.2.2.2.2.2)) else (bd (F_X8_doesAvoid v4.2.2.1 v4.2.2.2.1 row_f broken_f v4.2.2.2.2.1 v4.2.2.2.2.2.1 v4.2.2.2.2.2.2.1 v4.2.2.2.2.2.2.2 br v4.2.1) (fun (u1 : (Int32 × Int32 × Int32 × (Nat → Int32) × (Nat → Int32) × (Nat → Int32) × (Nat → Int32))) => if u1.1 = 0 then (k4 ((v4.1 + (0 : Int32)), (v4.2.1 + (1 : Int32)), u1.2.1, u1.2.2.1, u1.2.2.2.1, u1.2.2.2.2.1, u1.2.2.2.2.2.1, u1.2.2.2.2.2.2)) else (k4 ((v4.1 + (1 : Int32)), (v4.2.1 + (1 : Int32)), u1.2.1, u1.2.2.1, u1.2.2.2.1, u1.2.2.2.2.1, u1.2.2.2.2.2.1, u1.2.2.2.2.2.2))))
def F_X8_avoided (mfit : Int32) (known : Int32) (row_f : Nat → Int32) (broken_f : Nat → Int64) (isFit_f : Nat → Int32) (breaks_f : Nat → Int32) (facts_f : Nat → Int32) (pile_f : Nat → Int32) (br : Int32) : Option (Int32 × Int32 × Int32 × (Nat → Int32) × (Nat → Int32) × (Nat → Int32) × (Nat → Int32)) := lp (B_X8_avoided_4 row_f broken_f br) fuelC ((0 : Int32), (0 : Int32), mfit, known, isFit_f, breaks_f, facts_f, pile_f)
theorem hdX8_avoided : yX8_avoided.cls ≠ "java/lang/invoke/MethodHandle" ∧ yX8_avoided.cls ≠ "java/lang/invoke/VarHandle" ∧ (parseMethodDescriptor yX8_avoided.desc).map (fun d => d.parameters.length) = some 1 := by decide +kernel
set_option maxHeartbeats 4000000 in
set_option maxRecDepth 100000 in
theorem c_X8_avoided (G : xG) (t : Nat) (row : Nat) (kpt : Nat) (errs : Nat) (bitsOf : Nat) (sizeOf : Nat) (cels : Nat) (broken : Nat) (isFit : Nat) (breaks : Nat) (act : Nat) (wth : Nat) (facts : Nat) (pile : Nat) (trc : Nat) (images : Int32) (mfit : Int32) (known : Int32) (laid : Int32) (hre : Int32) (opnd : Int32) (bad : Int32) (usg : Int32) (trcd : Int32) (isP : Int32) (row_f : Nat → Int32) (broken_f : Nat → Int64) (isFit_f : Nat → Int32) (breaks_f : Nat → Int32) (facts_f : Nat → Int32) (pile_f : Nat → Int32) (br : Int32)  (u : (Int32 × Int32 × Int32 × (Nat → Int32) × (Nat → Int32) × (Nat → Int32) × (Nat → Int32))) (hF : F_X8_avoided mfit known row_f broken_f isFit_f breaks_f facts_f pile_f br = some u) : Ki G .int yX8_avoided (Cond.code yX8_avoided cX8_avoided 4 (some .int) :: TBL) { frames := 6, cells := 0, slots := 0, locals := 137 } [.ref t, .int br] [(t, .inr (8, [.ref row, .ref kpt, .int images, .ref errs, .ref bitsOf, .ref sizeOf, .ref cels, .ref broken, .ref isFit, .ref breaks, .int mfit, .int known, .ref act, .ref wth, .ref facts, .ref pile, .int laid, .int hre, .int opnd, .int bad, .int usg, .ref trc, .int trcd, .int isP])), (row, .inl (xI G, 400, .inl row_f)), (broken, .inl (xJ G, 729, .inr (.inl broken_f))), (isFit, .inl (xZ G, 729, .inl isFit_f)), (breaks, .inl (xI G, 64, .inl breaks_f)), (facts, .inl (xI G, 3, .inl facts_f)), (pile, .inl (xI G, 60, .inl pile_f))] [(t, .inr (8, [.ref row, .ref kpt, .int images, .ref errs, .ref bitsOf, .ref sizeOf, .ref cels, .ref broken, .ref isFit, .ref breaks, .int u.2.1, .int u.2.2.1, .ref act, .ref wth, .ref facts, .ref pile, .int laid, .int hre, .int opnd, .int bad, .int usg, .ref trc, .int trcd, .int isP])), (row, .inl (xI G, 400, .inl row_f)), (broken, .inl (xJ G, 729, .inr (.inl broken_f))), (isFit, .inl (xZ G, 729, .inl u.2.2.2.1)), (breaks, .inl (xI G, 64, .inl u.2.2.2.2.1)), (facts, .inl (xI G, 3, .inl u.2.2.2.2.2.1)), (pile, .inl (xI G, 60, .inl u.2.2.2.2.2.2))] u.1 := by
  intro l sz
  refine Met.ofW (cc := cX8_avoided) (maxL := 4) (ret := (some .int)) (by decide) rfl ?_
  intro p e s m args below meth c s₁ B hml hv
  obtain ⟨rfl, hsz, hP, hD0, hm⟩ := hv
  have hx := B.exec
  have hb := B.bytes
  have hr := B.returns
  have hts := atoms_spec (ws := Cond.code yX8_avoided cX8_avoided 4 (some .int) :: TBL) B.pre
  have hown : s.vm.findClass RX8 = some m.cls := findClass_of_methodNamed B.named
  have hlocks := B.notSynchronized
  subst hsz
  have hD := hD0.self (sz := s.heap.size)
  generalize hAe : va_A [(t, .inr (8, [.ref row, .ref kpt, .int images, .ref errs, .ref bitsOf, .ref sizeOf, .ref cels, .ref broken, .ref isFit, .ref breaks, .int mfit, .int known, .ref act, .ref wth, .ref facts, .ref pile, .int laid, .int hre, .int opnd, .int bad, .int usg, .ref trc, .int trcd, .int isP])), (row, .inl (xI G, 400, .inl row_f)), (broken, .inl (xJ G, 729, .inr (.inl broken_f))), (isFit, .inl (xZ G, 729, .inl isFit_f)), (breaks, .inl (xI G, 64, .inl breaks_f)), (facts, .inl (xI G, 3, .inl facts_f)), (pile, .inl (xI G, 60, .inl pile_f))] s.heap.size = A at hD hm ⊢
  have hA : ∀ q : Nat, s.heap.size ≤ q → A q := fun q h => by rw [← hAe]; exact Or.inr h
  have hK := hm.1
  have hZ : xAnd p m c cX8_avoided 4 s _ (Cond.code yX8_avoided cX8_avoided 4 (some .int) :: TBL) RX8 G A := ⟨⟨hx, hb, hml, hown, hts⟩, tcons, hA, hm⟩
  have hP : va_P G.1 vwCl [(t, .inr (8, [.ref row, .ref kpt, .int images, .ref errs, .ref bitsOf, .ref sizeOf, .ref cels, .ref broken, .ref isFit, .ref breaks, .int mfit, .int known, .ref act, .ref wth, .ref facts, .ref pile, .int laid, .int hre, .int opnd, .int bad, .int usg, .ref trc, .int trcd, .int isP])), (row, .inl (xI G, 400, .inl row_f)), (broken, .inl (xJ G, 729, .inr (.inl broken_f))), (isFit, .inl (xZ G, 729, .inl isFit_f)), (breaks, .inl (xI G, 64, .inl breaks_f)), (facts, .inl (xI G, 3, .inl facts_f)), (pile, .inl (xI G, 60, .inl pile_f))] s.heap := hP
  have hl := lv_entry ([.ref t, .int br]) (n := 4) (Nat.le_of_ble_eq_true rfl)
  rw [lg_entry_eq]
  generalize (lg_sl ([.ref t, .int br]) ++ List.replicate (4 - (lg_sl ([.ref t, .int br])).length) Slot.unset).toArray = ls at hl ⊢
  have hl : lv_has ls 4 [(0, .ref t), (1, .int br)] := hl
  generalize hQ : MQ below _ _ s _ _ _ = Q
  refine xGo (A := A) hP (fun H locs hP hS => ?_)
  unfold F_X8_avoided at hF
  refine lv_iconst (v := 0) hx hb dX8_avoided_0 (by decide) ?_
  refine lv_istore_n (lv' := [(2, .int (0 : Int32)), (0, .ref t), (1, .int br)]) hx hb dX8_avoided_1 rfl hl (by decide) rfl (fun ls hl => ?_)
  refine lv_iconst (v := 0) hx hb dX8_avoided_2 (by decide) ?_
  refine lv_istore_n (lv' := [(3, .int (0 : Int32)), (2, .int (0 : Int32)), (0, .ref t), (1, .int br)]) hx hb dX8_avoided_3 rfl hl (by decide) rfl (fun ls hl => ?_)
  refine xLoop8 (body := (B_X8_avoided_4 row_f broken_f br)) (fun (v4_0 : Int32) (v4_1 : Int32) (v4_2 : Int32) (v4_3 : Int32) (v4_4 : Nat → Int32) (v4_5 : Nat → Int32) (v4_6 : Nat → Int32) (v4_7 : Nat → Int32) H locs ls => va_P G.1 vwCl [(t, .inr (8, [.ref row, .ref kpt, .int images, .ref errs, .ref bitsOf, .ref sizeOf, .ref cels, .ref broken, .ref isFit, .ref breaks, .int v4_2, .int v4_3, .ref act, .ref wth, .ref facts, .ref pile, .int laid, .int hre, .int opnd, .int bad, .int usg, .ref trc, .int trcd, .int isP])), (row, .inl (xI G, 400, .inl row_f)), (broken, .inl (xJ G, 729, .inr (.inl broken_f))), (isFit, .inl (xZ G, 729, .inl v4_4)), (breaks, .inl (xI G, 64, .inl v4_5)), (facts, .inl (xI G, 3, .inl v4_6)), (pile, .inl (xI G, 60, .inl v4_7))] H ∧ va_D A [(t, .inr (8, [.ref row, .ref kpt, .int images, .ref errs, .ref bitsOf, .ref sizeOf, .ref cels, .ref broken, .ref isFit, .ref breaks, .int v4_2, .int v4_3, .ref act, .ref wth, .ref facts, .ref pile, .int laid, .int hre, .int opnd, .int bad, .int usg, .ref trc, .int trcd, .int isP])), (row, .inl (xI G, 400, .inl row_f)), (broken, .inl (xJ G, 729, .inr (.inl broken_f))), (isFit, .inl (xZ G, 729, .inl v4_4)), (breaks, .inl (xI G, 64, .inl v4_5)), (facts, .inl (xI G, 3, .inl v4_6)), (pile, .inl (xI G, 60, .inl v4_7))] ∧ va_S A s.heap H locs ∧ lv_has ls 4 [(0, .ref t), (1, .int br), (2, .int v4_0), (3, .int v4_1)]) (fun N4 v4_0 v4_1 v4_2 v4_3 v4_4 v4_5 v4_6 v4_7 ih4 H locs ls hI hF => ?_) fuelC (0 : Int32) (0 : Int32) mfit known isFit_f breaks_f facts_f pile_f H locs ls ⟨hP, hD, hS, lv_sub hl [2, 3, 1, 0] rfl⟩ hF
  obtain ⟨hP, hD, hS, hl⟩ := hI
  unfold B_X8_avoided_4 at hF
  refine lv_iload_n hx hb dX8_avoided_4 rfl (lv_at hl 3 rfl) ?_
  refine lv_bipush (v := 64) hx hb dX8_avoided_5 (by decide) ?_
  refine lv_icmp_ge (tgt := 33) hx hb dX8_avoided_7 (by decide) (fun c7 => ?_) (fun c7 => ?_)
  · have hF := itP c7 hF
    refine lv_iload_n hx hb dX8_avoided_33 rfl (lv_at hl 2 rfl) ?_
    obtain rfl := Option.some.inj hF
    rw [← hQ]
    exact W.iret (v := v4_0) hx hb hr (fun t ht hW => ⟨⟨_, (), rfl, ⟨rfl, rfl⟩, xLf hP ht⟩, hS.F ht⟩) hS.2.2 dX8_avoided_34
  · have hF := itN c7 hF
    refine lv_iload_n hx hb dX8_avoided_10 rfl (lv_at hl 2 rfl) ?_
    refine lv_aload_n hx hb dX8_avoided_11 rfl (lv_at hl 0 rfl) ?_
    refine lv_iload_n hx hb dX8_avoided_12 rfl (lv_at hl 1 rfl) ?_
    refine lv_iload_n hx hb dX8_avoided_13 rfl (lv_at hl 3 rfl) ?_
    obtain ⟨u1, e1, hF⟩ := bdS hF
    refine xEndI (xRunV (As := [.int br, .int v4_1]) (rest := [.int v4_0]) hZ (c_X8_doesAvoid G t row kpt errs bitsOf sizeOf cels broken isFit breaks act wth facts pile trc images v4_2 v4_3 laid hre opnd bad usg trcd isP row_f broken_f v4_4 v4_5 v4_6 v4_7 br v4_1 u1 e1 l H.size) m299 m300 m301 m5 m302 2 ⟨rfl, hdX8_doesAvoid⟩ ⟨Nat.le_of_ble_eq_true rfl, Nat.le_of_ble_eq_true rfl⟩ ⟨rfl, rfl⟩ hP hD hS 0 8 rfl rfl rfl [0, 1, 2, 3, 4, 5, 6] rfl rfl rfl hl.1 rfl (Nat.le_of_ble_eq_true rfl) dX8_avoided_14 ⟨Nat.zero_le _, Nat.zero_le _⟩) hP hD hS hA [0, 1, 2, 3, 4, 5, 6] rfl rfl rfl (fun H locs n1 hP hD hS => ?_)
    have hP : va_P G.1 vwCl [(t, .inr (8, [.ref row, .ref kpt, .int images, .ref errs, .ref bitsOf, .ref sizeOf, .ref cels, .ref broken, .ref isFit, .ref breaks, .int u1.2.1, .int u1.2.2.1, .ref act, .ref wth, .ref facts, .ref pile, .int laid, .int hre, .int opnd, .int bad, .int usg, .ref trc, .int trcd, .int isP])), (row, .inl (xI G, 400, .inl row_f)), (broken, .inl (xJ G, 729, .inr (.inl broken_f))), (isFit, .inl (xZ G, 729, .inl u1.2.2.2.1)), (breaks, .inl (xI G, 64, .inl u1.2.2.2.2.1)), (facts, .inl (xI G, 3, .inl u1.2.2.2.2.2.1)), (pile, .inl (xI G, 60, .inl u1.2.2.2.2.2.2))] H := hP
    have hD : va_D A [(t, .inr (8, [.ref row, .ref kpt, .int images, .ref errs, .ref bitsOf, .ref sizeOf, .ref cels, .ref broken, .ref isFit, .ref breaks, .int u1.2.1, .int u1.2.2.1, .ref act, .ref wth, .ref facts, .ref pile, .int laid, .int hre, .int opnd, .int bad, .int usg, .ref trc, .int trcd, .int isP])), (row, .inl (xI G, 400, .inl row_f)), (broken, .inl (xJ G, 729, .inr (.inl broken_f))), (isFit, .inl (xZ G, 729, .inl u1.2.2.2.1)), (breaks, .inl (xI G, 64, .inl u1.2.2.2.2.1)), (facts, .inl (xI G, 3, .inl u1.2.2.2.2.2.1)), (pile, .inl (xI G, 60, .inl u1.2.2.2.2.2.2))] := hD
    refine lv_if_eq (tgt := 24) hx hb dX8_avoided_17 (by decide) (fun c17 => ?_) (fun c17 => ?_)
    · have hF := itP c17 hF
      refine lv_iconst (v := 0) hx hb dX8_avoided_24 (by decide) ?_
      refine lv_iadd hx hb dX8_avoided_25 ?_
      refine lv_istore_n (lv' := [(2, .int (v4_0 + (0 : Int32))), (0, .ref t), (1, .int br), (3, .int v4_1)]) hx hb dX8_avoided_26 rfl hl (by decide) rfl (fun ls hl => ?_)
      refine lv_iinc (v := (v4_1 + (1 : Int32))) (lv' := [(3, .int (v4_1 + (1 : Int32))), (2, .int (v4_0 + (0 : Int32))), (0, .ref t), (1, .int br)]) hx hb dX8_avoided_27 hl (k := 3) rfl (xInc_1 _) (by decide) rfl (fun ls hl => ?_)
      refine lv_goto (tgt := 4) hx hb dX8_avoided_30 (by decide) ?_
      exact ih4 (v4_0 + (0 : Int32)) (v4_1 + (1 : Int32)) u1.2.1 u1.2.2.1 u1.2.2.2.1 u1.2.2.2.2.1 u1.2.2.2.2.2.1 u1.2.2.2.2.2.2 H locs ls ⟨hP, hD, hS, lv_sub hl [2, 3, 1, 0] rfl⟩ hF
    · have hF := itN c17 hF
      refine lv_iconst (v := 1) hx hb dX8_avoided_20 (by decide) ?_
      refine lv_goto (tgt := 25) hx hb dX8_avoided_21 (by decide) ?_
      refine lv_iadd hx hb dX8_avoided_25 ?_
      refine lv_istore_n (lv' := [(2, .int (v4_0 + (1 : Int32))), (0, .ref t), (1, .int br), (3, .int v4_1)]) hx hb dX8_avoided_26 rfl hl (by decide) rfl (fun ls hl => ?_)
      refine lv_iinc (v := (v4_1 + (1 : Int32))) (lv' := [(3, .int (v4_1 + (1 : Int32))), (2, .int (v4_0 + (1 : Int32))), (0, .ref t), (1, .int br)]) hx hb dX8_avoided_27 hl (k := 3) rfl (xInc_1 _) (by decide) rfl (fun ls hl => ?_)
      refine lv_goto (tgt := 4) hx hb dX8_avoided_30 (by decide) ?_
      exact ih4 (v4_0 + (1 : Int32)) (v4_1 + (1 : Int32)) u1.2.1 u1.2.2.1 u1.2.2.2.1 u1.2.2.2.2.1 u1.2.2.2.2.2.1 u1.2.2.2.2.2.2 H locs ls ⟨hP, hD, hS, lv_sub hl [2, 3, 1, 0] rfl⟩ hF
def F_X8_says (known : Int32) (row_f : Nat → Int32) (broken_f : Nat → Int64) (facts_f : Nat → Int32) (pile_f : Nat → Int32) (br : Int32) (sy : Int32) (slip : Int32) : Option (Int32 × Int32 × (Nat → Int32) × (Nat → Int32) × (Nat → Int32)) := bd (F_X8_doesBreak broken_f (row_f (5 : Int32).toNatClampNeg) sy) (fun (u1 : Int32) => if u1 = slip then (bd (F_X8_talkOf row_f facts_f pile_f br sy) (fun (u2 : (Int32 × (Nat → Int32) × (Nat → Int32))) => bd (F_X8_held ((row_f (4 : Int32).toNatClampNeg) + u2.1) (0 : Int32) (99999 : Int32)) (fun (u3 : Int32) => if ((((8 : Int32) + ((3 : Int32) * br)) + (2 : Int32)) < 0 ∨ 400 ≤ (((8 : Int32) + ((3 : Int32) * br)) + (2 : Int32)).toNatClampNeg) then none else (bd (F_X8_held (((upd row_f (4 : Int32).toNatClampNeg u3) (((8 : Int32) + ((3 : Int32) * br)) + (2 : Int32)).toNatClampNeg) + (1 : Int32)) (0 : Int32) (99999 : Int32)) (fun (u4 : Int32) => if ((((8 : Int32) + ((3 : Int32) * br)) + (2 : Int32)) < 0 ∨ 400 ≤ (((8 : Int32) + ((3 : Int32) * br)) + (2 : Int32)).toNatClampNeg) then none else (if (24 : Int32) ≤ ((upd (upd row_f (4 : Int32).toNatClampNeg u3) (((8 : Int32) + ((3 : Int32) * br)) + (2 : Int32)).toNatClampNeg u4) (3 : Int32).toNatClampNeg) then (some ((0 : Int32), known, (upd (upd row_f (4 : Int32).toNatClampNeg u3) (((8 : Int32) + ((3 : Int32) * br)) + (2 : Int32)).toNatClampNeg u4), u2.2.1, u2.2.2)) else (bd (F_X8_comes (upd (upd row_f (4 : Int32).toNatClampNeg u3) (((8 : Int32) + ((3 : Int32) * br)) + (2 : Int32)).toNatClampNeg u4) sy (0 : Int32)) (fun (u5 : (Int32 × (Nat → Int32))) => some ((0 : Int32), u5.1, u5.2, u2.2.1, u2.2.2))))))))) else (bd (F_X8_talkOf row_f facts_f pile_f br sy) (fun (u2 : (Int32 × (Nat → Int32) × (Nat → Int32))) => bd (F_X8_held ((row_f (4 : Int32).toNatClampNeg) + u2.1) (0 : Int32) (99999 : Int32)) (fun (u3 : Int32) => if ((((8 : Int32) + ((3 : Int32) * br)) + (2 : Int32)) < 0 ∨ 400 ≤ (((8 : Int32) + ((3 : Int32) * br)) + (2 : Int32)).toNatClampNeg) then none else (bd (F_X8_held (((upd row_f (4 : Int32).toNatClampNeg u3) (((8 : Int32) + ((3 : Int32) * br)) + (2 : Int32)).toNatClampNeg) + (1 : Int32)) (0 : Int32) (99999 : Int32)) (fun (u4 : Int32) => if ((((8 : Int32) + ((3 : Int32) * br)) + (2 : Int32)) < 0 ∨ 400 ≤ (((8 : Int32) + ((3 : Int32) * br)) + (2 : Int32)).toNatClampNeg) then none else (if (24 : Int32) ≤ ((upd (upd row_f (4 : Int32).toNatClampNeg u3) (((8 : Int32) + ((3 : Int32) * br)) + (2 : Int32)).toNatClampNeg u4) (3 : Int32).toNatClampNeg) then (some ((1 : Int32), known, (upd (upd row_f (4 : Int32).toNatClampNeg u3) (((8 : Int32) + ((3 : Int32) * br)) + (2 : Int32)).toNatClampNeg u4), u2.2.1, u2.2.2)) else (bd (F_X8_comes (upd (upd row_f (4 : Int32).toNatClampNeg u3) (((8 : Int32) + ((3 : Int32) * br)) + (2 : Int32)).toNatClampNeg u4) sy (1 : Int32)) (fun (u5 : (Int32 × (Nat → Int32))) => some ((1 : Int32), u5.1, u5.2, u2.2.1, u2.2.2))))))))))
theorem hdX8_says : yX8_says.cls ≠ "java/lang/invoke/MethodHandle" ∧ yX8_says.cls ≠ "java/lang/invoke/VarHandle" ∧ (parseMethodDescriptor yX8_says.desc).map (fun d => d.parameters.length) = some 3 := by decide +kernel
set_option maxHeartbeats 4000000 in
set_option maxRecDepth 100000 in
theorem c_X8_says (G : xG) (t : Nat) (row : Nat) (kpt : Nat) (errs : Nat) (bitsOf : Nat) (sizeOf : Nat) (cels : Nat) (broken : Nat) (isFit : Nat) (breaks : Nat) (act : Nat) (wth : Nat) (facts : Nat) (pile : Nat) (trc : Nat) (images : Int32) (mfit : Int32) (known : Int32) (laid : Int32) (hre : Int32) (opnd : Int32) (bad : Int32) (usg : Int32) (trcd : Int32) (isP : Int32) (row_f : Nat → Int32) (broken_f : Nat → Int64) (facts_f : Nat → Int32) (pile_f : Nat → Int32) (br : Int32) (sy : Int32) (slip : Int32)  (u : (Int32 × Int32 × (Nat → Int32) × (Nat → Int32) × (Nat → Int32))) (hF : F_X8_says known row_f broken_f facts_f pile_f br sy slip = some u) : Ki G .int yX8_says (Cond.code yX8_says cX8_says 6 (some .int) :: TBL) { frames := 4, cells := 0, slots := 0, locals := 94 } [.ref t, .int br, .int sy, .int slip] [(t, .inr (8, [.ref row, .ref kpt, .int images, .ref errs, .ref bitsOf, .ref sizeOf, .ref cels, .ref broken, .ref isFit, .ref breaks, .int mfit, .int known, .ref act, .ref wth, .ref facts, .ref pile, .int laid, .int hre, .int opnd, .int bad, .int usg, .ref trc, .int trcd, .int isP])), (row, .inl (xI G, 400, .inl row_f)), (broken, .inl (xJ G, 729, .inr (.inl broken_f))), (facts, .inl (xI G, 3, .inl facts_f)), (pile, .inl (xI G, 60, .inl pile_f))] [(t, .inr (8, [.ref row, .ref kpt, .int images, .ref errs, .ref bitsOf, .ref sizeOf, .ref cels, .ref broken, .ref isFit, .ref breaks, .int mfit, .int u.2.1, .ref act, .ref wth, .ref facts, .ref pile, .int laid, .int hre, .int opnd, .int bad, .int usg, .ref trc, .int trcd, .int isP])), (row, .inl (xI G, 400, .inl u.2.2.1)), (broken, .inl (xJ G, 729, .inr (.inl broken_f))), (facts, .inl (xI G, 3, .inl u.2.2.2.1)), (pile, .inl (xI G, 60, .inl u.2.2.2.2))] u.1 := by
  intro l sz
  refine Met.ofW (cc := cX8_says) (maxL := 6) (ret := (some .int)) (by decide) rfl ?_
  intro p e s m args below meth c s₁ B hml hv
  obtain ⟨rfl, hsz, hP, hD0, hm⟩ := hv
  have hx := B.exec
  have hb := B.bytes
  have hr := B.returns
  have hts := atoms_spec (ws := Cond.code yX8_says cX8_says 6 (some .int) :: TBL) B.pre
  have hown : s.vm.findClass RX8 = some m.cls := findClass_of_methodNamed B.named
  have hlocks := B.notSynchronized
  subst hsz
  have hD := hD0.self (sz := s.heap.size)
  generalize hAe : va_A [(t, .inr (8, [.ref row, .ref kpt, .int images, .ref errs, .ref bitsOf, .ref sizeOf, .ref cels, .ref broken, .ref isFit, .ref breaks, .int mfit, .int known, .ref act, .ref wth, .ref facts, .ref pile, .int laid, .int hre, .int opnd, .int bad, .int usg, .ref trc, .int trcd, .int isP])), (row, .inl (xI G, 400, .inl row_f)), (broken, .inl (xJ G, 729, .inr (.inl broken_f))), (facts, .inl (xI G, 3, .inl facts_f)), (pile, .inl (xI G, 60, .inl pile_f))] s.heap.size = A at hD hm ⊢
  have hA : ∀ q : Nat, s.heap.size ≤ q → A q := fun q h => by rw [← hAe]; exact Or.inr h
  have hK := hm.1
  have hZ : xAnd p m c cX8_says 6 s _ (Cond.code yX8_says cX8_says 6 (some .int) :: TBL) RX8 G A := ⟨⟨hx, hb, hml, hown, hts⟩, tcons, hA, hm⟩
  have hP : va_P G.1 vwCl [(t, .inr (8, [.ref row, .ref kpt, .int images, .ref errs, .ref bitsOf, .ref sizeOf, .ref cels, .ref broken, .ref isFit, .ref breaks, .int mfit, .int known, .ref act, .ref wth, .ref facts, .ref pile, .int laid, .int hre, .int opnd, .int bad, .int usg, .ref trc, .int trcd, .int isP])), (row, .inl (xI G, 400, .inl row_f)), (broken, .inl (xJ G, 729, .inr (.inl broken_f))), (facts, .inl (xI G, 3, .inl facts_f)), (pile, .inl (xI G, 60, .inl pile_f))] s.heap := hP
  have hl := lv_entry ([.ref t, .int br, .int sy, .int slip]) (n := 6) (Nat.le_of_ble_eq_true rfl)
  rw [lg_entry_eq]
  generalize (lg_sl ([.ref t, .int br, .int sy, .int slip]) ++ List.replicate (6 - (lg_sl ([.ref t, .int br, .int sy, .int slip])).length) Slot.unset).toArray = ls at hl ⊢
  have hl : lv_has ls 6 [(0, .ref t), (1, .int br), (2, .int sy), (3, .int slip)] := hl
  generalize hQ : MQ below _ _ s _ _ _ = Q
  refine xGo (A := A) hP (fun H locs hP hS => ?_)
  unfold F_X8_says at hF
  refine lv_aload_n hx hb dX8_says_0 rfl (lv_at hl 0 rfl) ?_
  refine lv_aload_n hx hb dX8_says_1 rfl (lv_at hl 0 rfl) ?_
  refine va_get (ci := 8) (v := .ref row) (C := RX8) (T := TX8) (N := 24) hx hb hts (fun w h => tcons w (xin8 w h)) hown hK hP 0 rfl rfl 0 (by decide) (hts _ (tcons _ m137)) (fun _ h9 => h9) rfl dX8_says_2 ?_
  refine lv_iconst (v := 5) hx hb dX8_says_5 (by decide) ?_
  refine va_iald hx hb hK hP 1 0 rfl rfl (by unfold vp_in; decide) dX8_says_6 ?_
  refine lv_iload_n hx hb dX8_says_7 rfl (lv_at hl 2 rfl) ?_
  obtain ⟨u1, e1, hF⟩ := bdS hF
  refine xEndI (xRunV (As := [.int (row_f (5 : Int32).toNatClampNeg), .int sy]) (rest := []) hZ (c_X8_doesBreak G t row kpt errs bitsOf sizeOf cels broken isFit breaks act wth facts pile trc images mfit known laid hre opnd bad usg trcd isP broken_f (row_f (5 : Int32).toNatClampNeg) sy u1 e1 l H.size) m321 m322 m323 m5 m324 2 ⟨rfl, hdX8_doesBreak⟩ ⟨Nat.le_of_ble_eq_true rfl, Nat.le_of_ble_eq_true rfl⟩ ⟨rfl, rfl⟩ hP hD hS 0 8 rfl rfl rfl [0, 2] rfl rfl rfl hl.1 rfl (Nat.le_of_ble_eq_true rfl) dX8_says_8 ⟨Nat.zero_le _, Nat.zero_le _⟩) hP hD hS hA [0, 2] rfl rfl rfl (fun H locs n1 hP hD hS => ?_)
  have hP : va_P G.1 vwCl [(t, .inr (8, [.ref row, .ref kpt, .int images, .ref errs, .ref bitsOf, .ref sizeOf, .ref cels, .ref broken, .ref isFit, .ref breaks, .int mfit, .int known, .ref act, .ref wth, .ref facts, .ref pile, .int laid, .int hre, .int opnd, .int bad, .int usg, .ref trc, .int trcd, .int isP])), (row, .inl (xI G, 400, .inl row_f)), (broken, .inl (xJ G, 729, .inr (.inl broken_f))), (facts, .inl (xI G, 3, .inl facts_f)), (pile, .inl (xI G, 60, .inl pile_f))] H := hP
  have hD : va_D A [(t, .inr (8, [.ref row, .ref kpt, .int images, .ref errs, .ref bitsOf, .ref sizeOf, .ref cels, .ref broken, .ref isFit, .ref breaks, .int mfit, .int known, .ref act, .ref wth, .ref facts, .ref pile, .int laid, .int hre, .int opnd, .int bad, .int usg, .ref trc, .int trcd, .int isP])), (row, .inl (xI G, 400, .inl row_f)), (broken, .inl (xJ G, 729, .inr (.inl broken_f))), (facts, .inl (xI G, 3, .inl facts_f)), (pile, .inl (xI G, 60, .inl pile_f))] := hD
  refine lv_iload_n hx hb dX8_says_11 rfl (lv_at hl 3 rfl) ?_
  refine lv_icmp_eq (tgt := 19) hx hb dX8_says_12 (by decide) (fun c12 => ?_) (fun c12 => ?_)
  · have hF := itP c12 hF
    refine lv_iconst (v := 0) hx hb dX8_says_19 (by decide) ?_
    refine lv_istore (lv' := [(4, .int (0 : Int32)), (0, .ref t), (1, .int br), (2, .int sy), (3, .int slip)]) hx hb dX8_says_20 hl (by decide) rfl (fun ls hl => ?_)
    refine lv_bipush (v := 8) hx hb dX8_says_22 (by decide) ?_
    refine lv_iconst (v := 3) hx hb dX8_says_24 (by decide) ?_
    refine lv_iload_n hx hb dX8_says_25 rfl (lv_at hl 2 rfl) ?_
    refine lv_imul hx hb dX8_says_26 ?_
    refine lv_iadd hx hb dX8_says_27 ?_
    refine lv_iconst (v := 2) hx hb dX8_says_28 (by decide) ?_
    refine lv_iadd hx hb dX8_says_29 ?_
    refine lv_istore (lv' := [(5, .int (((8 : Int32) + ((3 : Int32) * br)) + (2 : Int32))), (4, .int (0 : Int32)), (0, .ref t), (1, .int br), (2, .int sy), (3, .int slip)]) hx hb dX8_says_30 hl (by decide) rfl (fun ls hl => ?_)
    refine lv_aload_n hx hb dX8_says_32 rfl (lv_at hl 2 rfl) ?_
    refine va_get (ci := 8) (v := .ref row) (C := RX8) (T := TX8) (N := 24) hx hb hts (fun w h => tcons w (xin8 w h)) hown hK hP 0 rfl rfl 0 (by decide) (hts _ (tcons _ m137)) (fun _ h9 => h9) rfl dX8_says_33 ?_
    refine lv_iconst (v := 4) hx hb dX8_says_36 (by decide) ?_
    refine lv_aload_n hx hb dX8_says_37 rfl (lv_at hl 2 rfl) ?_
    refine va_get (ci := 8) (v := .ref row) (C := RX8) (T := TX8) (N := 24) hx hb hts (fun w h => tcons w (xin8 w h)) hown hK hP 0 rfl rfl 0 (by decide) (hts _ (tcons _ m137)) (fun _ h9 => h9) rfl dX8_says_38 ?_
    refine lv_iconst (v := 4) hx hb dX8_says_41 (by decide) ?_
    refine va_iald hx hb hK hP 1 0 rfl rfl (by unfold vp_in; decide) dX8_says_42 ?_
    refine lv_aload_n hx hb dX8_says_43 rfl (lv_at hl 2 rfl) ?_
    refine lv_iload_n hx hb dX8_says_44 rfl (lv_at hl 3 rfl) ?_
    refine lv_iload_n hx hb dX8_says_45 rfl (lv_at hl 4 rfl) ?_
    obtain ⟨u2, e2, hF⟩ := bdS hF
    refine xEndI (xRunV (As := [.int br, .int sy]) (rest := [.int (row_f (4 : Int32).toNatClampNeg), .int (4 : Int32), .ref row]) hZ (c_X8_talkOf G t row kpt errs bitsOf sizeOf cels broken isFit breaks act wth facts pile trc images mfit known laid hre opnd bad usg trcd isP row_f facts_f pile_f br sy u2 e2 l H.size) m406 m407 m408 m5 m409 2 ⟨rfl, hdX8_talkOf⟩ ⟨Nat.le_of_ble_eq_true rfl, Nat.le_of_ble_eq_true rfl⟩ ⟨rfl, rfl⟩ hP hD hS 0 8 rfl rfl rfl [0, 1, 3, 4] rfl rfl rfl hl.1 rfl (Nat.le_of_ble_eq_true rfl) dX8_says_46 ⟨Nat.zero_le _, Nat.zero_le _⟩) hP hD hS hA [0, 1, 3, 4] rfl rfl rfl (fun H locs n2 hP hD hS => ?_)
    have hP : va_P G.1 vwCl [(t, .inr (8, [.ref row, .ref kpt, .int images, .ref errs, .ref bitsOf, .ref sizeOf, .ref cels, .ref broken, .ref isFit, .ref breaks, .int mfit, .int known, .ref act, .ref wth, .ref facts, .ref pile, .int laid, .int hre, .int opnd, .int bad, .int usg, .ref trc, .int trcd, .int isP])), (row, .inl (xI G, 400, .inl row_f)), (broken, .inl (xJ G, 729, .inr (.inl broken_f))), (facts, .inl (xI G, 3, .inl u2.2.1)), (pile, .inl (xI G, 60, .inl u2.2.2))] H := hP
    have hD : va_D A [(t, .inr (8, [.ref row, .ref kpt, .int images, .ref errs, .ref bitsOf, .ref sizeOf, .ref cels, .ref broken, .ref isFit, .ref breaks, .int mfit, .int known, .ref act, .ref wth, .ref facts, .ref pile, .int laid, .int hre, .int opnd, .int bad, .int usg, .ref trc, .int trcd, .int isP])), (row, .inl (xI G, 400, .inl row_f)), (broken, .inl (xJ G, 729, .inr (.inl broken_f))), (facts, .inl (xI G, 3, .inl u2.2.1)), (pile, .inl (xI G, 60, .inl u2.2.2))] := hD
    refine lv_iadd hx hb dX8_says_49 ?_
    refine lv_iconst (v := 0) hx hb dX8_says_50 (by decide) ?_
    refine lv_ldc (v := 99999) hx hb hown (hts _ (tcons _ m482)) dX8_says_51 ?_
    obtain ⟨u3, e3, hF⟩ := bdS hF
    refine xEndI (xRunS (As := [.int ((row_f (4 : Int32).toNatClampNeg) + u2.1), .int (0 : Int32), .int (99999 : Int32)]) (rest := [.int (4 : Int32), .ref row]) hZ (c_X8_held G ((row_f (4 : Int32).toNatClampNeg) + u2.1) (0 : Int32) (99999 : Int32) u3 e3 l H.size) m336 m337 m5 m338 3 hdX8_held ⟨Nat.le_of_ble_eq_true rfl, Nat.le_of_ble_eq_true rfl⟩ ⟨rfl, rfl⟩ hP hD hS [] rfl rfl rfl hl.1 rfl (Nat.le_of_ble_eq_true rfl) dX8_says_53 ⟨Nat.zero_le _, Nat.zero_le _⟩) hP hD hS hA [] rfl rfl rfl (fun H locs n3 hP hD hS => ?_)
    have hP : va_P G.1 vwCl [(t, .inr (8, [.ref row, .ref kpt, .int images, .ref errs, .ref bitsOf, .ref sizeOf, .ref cels, .ref broken, .ref isFit, .ref breaks, .int mfit, .int known, .ref act, .ref wth, .ref facts, .ref pile, .int laid, .int hre, .int opnd, .int bad, .int usg, .ref trc, .int trcd, .int isP])), (row, .inl (xI G, 400, .inl row_f)), (broken, .inl (xJ G, 729, .inr (.inl broken_f))), (facts, .inl (xI G, 3, .inl u2.2.1)), (pile, .inl (xI G, 60, .inl u2.2.2))] H := hP
    have hD : va_D A [(t, .inr (8, [.ref row, .ref kpt, .int images, .ref errs, .ref bitsOf, .ref sizeOf, .ref cels, .ref broken, .ref isFit, .ref breaks, .int mfit, .int known, .ref act, .ref wth, .ref facts, .ref pile, .int laid, .int hre, .int opnd, .int bad, .int usg, .ref trc, .int trcd, .int isP])), (row, .inl (xI G, 400, .inl row_f)), (broken, .inl (xJ G, 729, .inr (.inl broken_f))), (facts, .inl (xI G, 3, .inl u2.2.1)), (pile, .inl (xI G, 60, .inl u2.2.2))] := hD
    refine va_iast hx hb hK hP hD hS 1 0 rfl rfl (by unfold vp_in; decide) dX8_says_56 (fun H locs hP hD hS => ?_)
    have hP : va_P G.1 vwCl [(t, .inr (8, [.ref row, .ref kpt, .int images, .ref errs, .ref bitsOf, .ref sizeOf, .ref cels, .ref broken, .ref isFit, .ref breaks, .int mfit, .int known, .ref act, .ref wth, .ref facts, .ref pile, .int laid, .int hre, .int opnd, .int bad, .int usg, .ref trc, .int trcd, .int isP])), (row, .inl (xI G, 400, .inl (upd row_f (4 : Int32).toNatClampNeg u3))), (broken, .inl (xJ G, 729, .inr (.inl broken_f))), (facts, .inl (xI G, 3, .inl u2.2.1)), (pile, .inl (xI G, 60, .inl u2.2.2))] H := hP
    have hD : va_D A [(t, .inr (8, [.ref row, .ref kpt, .int images, .ref errs, .ref bitsOf, .ref sizeOf, .ref cels, .ref broken, .ref isFit, .ref breaks, .int mfit, .int known, .ref act, .ref wth, .ref facts, .ref pile, .int laid, .int hre, .int opnd, .int bad, .int usg, .ref trc, .int trcd, .int isP])), (row, .inl (xI G, 400, .inl (upd row_f (4 : Int32).toNatClampNeg u3))), (broken, .inl (xJ G, 729, .inr (.inl broken_f))), (facts, .inl (xI G, 3, .inl u2.2.1)), (pile, .inl (xI G, 60, .inl u2.2.2))] := hD
    refine lv_aload_n hx hb dX8_says_57 rfl (lv_at hl 2 rfl) ?_
    refine va_get (ci := 8) (v := .ref row) (C := RX8) (T := TX8) (N := 24) hx hb hts (fun w h => tcons w (xin8 w h)) hown hK hP 0 rfl rfl 0 (by decide) (hts _ (tcons _ m137)) (fun _ h9 => h9) rfl dX8_says_58 ?_
    refine lv_iload hx hb dX8_says_61 (lv_at hl 0 rfl) ?_
    refine lv_aload_n hx hb dX8_says_63 rfl (lv_at hl 2 rfl) ?_
    refine va_get (ci := 8) (v := .ref row) (C := RX8) (T := TX8) (N := 24) hx hb hts (fun w h => tcons w (xin8 w h)) hown hK hP 0 rfl rfl 0 (by decide) (hts _ (tcons _ m137)) (fun _ h9 => h9) rfl dX8_says_64 ?_
    refine lv_iload hx hb dX8_says_67 (lv_at hl 0 rfl) ?_
    obtain ⟨g69, hF⟩ := gdS hF
    refine va_iald hx hb hK hP 1 0 rfl rfl g69 dX8_says_69 ?_
    refine lv_iconst (v := 1) hx hb dX8_says_70 (by decide) ?_
    refine lv_iadd hx hb dX8_says_71 ?_
    refine lv_iconst (v := 0) hx hb dX8_says_72 (by decide) ?_
    refine lv_ldc (v := 99999) hx hb hown (hts _ (tcons _ m482)) dX8_says_73 ?_
    obtain ⟨u4, e4, hF⟩ := bdS hF
    refine xEndI (xRunS (As := [.int (((upd row_f (4 : Int32).toNatClampNeg u3) (((8 : Int32) + ((3 : Int32) * br)) + (2 : Int32)).toNatClampNeg) + (1 : Int32)), .int (0 : Int32), .int (99999 : Int32)]) (rest := [.int (((8 : Int32) + ((3 : Int32) * br)) + (2 : Int32)), .ref row]) hZ (c_X8_held G (((upd row_f (4 : Int32).toNatClampNeg u3) (((8 : Int32) + ((3 : Int32) * br)) + (2 : Int32)).toNatClampNeg) + (1 : Int32)) (0 : Int32) (99999 : Int32) u4 e4 l H.size) m336 m337 m5 m338 3 hdX8_held ⟨Nat.le_of_ble_eq_true rfl, Nat.le_of_ble_eq_true rfl⟩ ⟨rfl, rfl⟩ hP hD hS [] rfl rfl rfl hl.1 rfl (Nat.le_of_ble_eq_true rfl) dX8_says_75 ⟨Nat.zero_le _, Nat.zero_le _⟩) hP hD hS hA [] rfl rfl rfl (fun H locs n4 hP hD hS => ?_)
    have hP : va_P G.1 vwCl [(t, .inr (8, [.ref row, .ref kpt, .int images, .ref errs, .ref bitsOf, .ref sizeOf, .ref cels, .ref broken, .ref isFit, .ref breaks, .int mfit, .int known, .ref act, .ref wth, .ref facts, .ref pile, .int laid, .int hre, .int opnd, .int bad, .int usg, .ref trc, .int trcd, .int isP])), (row, .inl (xI G, 400, .inl (upd row_f (4 : Int32).toNatClampNeg u3))), (broken, .inl (xJ G, 729, .inr (.inl broken_f))), (facts, .inl (xI G, 3, .inl u2.2.1)), (pile, .inl (xI G, 60, .inl u2.2.2))] H := hP
    have hD : va_D A [(t, .inr (8, [.ref row, .ref kpt, .int images, .ref errs, .ref bitsOf, .ref sizeOf, .ref cels, .ref broken, .ref isFit, .ref breaks, .int mfit, .int known, .ref act, .ref wth, .ref facts, .ref pile, .int laid, .int hre, .int opnd, .int bad, .int usg, .ref trc, .int trcd, .int isP])), (row, .inl (xI G, 400, .inl (upd row_f (4 : Int32).toNatClampNeg u3))), (broken, .inl (xJ G, 729, .inr (.inl broken_f))), (facts, .inl (xI G, 3, .inl u2.2.1)), (pile, .inl (xI G, 60, .inl u2.2.2))] := hD
    obtain ⟨g78, hF⟩ := gdS hF
    refine va_iast hx hb hK hP hD hS 1 0 rfl rfl g78 dX8_says_78 (fun H locs hP hD hS => ?_)
    have hP : va_P G.1 vwCl [(t, .inr (8, [.ref row, .ref kpt, .int images, .ref errs, .ref bitsOf, .ref sizeOf, .ref cels, .ref broken, .ref isFit, .ref breaks, .int mfit, .int known, .ref act, .ref wth, .ref facts, .ref pile, .int laid, .int hre, .int opnd, .int bad, .int usg, .ref trc, .int trcd, .int isP])), (row, .inl (xI G, 400, .inl (upd (upd row_f (4 : Int32).toNatClampNeg u3) (((8 : Int32) + ((3 : Int32) * br)) + (2 : Int32)).toNatClampNeg u4))), (broken, .inl (xJ G, 729, .inr (.inl broken_f))), (facts, .inl (xI G, 3, .inl u2.2.1)), (pile, .inl (xI G, 60, .inl u2.2.2))] H := hP
    have hD : va_D A [(t, .inr (8, [.ref row, .ref kpt, .int images, .ref errs, .ref bitsOf, .ref sizeOf, .ref cels, .ref broken, .ref isFit, .ref breaks, .int mfit, .int known, .ref act, .ref wth, .ref facts, .ref pile, .int laid, .int hre, .int opnd, .int bad, .int usg, .ref trc, .int trcd, .int isP])), (row, .inl (xI G, 400, .inl (upd (upd row_f (4 : Int32).toNatClampNeg u3) (((8 : Int32) + ((3 : Int32) * br)) + (2 : Int32)).toNatClampNeg u4))), (broken, .inl (xJ G, 729, .inr (.inl broken_f))), (facts, .inl (xI G, 3, .inl u2.2.1)), (pile, .inl (xI G, 60, .inl u2.2.2))] := hD
    refine lv_aload_n hx hb dX8_says_79 rfl (lv_at hl 2 rfl) ?_
    refine va_get (ci := 8) (v := .ref row) (C := RX8) (T := TX8) (N := 24) hx hb hts (fun w h => tcons w (xin8 w h)) hown hK hP 0 rfl rfl 0 (by decide) (hts _ (tcons _ m137)) (fun _ h9 => h9) rfl dX8_says_80 ?_
    refine lv_iconst (v := 3) hx hb dX8_says_83 (by decide) ?_
    refine va_iald hx hb hK hP 1 0 rfl rfl (by unfold vp_in; decide) dX8_says_84 ?_
    refine lv_bipush (v := 24) hx hb dX8_says_85 (by decide) ?_
    refine lv_icmp_ge (tgt := 97) hx hb dX8_says_87 (by decide) (fun c87 => ?_) (fun c87 => ?_)
    · have hF := itP c87 hF
      refine lv_iload hx hb dX8_says_97 (lv_at hl 1 rfl) ?_
      obtain rfl := Option.some.inj hF
      rw [← hQ]
      exact W.iret (v := (0 : Int32)) hx hb hr (fun t ht hW => ⟨⟨_, (), rfl, ⟨rfl, rfl⟩, xLf hP ht⟩, hS.F ht⟩) hS.2.2 dX8_says_99
    · have hF := itN c87 hF
      refine lv_aload_n hx hb dX8_says_90 rfl (lv_at hl 2 rfl) ?_
      refine lv_iload_n hx hb dX8_says_91 rfl (lv_at hl 4 rfl) ?_
      refine lv_iload hx hb dX8_says_92 (lv_at hl 1 rfl) ?_
      obtain ⟨u5, e5, hF⟩ := bdS hF
      refine xEndV (xRunV (As := [.int sy, .int (0 : Int32)]) (rest := []) hZ (c_X8_comes G t row kpt errs bitsOf sizeOf cels broken isFit breaks act wth facts pile trc images mfit known laid hre opnd bad usg trcd isP (upd (upd row_f (4 : Int32).toNatClampNeg u3) (((8 : Int32) + ((3 : Int32) * br)) + (2 : Int32)).toNatClampNeg u4) sy (0 : Int32) u5 e5 l H.size) m439 m440 m441 m5 m442 2 ⟨rfl, hdX8_comes⟩ ⟨Nat.le_of_ble_eq_true rfl, Nat.le_of_ble_eq_true rfl⟩ ⟨rfl, rfl⟩ hP hD hS 0 8 rfl rfl rfl [0, 1] rfl rfl rfl hl.1 rfl (Nat.le_of_ble_eq_true rfl) dX8_says_94 ⟨Nat.zero_le _, Nat.zero_le _⟩) hP hD hS hA [0, 1] rfl rfl rfl (fun H locs hP hD hS => ?_)
      have hP : va_P G.1 vwCl [(t, .inr (8, [.ref row, .ref kpt, .int images, .ref errs, .ref bitsOf, .ref sizeOf, .ref cels, .ref broken, .ref isFit, .ref breaks, .int mfit, .int u5.1, .ref act, .ref wth, .ref facts, .ref pile, .int laid, .int hre, .int opnd, .int bad, .int usg, .ref trc, .int trcd, .int isP])), (row, .inl (xI G, 400, .inl u5.2)), (broken, .inl (xJ G, 729, .inr (.inl broken_f))), (facts, .inl (xI G, 3, .inl u2.2.1)), (pile, .inl (xI G, 60, .inl u2.2.2))] H := hP
      have hD : va_D A [(t, .inr (8, [.ref row, .ref kpt, .int images, .ref errs, .ref bitsOf, .ref sizeOf, .ref cels, .ref broken, .ref isFit, .ref breaks, .int mfit, .int u5.1, .ref act, .ref wth, .ref facts, .ref pile, .int laid, .int hre, .int opnd, .int bad, .int usg, .ref trc, .int trcd, .int isP])), (row, .inl (xI G, 400, .inl u5.2)), (broken, .inl (xJ G, 729, .inr (.inl broken_f))), (facts, .inl (xI G, 3, .inl u2.2.1)), (pile, .inl (xI G, 60, .inl u2.2.2))] := hD
      refine lv_iload hx hb dX8_says_97 (lv_at hl 1 rfl) ?_
      obtain rfl := Option.some.inj hF
      rw [← hQ]
      exact W.iret (v := (0 : Int32)) hx hb hr (fun t ht hW => ⟨⟨_, (), rfl, ⟨rfl, rfl⟩, xLf hP ht⟩, hS.F ht⟩) hS.2.2 dX8_says_99
  · have hF := itN c12 hF
    refine lv_iconst (v := 1) hx hb dX8_says_15 (by decide) ?_
    refine lv_goto (tgt := 20) hx hb dX8_says_16 (by decide) ?_
    refine lv_istore (lv' := [(4, .int (1 : Int32)), (0, .ref t), (1, .int br), (2, .int sy), (3, .int slip)]) hx hb dX8_says_20 hl (by decide) rfl (fun ls hl => ?_)
    refine lv_bipush (v := 8) hx hb dX8_says_22 (by decide) ?_
    refine lv_iconst (v := 3) hx hb dX8_says_24 (by decide) ?_
    refine lv_iload_n hx hb dX8_says_25 rfl (lv_at hl 2 rfl) ?_
    refine lv_imul hx hb dX8_says_26 ?_
    refine lv_iadd hx hb dX8_says_27 ?_
    refine lv_iconst (v := 2) hx hb dX8_says_28 (by decide) ?_
    refine lv_iadd hx hb dX8_says_29 ?_
    refine lv_istore (lv' := [(5, .int (((8 : Int32) + ((3 : Int32) * br)) + (2 : Int32))), (4, .int (1 : Int32)), (0, .ref t), (1, .int br), (2, .int sy), (3, .int slip)]) hx hb dX8_says_30 hl (by decide) rfl (fun ls hl => ?_)
    refine lv_aload_n hx hb dX8_says_32 rfl (lv_at hl 2 rfl) ?_
    refine va_get (ci := 8) (v := .ref row) (C := RX8) (T := TX8) (N := 24) hx hb hts (fun w h => tcons w (xin8 w h)) hown hK hP 0 rfl rfl 0 (by decide) (hts _ (tcons _ m137)) (fun _ h9 => h9) rfl dX8_says_33 ?_
    refine lv_iconst (v := 4) hx hb dX8_says_36 (by decide) ?_
    refine lv_aload_n hx hb dX8_says_37 rfl (lv_at hl 2 rfl) ?_
    refine va_get (ci := 8) (v := .ref row) (C := RX8) (T := TX8) (N := 24) hx hb hts (fun w h => tcons w (xin8 w h)) hown hK hP 0 rfl rfl 0 (by decide) (hts _ (tcons _ m137)) (fun _ h9 => h9) rfl dX8_says_38 ?_
    refine lv_iconst (v := 4) hx hb dX8_says_41 (by decide) ?_
    refine va_iald hx hb hK hP 1 0 rfl rfl (by unfold vp_in; decide) dX8_says_42 ?_
    refine lv_aload_n hx hb dX8_says_43 rfl (lv_at hl 2 rfl) ?_
    refine lv_iload_n hx hb dX8_says_44 rfl (lv_at hl 3 rfl) ?_
    refine lv_iload_n hx hb dX8_says_45 rfl (lv_at hl 4 rfl) ?_
    obtain ⟨u2, e2, hF⟩ := bdS hF
    refine xEndI (xRunV (As := [.int br, .int sy]) (rest := [.int (row_f (4 : Int32).toNatClampNeg), .int (4 : Int32), .ref row]) hZ (c_X8_talkOf G t row kpt errs bitsOf sizeOf cels broken isFit breaks act wth facts pile trc images mfit known laid hre opnd bad usg trcd isP row_f facts_f pile_f br sy u2 e2 l H.size) m406 m407 m408 m5 m409 2 ⟨rfl, hdX8_talkOf⟩ ⟨Nat.le_of_ble_eq_true rfl, Nat.le_of_ble_eq_true rfl⟩ ⟨rfl, rfl⟩ hP hD hS 0 8 rfl rfl rfl [0, 1, 3, 4] rfl rfl rfl hl.1 rfl (Nat.le_of_ble_eq_true rfl) dX8_says_46 ⟨Nat.zero_le _, Nat.zero_le _⟩) hP hD hS hA [0, 1, 3, 4] rfl rfl rfl (fun H locs n2 hP hD hS => ?_)
    have hP : va_P G.1 vwCl [(t, .inr (8, [.ref row, .ref kpt, .int images, .ref errs, .ref bitsOf, .ref sizeOf, .ref cels, .ref broken, .ref isFit, .ref breaks, .int mfit, .int known, .ref act, .ref wth, .ref facts, .ref pile, .int laid, .int hre, .int opnd, .int bad, .int usg, .ref trc, .int trcd, .int isP])), (row, .inl (xI G, 400, .inl row_f)), (broken, .inl (xJ G, 729, .inr (.inl broken_f))), (facts, .inl (xI G, 3, .inl u2.2.1)), (pile, .inl (xI G, 60, .inl u2.2.2))] H := hP
    have hD : va_D A [(t, .inr (8, [.ref row, .ref kpt, .int images, .ref errs, .ref bitsOf, .ref sizeOf, .ref cels, .ref broken, .ref isFit, .ref breaks, .int mfit, .int known, .ref act, .ref wth, .ref facts, .ref pile, .int laid, .int hre, .int opnd, .int bad, .int usg, .ref trc, .int trcd, .int isP])), (row, .inl (xI G, 400, .inl row_f)), (broken, .inl (xJ G, 729, .inr (.inl broken_f))), (facts, .inl (xI G, 3, .inl u2.2.1)), (pile, .inl (xI G, 60, .inl u2.2.2))] := hD
    refine lv_iadd hx hb dX8_says_49 ?_
    refine lv_iconst (v := 0) hx hb dX8_says_50 (by decide) ?_
    refine lv_ldc (v := 99999) hx hb hown (hts _ (tcons _ m482)) dX8_says_51 ?_
    obtain ⟨u3, e3, hF⟩ := bdS hF
    refine xEndI (xRunS (As := [.int ((row_f (4 : Int32).toNatClampNeg) + u2.1), .int (0 : Int32), .int (99999 : Int32)]) (rest := [.int (4 : Int32), .ref row]) hZ (c_X8_held G ((row_f (4 : Int32).toNatClampNeg) + u2.1) (0 : Int32) (99999 : Int32) u3 e3 l H.size) m336 m337 m5 m338 3 hdX8_held ⟨Nat.le_of_ble_eq_true rfl, Nat.le_of_ble_eq_true rfl⟩ ⟨rfl, rfl⟩ hP hD hS [] rfl rfl rfl hl.1 rfl (Nat.le_of_ble_eq_true rfl) dX8_says_53 ⟨Nat.zero_le _, Nat.zero_le _⟩) hP hD hS hA [] rfl rfl rfl (fun H locs n3 hP hD hS => ?_)
    have hP : va_P G.1 vwCl [(t, .inr (8, [.ref row, .ref kpt, .int images, .ref errs, .ref bitsOf, .ref sizeOf, .ref cels, .ref broken, .ref isFit, .ref breaks, .int mfit, .int known, .ref act, .ref wth, .ref facts, .ref pile, .int laid, .int hre, .int opnd, .int bad, .int usg, .ref trc, .int trcd, .int isP])), (row, .inl (xI G, 400, .inl row_f)), (broken, .inl (xJ G, 729, .inr (.inl broken_f))), (facts, .inl (xI G, 3, .inl u2.2.1)), (pile, .inl (xI G, 60, .inl u2.2.2))] H := hP
    have hD : va_D A [(t, .inr (8, [.ref row, .ref kpt, .int images, .ref errs, .ref bitsOf, .ref sizeOf, .ref cels, .ref broken, .ref isFit, .ref breaks, .int mfit, .int known, .ref act, .ref wth, .ref facts, .ref pile, .int laid, .int hre, .int opnd, .int bad, .int usg, .ref trc, .int trcd, .int isP])), (row, .inl (xI G, 400, .inl row_f)), (broken, .inl (xJ G, 729, .inr (.inl broken_f))), (facts, .inl (xI G, 3, .inl u2.2.1)), (pile, .inl (xI G, 60, .inl u2.2.2))] := hD
    refine va_iast hx hb hK hP hD hS 1 0 rfl rfl (by unfold vp_in; decide) dX8_says_56 (fun H locs hP hD hS => ?_)
    have hP : va_P G.1 vwCl [(t, .inr (8, [.ref row, .ref kpt, .int images, .ref errs, .ref bitsOf, .ref sizeOf, .ref cels, .ref broken, .ref isFit, .ref breaks, .int mfit, .int known, .ref act, .ref wth, .ref facts, .ref pile, .int laid, .int hre, .int opnd, .int bad, .int usg, .ref trc, .int trcd, .int isP])), (row, .inl (xI G, 400, .inl (upd row_f (4 : Int32).toNatClampNeg u3))), (broken, .inl (xJ G, 729, .inr (.inl broken_f))), (facts, .inl (xI G, 3, .inl u2.2.1)), (pile, .inl (xI G, 60, .inl u2.2.2))] H := hP
    have hD : va_D A [(t, .inr (8, [.ref row, .ref kpt, .int images, .ref errs, .ref bitsOf, .ref sizeOf, .ref cels, .ref broken, .ref isFit, .ref breaks, .int mfit, .int known, .ref act, .ref wth, .ref facts, .ref pile, .int laid, .int hre, .int opnd, .int bad, .int usg, .ref trc, .int trcd, .int isP])), (row, .inl (xI G, 400, .inl (upd row_f (4 : Int32).toNatClampNeg u3))), (broken, .inl (xJ G, 729, .inr (.inl broken_f))), (facts, .inl (xI G, 3, .inl u2.2.1)), (pile, .inl (xI G, 60, .inl u2.2.2))] := hD
    refine lv_aload_n hx hb dX8_says_57 rfl (lv_at hl 2 rfl) ?_
    refine va_get (ci := 8) (v := .ref row) (C := RX8) (T := TX8) (N := 24) hx hb hts (fun w h => tcons w (xin8 w h)) hown hK hP 0 rfl rfl 0 (by decide) (hts _ (tcons _ m137)) (fun _ h9 => h9) rfl dX8_says_58 ?_
    refine lv_iload hx hb dX8_says_61 (lv_at hl 0 rfl) ?_
    refine lv_aload_n hx hb dX8_says_63 rfl (lv_at hl 2 rfl) ?_
    refine va_get (ci := 8) (v := .ref row) (C := RX8) (T := TX8) (N := 24) hx hb hts (fun w h => tcons w (xin8 w h)) hown hK hP 0 rfl rfl 0 (by decide) (hts _ (tcons _ m137)) (fun _ h9 => h9) rfl dX8_says_64 ?_
    refine lv_iload hx hb dX8_says_67 (lv_at hl 0 rfl) ?_
    obtain ⟨g69, hF⟩ := gdS hF
    refine va_iald hx hb hK hP 1 0 rfl rfl g69 dX8_says_69 ?_
    refine lv_iconst (v := 1) hx hb dX8_says_70 (by decide) ?_
    refine lv_iadd hx hb dX8_says_71 ?_
    refine lv_iconst (v := 0) hx hb dX8_says_72 (by decide) ?_
    refine lv_ldc (v := 99999) hx hb hown (hts _ (tcons _ m482)) dX8_says_73 ?_
    obtain ⟨u4, e4, hF⟩ := bdS hF
    refine xEndI (xRunS (As := [.int (((upd row_f (4 : Int32).toNatClampNeg u3) (((8 : Int32) + ((3 : Int32) * br)) + (2 : Int32)).toNatClampNeg) + (1 : Int32)), .int (0 : Int32), .int (99999 : Int32)]) (rest := [.int (((8 : Int32) + ((3 : Int32) * br)) + (2 : Int32)), .ref row]) hZ (c_X8_held G (((upd row_f (4 : Int32).toNatClampNeg u3) (((8 : Int32) + ((3 : Int32) * br)) + (2 : Int32)).toNatClampNeg) + (1 : Int32)) (0 : Int32) (99999 : Int32) u4 e4 l H.size) m336 m337 m5 m338 3 hdX8_held ⟨Nat.le_of_ble_eq_true rfl, Nat.le_of_ble_eq_true rfl⟩ ⟨rfl, rfl⟩ hP hD hS [] rfl rfl rfl hl.1 rfl (Nat.le_of_ble_eq_true rfl) dX8_says_75 ⟨Nat.zero_le _, Nat.zero_le _⟩) hP hD hS hA [] rfl rfl rfl (fun H locs n4 hP hD hS => ?_)
    have hP : va_P G.1 vwCl [(t, .inr (8, [.ref row, .ref kpt, .int images, .ref errs, .ref bitsOf, .ref sizeOf, .ref cels, .ref broken, .ref isFit, .ref breaks, .int mfit, .int known, .ref act, .ref wth, .ref facts, .ref pile, .int laid, .int hre, .int opnd, .int bad, .int usg, .ref trc, .int trcd, .int isP])), (row, .inl (xI G, 400, .inl (upd row_f (4 : Int32).toNatClampNeg u3))), (broken, .inl (xJ G, 729, .inr (.inl broken_f))), (facts, .inl (xI G, 3, .inl u2.2.1)), (pile, .inl (xI G, 60, .inl u2.2.2))] H := hP
    have hD : va_D A [(t, .inr (8, [.ref row, .ref kpt, .int images, .ref errs, .ref bitsOf, .ref sizeOf, .ref cels, .ref broken, .ref isFit, .ref breaks, .int mfit, .int known, .ref act, .ref wth, .ref facts, .ref pile, .int laid, .int hre, .int opnd, .int bad, .int usg, .ref trc, .int trcd, .int isP])), (row, .inl (xI G, 400, .inl (upd row_f (4 : Int32).toNatClampNeg u3))), (broken, .inl (xJ G, 729, .inr (.inl broken_f))), (facts, .inl (xI G, 3, .inl u2.2.1)), (pile, .inl (xI G, 60, .inl u2.2.2))] := hD
    obtain ⟨g78, hF⟩ := gdS hF
    refine va_iast hx hb hK hP hD hS 1 0 rfl rfl g78 dX8_says_78 (fun H locs hP hD hS => ?_)
    have hP : va_P G.1 vwCl [(t, .inr (8, [.ref row, .ref kpt, .int images, .ref errs, .ref bitsOf, .ref sizeOf, .ref cels, .ref broken, .ref isFit, .ref breaks, .int mfit, .int known, .ref act, .ref wth, .ref facts, .ref pile, .int laid, .int hre, .int opnd, .int bad, .int usg, .ref trc, .int trcd, .int isP])), (row, .inl (xI G, 400, .inl (upd (upd row_f (4 : Int32).toNatClampNeg u3) (((8 : Int32) + ((3 : Int32) * br)) + (2 : Int32)).toNatClampNeg u4))), (broken, .inl (xJ G, 729, .inr (.inl broken_f))), (facts, .inl (xI G, 3, .inl u2.2.1)), (pile, .inl (xI G, 60, .inl u2.2.2))] H := hP
    have hD : va_D A [(t, .inr (8, [.ref row, .ref kpt, .int images, .ref errs, .ref bitsOf, .ref sizeOf, .ref cels, .ref broken, .ref isFit, .ref breaks, .int mfit, .int known, .ref act, .ref wth, .ref facts, .ref pile, .int laid, .int hre, .int opnd, .int bad, .int usg, .ref trc, .int trcd, .int isP])), (row, .inl (xI G, 400, .inl (upd (upd row_f (4 : Int32).toNatClampNeg u3) (((8 : Int32) + ((3 : Int32) * br)) + (2 : Int32)).toNatClampNeg u4))), (broken, .inl (xJ G, 729, .inr (.inl broken_f))), (facts, .inl (xI G, 3, .inl u2.2.1)), (pile, .inl (xI G, 60, .inl u2.2.2))] := hD
    refine lv_aload_n hx hb dX8_says_79 rfl (lv_at hl 2 rfl) ?_
    refine va_get (ci := 8) (v := .ref row) (C := RX8) (T := TX8) (N := 24) hx hb hts (fun w h => tcons w (xin8 w h)) hown hK hP 0 rfl rfl 0 (by decide) (hts _ (tcons _ m137)) (fun _ h9 => h9) rfl dX8_says_80 ?_
    refine lv_iconst (v := 3) hx hb dX8_says_83 (by decide) ?_
    refine va_iald hx hb hK hP 1 0 rfl rfl (by unfold vp_in; decide) dX8_says_84 ?_
    refine lv_bipush (v := 24) hx hb dX8_says_85 (by decide) ?_
    refine lv_icmp_ge (tgt := 97) hx hb dX8_says_87 (by decide) (fun c87 => ?_) (fun c87 => ?_)
    · have hF := itP c87 hF
      refine lv_iload hx hb dX8_says_97 (lv_at hl 1 rfl) ?_
      obtain rfl := Option.some.inj hF
      rw [← hQ]
      exact W.iret (v := (1 : Int32)) hx hb hr (fun t ht hW => ⟨⟨_, (), rfl, ⟨rfl, rfl⟩, xLf hP ht⟩, hS.F ht⟩) hS.2.2 dX8_says_99
    · have hF := itN c87 hF
      refine lv_aload_n hx hb dX8_says_90 rfl (lv_at hl 2 rfl) ?_
      refine lv_iload_n hx hb dX8_says_91 rfl (lv_at hl 4 rfl) ?_
      refine lv_iload hx hb dX8_says_92 (lv_at hl 1 rfl) ?_
      obtain ⟨u5, e5, hF⟩ := bdS hF
      refine xEndV (xRunV (As := [.int sy, .int (1 : Int32)]) (rest := []) hZ (c_X8_comes G t row kpt errs bitsOf sizeOf cels broken isFit breaks act wth facts pile trc images mfit known laid hre opnd bad usg trcd isP (upd (upd row_f (4 : Int32).toNatClampNeg u3) (((8 : Int32) + ((3 : Int32) * br)) + (2 : Int32)).toNatClampNeg u4) sy (1 : Int32) u5 e5 l H.size) m439 m440 m441 m5 m442 2 ⟨rfl, hdX8_comes⟩ ⟨Nat.le_of_ble_eq_true rfl, Nat.le_of_ble_eq_true rfl⟩ ⟨rfl, rfl⟩ hP hD hS 0 8 rfl rfl rfl [0, 1] rfl rfl rfl hl.1 rfl (Nat.le_of_ble_eq_true rfl) dX8_says_94 ⟨Nat.zero_le _, Nat.zero_le _⟩) hP hD hS hA [0, 1] rfl rfl rfl (fun H locs hP hD hS => ?_)
      have hP : va_P G.1 vwCl [(t, .inr (8, [.ref row, .ref kpt, .int images, .ref errs, .ref bitsOf, .ref sizeOf, .ref cels, .ref broken, .ref isFit, .ref breaks, .int mfit, .int u5.1, .ref act, .ref wth, .ref facts, .ref pile, .int laid, .int hre, .int opnd, .int bad, .int usg, .ref trc, .int trcd, .int isP])), (row, .inl (xI G, 400, .inl u5.2)), (broken, .inl (xJ G, 729, .inr (.inl broken_f))), (facts, .inl (xI G, 3, .inl u2.2.1)), (pile, .inl (xI G, 60, .inl u2.2.2))] H := hP
      have hD : va_D A [(t, .inr (8, [.ref row, .ref kpt, .int images, .ref errs, .ref bitsOf, .ref sizeOf, .ref cels, .ref broken, .ref isFit, .ref breaks, .int mfit, .int u5.1, .ref act, .ref wth, .ref facts, .ref pile, .int laid, .int hre, .int opnd, .int bad, .int usg, .ref trc, .int trcd, .int isP])), (row, .inl (xI G, 400, .inl u5.2)), (broken, .inl (xJ G, 729, .inr (.inl broken_f))), (facts, .inl (xI G, 3, .inl u2.2.1)), (pile, .inl (xI G, 60, .inl u2.2.2))] := hD
      refine lv_iload hx hb dX8_says_97 (lv_at hl 1 rfl) ?_
      obtain rfl := Option.some.inj hF
      rw [← hQ]
      exact W.iret (v := (1 : Int32)) hx hb hr (fun t ht hW => ⟨⟨_, (), rfl, ⟨rfl, rfl⟩, xLf hP ht⟩, hS.F ht⟩) hS.2.2 dX8_says_99
def F_X8_draw (row_f : Nat → Int32) : Option (Int32 × (Nat → Int32)) := some (((((upd row_f (1 : Int32).toNatClampNeg (((row_f (1 : Int32).toNatClampNeg) * (1103515245 : Int32)) + (12345 : Int32))) (1 : Int32).toNatClampNeg).toUInt32 >>> ((8 : Int32).toUInt32 &&& Int32.toUInt32 31)).toInt32), (upd row_f (1 : Int32).toNatClampNeg (((row_f (1 : Int32).toNatClampNeg) * (1103515245 : Int32)) + (12345 : Int32))))
theorem hdX8_draw : yX8_draw.cls ≠ "java/lang/invoke/MethodHandle" ∧ yX8_draw.cls ≠ "java/lang/invoke/VarHandle" ∧ (parseMethodDescriptor yX8_draw.desc).map (fun d => d.parameters.length) = some 0 := by decide +kernel
set_option maxHeartbeats 4000000 in
set_option maxRecDepth 100000 in
theorem c_X8_draw (G : xG) (t : Nat) (row : Nat) (kpt : Nat) (errs : Nat) (bitsOf : Nat) (sizeOf : Nat) (cels : Nat) (broken : Nat) (isFit : Nat) (breaks : Nat) (act : Nat) (wth : Nat) (facts : Nat) (pile : Nat) (trc : Nat) (images : Int32) (mfit : Int32) (known : Int32) (laid : Int32) (hre : Int32) (opnd : Int32) (bad : Int32) (usg : Int32) (trcd : Int32) (isP : Int32) (row_f : Nat → Int32)  (u : (Int32 × (Nat → Int32))) (hF : F_X8_draw row_f = some u) : Ki G .int yX8_draw (Cond.code yX8_draw cX8_draw 1 (some .int) :: TBL) { frames := 0, cells := 0, slots := 0, locals := 0 } [.ref t] [(t, .inr (8, [.ref row, .ref kpt, .int images, .ref errs, .ref bitsOf, .ref sizeOf, .ref cels, .ref broken, .ref isFit, .ref breaks, .int mfit, .int known, .ref act, .ref wth, .ref facts, .ref pile, .int laid, .int hre, .int opnd, .int bad, .int usg, .ref trc, .int trcd, .int isP])), (row, .inl (xI G, 400, .inl row_f))] [(t, .inr (8, [.ref row, .ref kpt, .int images, .ref errs, .ref bitsOf, .ref sizeOf, .ref cels, .ref broken, .ref isFit, .ref breaks, .int mfit, .int known, .ref act, .ref wth, .ref facts, .ref pile, .int laid, .int hre, .int opnd, .int bad, .int usg, .ref trc, .int trcd, .int isP])), (row, .inl (xI G, 400, .inl u.2))] u.1 := by
  intro l sz
  refine Met.ofW (cc := cX8_draw) (maxL := 1) (ret := (some .int)) (by decide) rfl ?_
  intro p e s m args below meth c s₁ B hml hv
  obtain ⟨rfl, hsz, hP, hD0, hm⟩ := hv
  have hx := B.exec
  have hb := B.bytes
  have hr := B.returns
  have hts := atoms_spec (ws := Cond.code yX8_draw cX8_draw 1 (some .int) :: TBL) B.pre
  have hown : s.vm.findClass RX8 = some m.cls := findClass_of_methodNamed B.named
  have hlocks := B.notSynchronized
  subst hsz
  have hD := hD0.self (sz := s.heap.size)
  generalize hAe : va_A [(t, .inr (8, [.ref row, .ref kpt, .int images, .ref errs, .ref bitsOf, .ref sizeOf, .ref cels, .ref broken, .ref isFit, .ref breaks, .int mfit, .int known, .ref act, .ref wth, .ref facts, .ref pile, .int laid, .int hre, .int opnd, .int bad, .int usg, .ref trc, .int trcd, .int isP])), (row, .inl (xI G, 400, .inl row_f))] s.heap.size = A at hD hm ⊢
  have hA : ∀ q : Nat, s.heap.size ≤ q → A q := fun q h => by rw [← hAe]; exact Or.inr h
  have hK := hm.1
  have hZ : xAnd p m c cX8_draw 1 s _ (Cond.code yX8_draw cX8_draw 1 (some .int) :: TBL) RX8 G A := ⟨⟨hx, hb, hml, hown, hts⟩, tcons, hA, hm⟩
  have hP : va_P G.1 vwCl [(t, .inr (8, [.ref row, .ref kpt, .int images, .ref errs, .ref bitsOf, .ref sizeOf, .ref cels, .ref broken, .ref isFit, .ref breaks, .int mfit, .int known, .ref act, .ref wth, .ref facts, .ref pile, .int laid, .int hre, .int opnd, .int bad, .int usg, .ref trc, .int trcd, .int isP])), (row, .inl (xI G, 400, .inl row_f))] s.heap := hP
  have hl := lv_entry ([.ref t]) (n := 1) (Nat.le_of_ble_eq_true rfl)
  rw [lg_entry_eq]
  generalize (lg_sl ([.ref t]) ++ List.replicate (1 - (lg_sl ([.ref t])).length) Slot.unset).toArray = ls at hl ⊢
  have hl : lv_has ls 1 [(0, .ref t)] := hl
  generalize hQ : MQ below _ _ s _ _ _ = Q
  refine xGo (A := A) hP (fun H locs hP hS => ?_)
  unfold F_X8_draw at hF
  refine lv_aload_n hx hb dX8_draw_0 rfl (lv_at hl 0 rfl) ?_
  refine va_get (ci := 8) (v := .ref row) (C := RX8) (T := TX8) (N := 24) hx hb hts (fun w h => tcons w (xin8 w h)) hown hK hP 0 rfl rfl 0 (by decide) (hts _ (tcons _ m137)) (fun _ h9 => h9) rfl dX8_draw_1 ?_
  refine lv_iconst (v := 1) hx hb dX8_draw_4 (by decide) ?_
  refine lv_aload_n hx hb dX8_draw_5 rfl (lv_at hl 0 rfl) ?_
  refine va_get (ci := 8) (v := .ref row) (C := RX8) (T := TX8) (N := 24) hx hb hts (fun w h => tcons w (xin8 w h)) hown hK hP 0 rfl rfl 0 (by decide) (hts _ (tcons _ m137)) (fun _ h9 => h9) rfl dX8_draw_6 ?_
  refine lv_iconst (v := 1) hx hb dX8_draw_9 (by decide) ?_
  refine va_iald hx hb hK hP 1 0 rfl rfl (by unfold vp_in; decide) dX8_draw_10 ?_
  refine lv_ldc (v := 1103515245) hx hb hown (hts _ (tcons _ m766)) dX8_draw_11 ?_
  refine lv_imul hx hb dX8_draw_13 ?_
  refine lv_sipush (v := 12345) hx hb dX8_draw_14 (by decide) ?_
  refine lv_iadd hx hb dX8_draw_17 ?_
  refine va_iast hx hb hK hP hD hS 1 0 rfl rfl (by unfold vp_in; decide) dX8_draw_18 (fun H locs hP hD hS => ?_)
  have hP : va_P G.1 vwCl [(t, .inr (8, [.ref row, .ref kpt, .int images, .ref errs, .ref bitsOf, .ref sizeOf, .ref cels, .ref broken, .ref isFit, .ref breaks, .int mfit, .int known, .ref act, .ref wth, .ref facts, .ref pile, .int laid, .int hre, .int opnd, .int bad, .int usg, .ref trc, .int trcd, .int isP])), (row, .inl (xI G, 400, .inl (upd row_f (1 : Int32).toNatClampNeg (((row_f (1 : Int32).toNatClampNeg) * (1103515245 : Int32)) + (12345 : Int32)))))] H := hP
  have hD : va_D A [(t, .inr (8, [.ref row, .ref kpt, .int images, .ref errs, .ref bitsOf, .ref sizeOf, .ref cels, .ref broken, .ref isFit, .ref breaks, .int mfit, .int known, .ref act, .ref wth, .ref facts, .ref pile, .int laid, .int hre, .int opnd, .int bad, .int usg, .ref trc, .int trcd, .int isP])), (row, .inl (xI G, 400, .inl (upd row_f (1 : Int32).toNatClampNeg (((row_f (1 : Int32).toNatClampNeg) * (1103515245 : Int32)) + (12345 : Int32)))))] := hD
  refine lv_aload_n hx hb dX8_draw_19 rfl (lv_at hl 0 rfl) ?_
  refine va_get (ci := 8) (v := .ref row) (C := RX8) (T := TX8) (N := 24) hx hb hts (fun w h => tcons w (xin8 w h)) hown hK hP 0 rfl rfl 0 (by decide) (hts _ (tcons _ m137)) (fun _ h9 => h9) rfl dX8_draw_20 ?_
  refine lv_iconst (v := 1) hx hb dX8_draw_23 (by decide) ?_
  refine va_iald hx hb hK hP 1 0 rfl rfl (by unfold vp_in; decide) dX8_draw_24 ?_
  refine lv_bipush (v := 8) hx hb dX8_draw_25 (by decide) ?_
  refine lv_iushr hx hb dX8_draw_27 rfl ?_
  obtain rfl := Option.some.inj hF
  rw [← hQ]
  exact W.iret (v := ((((upd row_f (1 : Int32).toNatClampNeg (((row_f (1 : Int32).toNatClampNeg) * (1103515245 : Int32)) + (12345 : Int32))) (1 : Int32).toNatClampNeg).toUInt32 >>> ((8 : Int32).toUInt32 &&& Int32.toUInt32 31)).toInt32)) hx hb hr (fun t ht hW => ⟨⟨_, (), rfl, ⟨rfl, rfl⟩, xLf hP ht⟩, hS.F ht⟩) hS.2.2 dX8_draw_28
