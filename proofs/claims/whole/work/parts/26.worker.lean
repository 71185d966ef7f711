def F_X6_isTrue (op : Int32) (le : Int32) (ri : Int32) : Option Int32 := if op = (38 : Int32) then (if le = 0 then (some (0 : Int32)) else (if ri = 0 then (some (0 : Int32)) else (some (1 : Int32)))) else (if op = (60 : Int32) then (if ri ≤ le then (some (0 : Int32)) else (some (1 : Int32))) else (if op = (61 : Int32) then (if le = ri then (some (1 : Int32)) else (some (0 : Int32))) else (if op = (62 : Int32) then (if le ≤ ri then (some (0 : Int32)) else (some (1 : Int32))) else (if le = 0 then (if ri = 0 then (some (0 : Int32)) else (some (1 : Int32))) else (some (1 : Int32))))))
theorem hdX6_isTrue : yX6_isTrue.cls ≠ "java/lang/invoke/MethodHandle" ∧ yX6_isTrue.cls ≠ "java/lang/invoke/VarHandle" ∧ (parseMethodDescriptor yX6_isTrue.desc).map (fun d => d.parameters.length) = some 3 := by decide +kernel
set_option maxHeartbeats 4000000 in
set_option maxRecDepth 100000 in
theorem c_X6_isTrue (G : xG) (op : Int32) (le : Int32) (ri : Int32)  (u : Int32) (hF : F_X6_isTrue op le ri = some u) : Ki G .boolean yX6_isTrue (Cond.code yX6_isTrue cX6_isTrue 3 (some .boolean) :: TBL) { frames := 0, cells := 0, slots := 0, locals := 0 } [.int op, .int le, .int ri] [] [] u := by
  intro l sz
  refine Met.ofW (cc := cX6_isTrue) (maxL := 3) (ret := (some .boolean)) (by decide) rfl ?_
  intro p e s m args below meth c s₁ B hml hv
  obtain ⟨rfl, hsz, hP, hD0, hm⟩ := hv
  have hx := B.exec
  have hb := B.bytes
  have hr := B.returns
  have hts := atoms_spec (ws := Cond.code yX6_isTrue cX6_isTrue 3 (some .boolean) :: TBL) B.pre
  have hown : s.vm.findClass RX6 = some m.cls := findClass_of_methodNamed B.named
  have hlocks := B.notSynchronized
  subst hsz
  have hD := hD0.self (sz := s.heap.size)
  generalize hAe : va_A [] s.heap.size = A at hD hm ⊢
  have hA : ∀ q : Nat, s.heap.size ≤ q → A q := fun q h => by rw [← hAe]; exact Or.inr h
  have hK := hm.1
  have hZ : xAnd p m c cX6_isTrue 3 s _ (Cond.code yX6_isTrue cX6_isTrue 3 (some .boolean) :: TBL) RX6 G A := ⟨⟨hx, hb, hml, hown, hts⟩, tcons, hA, hm⟩
  have hP : va_P G.1 vwCl [] s.heap := hP
  have hl := lv_entry ([.int op, .int le, .int ri]) (n := 3) (Nat.le_of_ble_eq_true rfl)
  rw [lg_entry_eq]
  generalize (lg_sl ([.int op, .int le, .int ri]) ++ List.replicate (3 - (lg_sl ([.int op, .int le, .int ri])).length) Slot.unset).toArray = ls at hl ⊢
  have hl : lv_has ls 3 [(0, .int op), (1, .int le), (2, .int ri)] := hl
  generalize hQ : MQ below _ _ s _ _ _ = Q
  refine xGo (A := A) hP (fun H locs hP hS => ?_)
  unfold F_X6_isTrue at hF
  refine lv_iload_n hx hb dX6_isTrue_0 rfl (lv_at hl 0 rfl) ?_
  by_cases c1_0 : op = (38 : Int32)
  · have hF := itP c1_0 hF
    refine lv_lookup (off := 76) (tgt := 77) hx hb dX6_isTrue_1 (by decide) (by rw [c1_0]; rfl) (by decide) ?_
    refine lv_iload_n hx hb dX6_isTrue_77 rfl (lv_at hl 1 rfl) ?_
    refine lv_if_eq (tgt := 89) hx hb dX6_isTrue_78 (by decide) (fun c78 => ?_) (fun c78 => ?_)
    · have hF := itP c78 hF
      refine lv_iconst (v := 0) hx hb dX6_isTrue_89 (by decide) ?_
      obtain rfl := Option.some.inj hF
      rw [← hQ]
      exact W.zret (v := (0 : Int32)) hx hb hr (show narrow .boolean (.int (0 : Int32)) = .int (0 : Int32) from by decide) (fun t ht hW => ⟨⟨_, (), rfl, ⟨rfl, (show narrow .boolean (.int (0 : Int32)) = .int (0 : Int32) from by decide)⟩, xLf hP ht⟩, hS.F ht⟩) hS.2.2 dX6_isTrue_90
    · have hF := itN c78 hF
      refine lv_iload_n hx hb dX6_isTrue_81 rfl (lv_at hl 2 rfl) ?_
      refine lv_if_eq (tgt := 89) hx hb dX6_isTrue_82 (by decide) (fun c82 => ?_) (fun c82 => ?_)
      · have hF := itP c82 hF
        refine lv_iconst (v := 0) hx hb dX6_isTrue_89 (by decide) ?_
        obtain rfl := Option.some.inj hF
        rw [← hQ]
        exact W.zret (v := (0 : Int32)) hx hb hr (show narrow .boolean (.int (0 : Int32)) = .int (0 : Int32) from by decide) (fun t ht hW => ⟨⟨_, (), rfl, ⟨rfl, (show narrow .boolean (.int (0 : Int32)) = .int (0 : Int32) from by decide)⟩, xLf hP ht⟩, hS.F ht⟩) hS.2.2 dX6_isTrue_90
      · have hF := itN c82 hF
        refine lv_iconst (v := 1) hx hb dX6_isTrue_85 (by decide) ?_
        refine lv_goto (tgt := 90) hx hb dX6_isTrue_86 (by decide) ?_
        obtain rfl := Option.some.inj hF
        rw [← hQ]
        exact W.zret (v := (1 : Int32)) hx hb hr (show narrow .boolean (.int (1 : Int32)) = .int (1 : Int32) from by decide) (fun t ht hW => ⟨⟨_, (), rfl, ⟨rfl, (show narrow .boolean (.int (1 : Int32)) = .int (1 : Int32) from by decide)⟩, xLf hP ht⟩, hS.F ht⟩) hS.2.2 dX6_isTrue_90
  · have hF := itN c1_0 hF
    by_cases c1_1 : op = (60 : Int32)
    · have hF := itP c1_1 hF
      refine lv_lookup (off := 43) (tgt := 44) hx hb dX6_isTrue_1 (by decide) (by rw [c1_1]; rfl) (by decide) ?_
      refine lv_iload_n hx hb dX6_isTrue_44 rfl (lv_at hl 1 rfl) ?_
      refine lv_iload_n hx hb dX6_isTrue_45 rfl (lv_at hl 2 rfl) ?_
      refine lv_icmp_ge (tgt := 53) hx hb dX6_isTrue_46 (by decide) (fun c46 => ?_) (fun c46 => ?_)
      · have hF := itP c46 hF
        refine lv_iconst (v := 0) hx hb dX6_isTrue_53 (by decide) ?_
        obtain rfl := Option.some.inj hF
        rw [← hQ]
        exact W.zret (v := (0 : Int32)) hx hb hr (show narrow .boolean (.int (0 : Int32)) = .int (0 : Int32) from by decide) (fun t ht hW => ⟨⟨_, (), rfl, ⟨rfl, (show narrow .boolean (.int (0 : Int32)) = .int (0 : Int32) from by decide)⟩, xLf hP ht⟩, hS.F ht⟩) hS.2.2 dX6_isTrue_54
      · have hF := itN c46 hF
        refine lv_iconst (v := 1) hx hb dX6_isTrue_49 (by decide) ?_
        refine lv_goto (tgt := 54) hx hb dX6_isTrue_50 (by decide) ?_
        obtain rfl := Option.some.inj hF
        rw [← hQ]
        exact W.zret (v := (1 : Int32)) hx hb hr (show narrow .boolean (.int (1 : Int32)) = .int (1 : Int32) from by decide) (fun t ht hW => ⟨⟨_, (), rfl, ⟨rfl, (show narrow .boolean (.int (1 : Int32)) = .int (1 : Int32) from by decide)⟩, xLf hP ht⟩, hS.F ht⟩) hS.2.2 dX6_isTrue_54
    · have hF := itN c1_1 hF
      by_cases c1_2 : op = (61 : Int32)
      · have hF := itP c1_2 hF
        refine lv_lookup (off := 54) (tgt := 55) hx hb dX6_isTrue_1 (by decide) (by rw [c1_2]; rfl) (by decide) ?_
        refine lv_iload_n hx hb dX6_isTrue_55 rfl (lv_at hl 1 rfl) ?_
        refine lv_iload_n hx hb dX6_isTrue_56 rfl (lv_at hl 2 rfl) ?_
        refine lv_icmp_ne (tgt := 64) hx hb dX6_isTrue_57 (by decide) (fun c57 => ?_) (fun c57 => ?_)
        · have hF := itN c57 hF
          refine lv_iconst (v := 0) hx hb dX6_isTrue_64 (by decide) ?_
          obtain rfl := Option.some.inj hF
          rw [← hQ]
          exact W.zret (v := (0 : Int32)) hx hb hr (show narrow .boolean (.int (0 : Int32)) = .int (0 : Int32) from by decide) (fun t ht hW => ⟨⟨_, (), rfl, ⟨rfl, (show narrow .boolean (.int (0 : Int32)) = .int (0 : Int32) from by decide)⟩, xLf hP ht⟩, hS.F ht⟩) hS.2.2 dX6_isTrue_65
        · have hF := itP c57 hF
          refine lv_iconst (v := 1) hx hb dX6_isTrue_60 (by decide) ?_
          refine lv_goto (tgt := 65) hx hb dX6_isTrue_61 (by decide) ?_
          obtain rfl := Option.some.inj hF
          rw [← hQ]
          exact W.zret (v := (1 : Int32)) hx hb hr (show narrow .boolean (.int (1 : Int32)) = .int (1 : Int32) from by decide) (fun t ht hW => ⟨⟨_, (), rfl, ⟨rfl, (show narrow .boolean (.int (1 : Int32)) = .int (1 : Int32) from by decide)⟩, xLf hP ht⟩, hS.F ht⟩) hS.2.2 dX6_isTrue_65
      · have hF := itN c1_2 hF
        by_cases c1_3 : op = (62 : Int32)
        · have hF := itP c1_3 hF
          refine lv_lookup (off := 65) (tgt := 66) hx hb dX6_isTrue_1 (by decide) (by rw [c1_3]; rfl) (by decide) ?_
          refine lv_iload_n hx hb dX6_isTrue_66 rfl (lv_at hl 1 rfl) ?_
          refine lv_iload_n hx hb dX6_isTrue_67 rfl (lv_at hl 2 rfl) ?_
          refine lv_icmp_le (tgt := 75) hx hb dX6_isTrue_68 (by decide) (fun c68 => ?_) (fun c68 => ?_)
          · have hF := itP c68 hF
            refine lv_iconst (v := 0) hx hb dX6_isTrue_75 (by decide) ?_
            obtain rfl := Option.some.inj hF
            rw [← hQ]
            exact W.zret (v := (0 : Int32)) hx hb hr (show narrow .boolean (.int (0 : Int32)) = .int (0 : Int32) from by decide) (fun t ht hW => ⟨⟨_, (), rfl, ⟨rfl, (show narrow .boolean (.int (0 : Int32)) = .int (0 : Int32) from by decide)⟩, xLf hP ht⟩, hS.F ht⟩) hS.2.2 dX6_isTrue_76
          · have hF := itN c68 hF
            refine lv_iconst (v := 1) hx hb dX6_isTrue_71 (by decide) ?_
            refine lv_goto (tgt := 76) hx hb dX6_isTrue_72 (by decide) ?_
            obtain rfl := Option.some.inj hF
            rw [← hQ]
            exact W.zret (v := (1 : Int32)) hx hb hr (show narrow .boolean (.int (1 : Int32)) = .int (1 : Int32) from by decide) (fun t ht hW => ⟨⟨_, (), rfl, ⟨rfl, (show narrow .boolean (.int (1 : Int32)) = .int (1 : Int32) from by decide)⟩, xLf hP ht⟩, hS.F ht⟩) hS.2.2 dX6_isTrue_76
        · have hF := itN c1_3 hF
          refine lv_lookup (off := 90) (tgt := 91) hx hb dX6_isTrue_1 (by decide) (by have h0 : op.toInt ≠ 38 := xNe c1_0; have h1 : op.toInt ≠ 60 := xNe c1_1; have h2 : op.toInt ≠ 61 := xNe c1_2; have h3 : op.toInt ≠ 62 := xNe c1_3; show Op.lookupswitch.offset [(38, 76), (60, 43), (61, 54), (62, 65)] 90 op.toInt = 90; rw [Op.lookupswitch.offset_cons, if_neg (Ne.symm h0), Op.lookupswitch.offset_cons, if_neg (Ne.symm h1), Op.lookupswitch.offset_cons, if_neg (Ne.symm h2), Op.lookupswitch.offset_cons, if_neg (Ne.symm h3)]; rfl) (by decide) ?_
          refine lv_iload_n hx hb dX6_isTrue_91 rfl (lv_at hl 1 rfl) ?_
          refine lv_if_ne (tgt := 99) hx hb dX6_isTrue_92 (by decide) (fun c92 => ?_) (fun c92 => ?_)
          · have hF := itN c92 hF
            refine lv_iconst (v := 1) hx hb dX6_isTrue_99 (by decide) ?_
            refine lv_goto (tgt := 104) hx hb dX6_isTrue_100 (by decide) ?_
            obtain rfl := Option.some.inj hF
            rw [← hQ]
            exact W.zret (v := (1 : Int32)) hx hb hr (show narrow .boolean (.int (1 : Int32)) = .int (1 : Int32) from by decide) (fun t ht hW => ⟨⟨_, (), rfl, ⟨rfl, (show narrow .boolean (.int (1 : Int32)) = .int (1 : Int32) from by decide)⟩, xLf hP ht⟩, hS.F ht⟩) hS.2.2 dX6_isTrue_104
          · have hF := itP c92 hF
            refine lv_iload_n hx hb dX6_isTrue_95 rfl (lv_at hl 2 rfl) ?_
            refine lv_if_eq (tgt := 103) hx hb dX6_isTrue_96 (by decide) (fun c96 => ?_) (fun c96 => ?_)
            · have hF := itP c96 hF
              refine lv_iconst (v := 0) hx hb dX6_isTrue_103 (by decide) ?_
              obtain rfl := Option.some.inj hF
              rw [← hQ]
              exact W.zret (v := (0 : Int32)) hx hb hr (show narrow .boolean (.int (0 : Int32)) = .int (0 : Int32) from by decide) (fun t ht hW => ⟨⟨_, (), rfl, ⟨rfl, (show narrow .boolean (.int (0 : Int32)) = .int (0 : Int32) from by decide)⟩, xLf hP ht⟩, hS.F ht⟩) hS.2.2 dX6_isTrue_104
            · have hF := itN c96 hF
              refine lv_iconst (v := 1) hx hb dX6_isTrue_99 (by decide) ?_
              refine lv_goto (tgt := 104) hx hb dX6_isTrue_100 (by decide) ?_
              obtain rfl := Option.some.inj hF
              rw [← hQ]
              exact W.zret (v := (1 : Int32)) hx hb hr (show narrow .boolean (.int (1 : Int32)) = .int (1 : Int32) from by decide) (fun t ht hW => ⟨⟨_, (), rfl, ⟨rfl, (show narrow .boolean (.int (1 : Int32)) = .int (1 : Int32) from by decide)⟩, xLf hP ht⟩, hS.F ht⟩) hS.2.2 dX6_isTrue_104
def F_X6_joined (op : Int32) (le : Int32) (ri : Int32) : Option Int32 := if op = (37 : Int32) then (if ri = 0 then (some (0 : Int32)) else (if ri = 0 then none else (some (le - le / ri * ri)))) else (if op = (42 : Int32) then (some (le * ri)) else (if op = (43 : Int32) then (some (le + ri)) else (if op = (45 : Int32) then (some (le - ri)) else (if op = (47 : Int32) then (if ri = 0 then (some (0 : Int32)) else (if ri = 0 then none else (some (le / ri)))) else (bd (F_X6_isTrue op le ri) (fun (u1 : Int32) => if u1 = 0 then (some (0 : Int32)) else (some (1 : Int32))))))))
theorem hdX6_joined : yX6_joined.cls ≠ "java/lang/invoke/MethodHandle" ∧ yX6_joined.cls ≠ "java/lang/invoke/VarHandle" ∧ (parseMethodDescriptor yX6_joined.desc).map (fun d => d.parameters.length) = some 3 := by decide +kernel
set_option maxHeartbeats 4000000 in
set_option maxRecDepth 100000 in
theorem c_X6_joined (G : xG) (op : Int32) (le : Int32) (ri : Int32)  (u : Int32) (hF : F_X6_joined op le ri = some u) : Ki G .int yX6_joined (Cond.code yX6_joined cX6_joined 3 (some .int) :: TBL) { frames := 1, cells := 0, slots := 0, locals := 22 } [.int op, .int le, .int ri] [] [] u := by
  intro l sz
  refine Met.ofW (cc := cX6_joined) (maxL := 3) (ret := (some .int)) (by decide) rfl ?_
  intro p e s m args below meth c s₁ B hml hv
  obtain ⟨rfl, hsz, hP, hD0, hm⟩ := hv
  have hx := B.exec
  have hb := B.bytes
  have hr := B.returns
  have hts := atoms_spec (ws := Cond.code yX6_joined cX6_joined 3 (some .int) :: TBL) B.pre
  have hown : s.vm.findClass RX6 = some m.cls := findClass_of_methodNamed B.named
  have hlocks := B.notSynchronized
  subst hsz
  have hD := hD0.self (sz := s.heap.size)
  generalize hAe : va_A [] s.heap.size = A at hD hm ⊢
  have hA : ∀ q : Nat, s.heap.size ≤ q → A q := fun q h => by rw [← hAe]; exact Or.inr h
  have hK := hm.1
  have hZ : xAnd p m c cX6_joined 3 s _ (Cond.code yX6_joined cX6_joined 3 (some .int) :: TBL) RX6 G A := ⟨⟨hx, hb, hml, hown, hts⟩, tcons, hA, hm⟩
  have hP : va_P G.1 vwCl [] s.heap := hP
  have hl := lv_entry ([.int op, .int le, .int ri]) (n := 3) (Nat.le_of_ble_eq_true rfl)
  rw [lg_entry_eq]
  generalize (lg_sl ([.int op, .int le, .int ri]) ++ List.replicate (3 - (lg_sl ([.int op, .int le, .int ri])).length) Slot.unset).toArray = ls at hl ⊢
  have hl : lv_has ls 3 [(0, .int op), (1, .int le), (2, .int ri)] := hl
  generalize hQ : MQ below _ _ s _ _ _ = Q
  refine xGo (A := A) hP (fun H locs hP hS => ?_)
  unfold F_X6_joined at hF
  refine lv_iload_n hx hb dX6_joined_0 rfl (lv_at hl 0 rfl) ?_
  by_cases c1_0 : op = (37 : Int32)
  · have hF := itP c1_0 hF
    refine lv_tableIn (off := 83) (tgt := 84) hx hb dX6_joined_1 (by rw [c1_0]; decide) (by rw [c1_0]; decide) (by rw [c1_0]; rfl) (by decide) ?_
    refine lv_iload_n hx hb dX6_joined_84 rfl (lv_at hl 2 rfl) ?_
    refine lv_if_ne (tgt := 92) hx hb dX6_joined_85 (by decide) (fun c85 => ?_) (fun c85 => ?_)
    · have hF := itN c85 hF
      refine lv_iload_n hx hb dX6_joined_92 rfl (lv_at hl 1 rfl) ?_
      refine lv_iload_n hx hb dX6_joined_93 rfl (lv_at hl 2 rfl) ?_
      obtain ⟨g94, hF⟩ := gdS hF
      refine lv_irem hx hb dX6_joined_94 g94 ?_
      obtain rfl := Option.some.inj hF
      rw [← hQ]
      exact W.iret (v := (le - le / ri * ri)) hx hb hr (fun t ht hW => ⟨⟨_, (), rfl, ⟨rfl, rfl⟩, xLf hP ht⟩, hS.F ht⟩) hS.2.2 dX6_joined_95
    · have hF := itP c85 hF
      refine lv_iconst (v := 0) hx hb dX6_joined_88 (by decide) ?_
      refine lv_goto (tgt := 95) hx hb dX6_joined_89 (by decide) ?_
      obtain rfl := Option.some.inj hF
      rw [← hQ]
      exact W.iret (v := (0 : Int32)) hx hb hr (fun t ht hW => ⟨⟨_, (), rfl, ⟨rfl, rfl⟩, xLf hP ht⟩, hS.F ht⟩) hS.2.2 dX6_joined_95
  · have hF := itN c1_0 hF
    by_cases c1_1 : op = (42 : Int32)
    · have hF := itP c1_1 hF
      refine lv_tableIn (off := 67) (tgt := 68) hx hb dX6_joined_1 (by rw [c1_1]; decide) (by rw [c1_1]; decide) (by rw [c1_1]; rfl) (by decide) ?_
      refine lv_iload_n hx hb dX6_joined_68 rfl (lv_at hl 1 rfl) ?_
      refine lv_iload_n hx hb dX6_joined_69 rfl (lv_at hl 2 rfl) ?_
      refine lv_imul hx hb dX6_joined_70 ?_
      obtain rfl := Option.some.inj hF
      rw [← hQ]
      exact W.iret (v := (le * ri)) hx hb hr (fun t ht hW => ⟨⟨_, (), rfl, ⟨rfl, rfl⟩, xLf hP ht⟩, hS.F ht⟩) hS.2.2 dX6_joined_71
    · have hF := itN c1_1 hF
      by_cases c1_2 : op = (43 : Int32)
      · have hF := itP c1_2 hF
        refine lv_tableIn (off := 59) (tgt := 60) hx hb dX6_joined_1 (by rw [c1_2]; decide) (by rw [c1_2]; decide) (by rw [c1_2]; rfl) (by decide) ?_
        refine lv_iload_n hx hb dX6_joined_60 rfl (lv_at hl 1 rfl) ?_
        refine lv_iload_n hx hb dX6_joined_61 rfl (lv_at hl 2 rfl) ?_
        refine lv_iadd hx hb dX6_joined_62 ?_
        obtain rfl := Option.some.inj hF
        rw [← hQ]
        exact W.iret (v := (le + ri)) hx hb hr (fun t ht hW => ⟨⟨_, (), rfl, ⟨rfl, rfl⟩, xLf hP ht⟩, hS.F ht⟩) hS.2.2 dX6_joined_63
      · have hF := itN c1_2 hF
        by_cases c1_3 : op = (45 : Int32)
        · have hF := itP c1_3 hF
          refine lv_tableIn (off := 63) (tgt := 64) hx hb dX6_joined_1 (by rw [c1_3]; decide) (by rw [c1_3]; decide) (by rw [c1_3]; rfl) (by decide) ?_
          refine lv_iload_n hx hb dX6_joined_64 rfl (lv_at hl 1 rfl) ?_
          refine lv_iload_n hx hb dX6_joined_65 rfl (lv_at hl 2 rfl) ?_
          refine lv_isub hx hb dX6_joined_66 ?_
          obtain rfl := Option.some.inj hF
          rw [← hQ]
          exact W.iret (v := (le - ri)) hx hb hr (fun t ht hW => ⟨⟨_, (), rfl, ⟨rfl, rfl⟩, xLf hP ht⟩, hS.F ht⟩) hS.2.2 dX6_joined_67
        · have hF := itN c1_3 hF
          by_cases c1_4 : op = (47 : Int32)
          · have hF := itP c1_4 hF
            refine lv_tableIn (off := 71) (tgt := 72) hx hb dX6_joined_1 (by rw [c1_4]; decide) (by rw [c1_4]; decide) (by rw [c1_4]; rfl) (by decide) ?_
            refine lv_iload_n hx hb dX6_joined_72 rfl (lv_at hl 2 rfl) ?_
            refine lv_if_ne (tgt := 80) hx hb dX6_joined_73 (by decide) (fun c73 => ?_) (fun c73 => ?_)
            · have hF := itN c73 hF
              refine lv_iload_n hx hb dX6_joined_80 rfl (lv_at hl 1 rfl) ?_
              refine lv_iload_n hx hb dX6_joined_81 rfl (lv_at hl 2 rfl) ?_
              obtain ⟨g82, hF⟩ := gdS hF
              refine lv_idiv hx hb dX6_joined_82 g82 ?_
              obtain rfl := Option.some.inj hF
              rw [← hQ]
              exact W.iret (v := (le / ri)) hx hb hr (fun t ht hW => ⟨⟨_, (), rfl, ⟨rfl, rfl⟩, xLf hP ht⟩, hS.F ht⟩) hS.2.2 dX6_joined_83
            · have hF := itP c73 hF
              refine lv_iconst (v := 0) hx hb dX6_joined_76 (by decide) ?_
              refine lv_goto (tgt := 83) hx hb dX6_joined_77 (by decide) ?_
              obtain rfl := Option.some.inj hF
              rw [← hQ]
              exact W.iret (v := (0 : Int32)) hx hb hr (fun t ht hW => ⟨⟨_, (), rfl, ⟨rfl, rfl⟩, xLf hP ht⟩, hS.F ht⟩) hS.2.2 dX6_joined_83
          · have hF := itN c1_4 hF
            refine xTab (tgt := 96) hx hb dX6_joined_1 (by have h0 : op.toInt ≠ 37 := xNe c1_0; have h1 : op.toInt ≠ 42 := xNe c1_1; have h2 : op.toInt ≠ 43 := xNe c1_2; have h3 : op.toInt ≠ 45 := xNe c1_3; have h4 : op.toInt ≠ 47 := xNe c1_4; rcases (show op.toInt < 37 ∨ 47 < op.toInt ∨ op.toInt = 38 ∨ op.toInt = 39 ∨ op.toInt = 40 ∨ op.toInt = 41 ∨ op.toInt = 44 ∨ op.toInt = 46 by omega) with h | h | h | h | h | h | h | h; exact Or.inl h; exact Or.inr (Or.inl h); all_goals exact Or.inr (Or.inr (by rw [h]; rfl))) (by decide) ?_
            refine lv_iload_n hx hb dX6_joined_96 rfl (lv_at hl 0 rfl) ?_
            refine lv_iload_n hx hb dX6_joined_97 rfl (lv_at hl 1 rfl) ?_
            refine lv_iload_n hx hb dX6_joined_98 rfl (lv_at hl 2 rfl) ?_
            obtain ⟨u1, e1, hF⟩ := bdS hF
            refine xEndI (xRunS (As := [.int op, .int le, .int ri]) (rest := []) hZ (c_X6_isTrue G op le ri u1 e1 l H.size) m266 m267 m31 m268 3 hdX6_isTrue ⟨Nat.le_of_ble_eq_true rfl, Nat.le_of_ble_eq_true rfl⟩ ⟨rfl, rfl⟩ hP hD hS [] rfl rfl rfl hl.1 rfl (Nat.le_of_ble_eq_true rfl) dX6_joined_99 ⟨Nat.zero_le _, Nat.zero_le _⟩) hP hD hS hA [] rfl rfl rfl (fun H locs n1 hP hD hS => ?_)
            have hP : va_P G.1 vwCl [] H := hP
            have hD : va_D A [] := hD
            refine lv_if_eq (tgt := 109) hx hb dX6_joined_102 (by decide) (fun c102 => ?_) (fun c102 => ?_)
            · have hF := itP c102 hF
              refine lv_iconst (v := 0) hx hb dX6_joined_109 (by decide) ?_
              obtain rfl := Option.some.inj hF
              rw [← hQ]
              exact W.iret (v := (0 : Int32)) hx hb hr (fun t ht hW => ⟨⟨_, (), rfl, ⟨rfl, rfl⟩, xLf hP ht⟩, hS.F ht⟩) hS.2.2 dX6_joined_110
            · have hF := itN c102 hF
              refine lv_iconst (v := 1) hx hb dX6_joined_105 (by decide) ?_
              refine lv_goto (tgt := 110) hx hb dX6_joined_106 (by decide) ?_
              obtain rfl := Option.some.inj hF
              rw [← hQ]
              exact W.iret (v := (1 : Int32)) hx hb hr (fun t ht hW => ⟨⟨_, (), rfl, ⟨rfl, rfl⟩, xLf hP ht⟩, hS.F ht⟩) hS.2.2 dX6_joined_110
def B_X6_work_10 (on : Nat) (o_m : Int32) (o_f : Nat → Int32) (ia : Int32) (ib : Int32) (ic : Int32) (k10 : (Int32 × Int32 × (Nat → Int32)) → Option (Int32 × Int32 × (Nat → Int32))) (v10 : (Int32 × Int32 × (Nat → Int32))) : Option (Int32 × Int32 × (Nat → Int32)) := bd (F_X1_many o_m) (fun (u2 : Int32) => if u2 ≤ v10.1 then (bd (F_X1_pop 60 v10.2.1 v10.2.2) (fun (u3 : (Int32 × Int32)) => some (u3.1, u3.2, v10.2.2))) else (bd (F_X1_get on o_m o_f v10.1) (fun (u3 : Int32) => if u3 < 0 then (if u3 = (-1 : Int32) then (bd (F_X1_add 60 v10.2.1 v10.2.2 ia) (fun (u4 : (Int32 × (Nat → Int32))) => k10 ((v10.1 + (1 : Int32)), u4.1, u4.2))) else (if u3 = (-2 : Int32) then (bd (F_X1_add 60 v10.2.1 v10.2.2 ib) (fun (u4 : (Int32 × (Nat → Int32))) => k10 ((v10.1 + (1 : Int32)), u4.1, u4.2))) else (if u3 = (-3 : Int32) then (bd (F_X1_add 60 v10.2.1 v10.2.2 ic) (fun (u4 : (Int32 × (Nat → Int32))) => k10 ((v10.1 + (1 : Int32)), u4.1, u4.2))) else (if u3 = (-33 : Int32) then (bd (F_X1_pop 60 v10.2.1 v10.2.2) (fun (u4 : (Int32 × Int32)) => if u4.1 = 0 then (bd (F_X1_add 60 u4.2 v10.2.2 (1 : Int32)) (fun (u5 : (Int32 × (Nat → Int32))) => k10 ((v10.1 + (1 : Int32)), u5.1, u5.2))) else (bd (F_X1_add 60 u4.2 v10.2.2 (0 : Int32)) (fun (u5 : (Int32 × (Nat → Int32))) => k10 ((v10.1 + (1 : Int32)), u5.1, u5.2))))) else (bd (F_X1_pop 60 v10.2.1 v10.2.2) (fun (u4 : (Int32 × Int32)) => bd (F_X1_pop 60 u4.2 v10.2.2) (fun (u5 : (Int32 × Int32)) => bd (F_X6_joined (-u3) u5.1 u4.1) (fun (u6 : Int32) => bd (F_X1_add 60 u5.2 v10.2.2 u6) (fun (u7 : (Int32 × (Nat → Int32))) => k10 ((v10.1 + (1 : Int32)), u7.1, u7.2)))))))))) else (bd (F_X1_add 60 v10.2.1 v10.2.2 u3) (fun (u4 : (Int32 × (Nat → Int32))) => k10 ((v10.1 + (1 : Int32)), u4.1, u4.2))))))
def F_X6_work (on : Nat) (stack_f : Nat → Int32) (o_m : Int32) (o_f : Nat → Int32) (ia : Int32) (ib : Int32) (ic : Int32) : Option (Int32 × Int32 × (Nat → Int32)) := bd (F_X1_clear) (fun (u1 : Int32) => lp (B_X6_work_10 on o_m o_f ia ib ic) fuelC ((0 : Int32), u1, stack_f))
theorem hdX6_work : yX6_work.cls ≠ "java/lang/invoke/MethodHandle" ∧ yX6_work.cls ≠ "java/lang/invoke/VarHandle" ∧ (parseMethodDescriptor yX6_work.desc).map (fun d => d.parameters.length) = some 4 := by decide +kernel
set_option maxHeartbeats 4000000 in
set_option maxRecDepth 100000 in
theorem c_X6_work (G : xG) (t : Nat) (stack : Nat) (stack_q : Nat) (o : Nat) (o_q : Nat) (on : Nat) (stack_m : Int32) (stack_f : Nat → Int32) (o_m : Int32) (o_f : Nat → Int32) (ia : Int32) (ib : Int32) (ic : Int32)  (u : (Int32 × Int32 × (Nat → Int32))) (hF : F_X6_work on stack_f o_m o_f ia ib ic = some u) : Ki G .int yX6_work (Cond.code yX6_work cX6_work 9 (some .int) :: TBL) { frames := 2, cells := 0, slots := 0, locals := 61 } [.ref t, .ref o, .int ia, .int ib, .int ic] [(t, .inr (6, [.ref stack])), (stack, .inr (1, [.ref stack_q, .int stack_m])), (stack_q, .inl (xI G, 60, .inl stack_f)), (o, .inr (1, [.ref o_q, .int o_m])), (o_q, .inl (xI G, on, .inl o_f))] [(t, .inr (6, [.ref stack])), (stack, .inr (1, [.ref stack_q, .int u.2.1])), (stack_q, .inl (xI G, 60, .inl u.2.2)), (o, .inr (1, [.ref o_q, .int o_m])), (o_q, .inl (xI G, on, .inl o_f))] u.1 := by
  intro l sz
  refine Met.ofW (cc := cX6_work) (maxL := 9) (ret := (some .int)) (by decide) rfl ?_
  intro p e s m args below meth c s₁ B hml hv
  obtain ⟨rfl, hsz, hP, hD0, hm⟩ := hv
  have hx := B.exec
  have hb := B.bytes
  have hr := B.returns
  have hts := atoms_spec (ws := Cond.code yX6_work cX6_work 9 (some .int) :: TBL) B.pre
  have hown : s.vm.findClass RX6 = some m.cls := findClass_of_methodNamed B.named
  have hlocks := B.notSynchronized
  subst hsz
  have hD := hD0.self (sz := s.heap.size)
  generalize hAe : va_A [(t, .inr (6, [.ref stack])), (stack, .inr (1, [.ref stack_q, .int stack_m])), (stack_q, .inl (xI G, 60, .inl stack_f)), (o, .inr (1, [.ref o_q, .int o_m])), (o_q, .inl (xI G, on, .inl o_f))] s.heap.size = A at hD hm ⊢
  have hA : ∀ q : Nat, s.heap.size ≤ q → A q := fun q h => by rw [← hAe]; exact Or.inr h
  have hK := hm.1
  have hZ : xAnd p m c cX6_work 9 s _ (Cond.code yX6_work cX6_work 9 (some .int) :: TBL) RX6 G A := ⟨⟨hx, hb, hml, hown, hts⟩, tcons, hA, hm⟩
  have hP : va_P G.1 vwCl [(t, .inr (6, [.ref stack])), (stack, .inr (1, [.ref stack_q, .int stack_m])), (stack_q, .inl (xI G, 60, .inl stack_f)), (o, .inr (1, [.ref o_q, .int o_m])), (o_q, .inl (xI G, on, .inl o_f))] s.heap := hP
  have hl := lv_entry ([.ref t, .ref o, .int ia, .int ib, .int ic]) (n := 9) (Nat.le_of_ble_eq_true rfl)
  rw [lg_entry_eq]
  generalize (lg_sl ([.ref t, .ref o, .int ia, .int ib, .int ic]) ++ List.replicate (9 - (lg_sl ([.ref t, .ref o, .int ia, .int ib, .int ic])).length) Slot.unset).toArray = ls at hl ⊢
  have hl : lv_has ls 9 [(0, .ref t), (1, .ref o), (2, .int ia), (3, .int ib), (4, .int ic)] := hl
  generalize hQ : MQ below _ _ s _ _ _ = Q
  refine xGo (A := A) hP (fun H locs hP hS => ?_)
  unfold F_X6_work at hF
  refine lv_aload_n hx hb dX6_work_0 rfl (lv_at hl 0 rfl) ?_
  refine va_get (ci := 6) (v := .ref stack) (C := RX6) (T := TX6) (N := 1) hx hb hts (fun w h => tcons w (xin6 w h)) hown hK hP 0 rfl rfl 0 (by decide) (hts _ (tcons _ m102)) (fun _ h9 => h9) rfl dX6_work_1 ?_
  obtain ⟨u1, e1, hF⟩ := bdS hF
  refine xEndV (xRunV (As := []) (rest := []) hZ (c_X1_clear G stack stack_q stack_m u1 e1 l H.size) m251 m252 m253 m49 m254 0 ⟨rfl, hdX1_clear⟩ ⟨Nat.le_of_ble_eq_true rfl, Nat.le_of_ble_eq_true rfl⟩ ⟨rfl, rfl⟩ hP hD hS 1 1 rfl rfl rfl [1] rfl rfl rfl hl.1 rfl (Nat.le_of_ble_eq_true rfl) dX6_work_4 ⟨Nat.zero_le _, Nat.zero_le _⟩) hP hD hS hA [1] rfl rfl rfl (fun H locs hP hD hS => ?_)
  have hP : va_P G.1 vwCl [(t, .inr (6, [.ref stack])), (stack, .inr (1, [.ref stack_q, .int u1])), (stack_q, .inl (xI G, 60, .inl stack_f)), (o, .inr (1, [.ref o_q, .int o_m])), (o_q, .inl (xI G, on, .inl o_f))] H := hP
  have hD : va_D A [(t, .inr (6, [.ref stack])), (stack, .inr (1, [.ref stack_q, .int u1])), (stack_q, .inl (xI G, 60, .inl stack_f)), (o, .inr (1, [.ref o_q, .int o_m])), (o_q, .inl (xI G, on, .inl o_f))] := hD
  refine lv_iconst (v := 0) hx hb dX6_work_7 (by decide) ?_
  refine lv_istore (lv' := [(5, .int (0 : Int32)), (0, .ref t), (1, .ref o), (2, .int ia), (3, .int ib), (4, .int ic)]) hx hb dX6_work_8 hl (by decide) rfl (fun ls hl => ?_)
  refine xLoop3 (body := (B_X6_work_10 on o_m o_f ia ib ic)) (fun (v10_0 : Int32) (v10_1 : Int32) (v10_2 : Nat → Int32) H locs ls => va_P G.1 vwCl [(t, .inr (6, [.ref stack])), (stack, .inr (1, [.ref stack_q, .int v10_1])), (stack_q, .inl (xI G, 60, .inl v10_2)), (o, .inr (1, [.ref o_q, .int o_m])), (o_q, .inl (xI G, on, .inl o_f))] H ∧ va_D A [(t, .inr (6, [.ref stack])), (stack, .inr (1, [.ref stack_q, .int v10_1])), (stack_q, .inl (xI G, 60, .inl v10_2)), (o, .inr (1, [.ref o_q, .int o_m])), (o_q, .inl (xI G, on, .inl o_f))] ∧ va_S A s.heap H locs ∧ lv_has ls 9 [(0, .ref t), (1, .ref o), (2, .int ia), (3, .int ib), (4, .int ic), (5, .int v10_0)]) (fun N10 v10_0 v10_1 v10_2 ih10 H locs ls hI hF => ?_) fuelC (0 : Int32) u1 stack_f H locs ls ⟨hP, hD, hS, lv_sub hl [1, 2, 3, 4, 5, 0] rfl⟩ hF
  obtain ⟨hP, hD, hS, hl⟩ := hI
  unfold B_X6_work_10 at hF
  refine lv_iload hx hb dX6_work_10 (lv_at hl 5 rfl) ?_
  refine lv_aload_n hx hb dX6_work_12 rfl (lv_at hl 1 rfl) ?_
  obtain ⟨u2, e2, hF⟩ := bdS hF
  refine xEndI (xRunV (As := []) (rest := [.int v10_0]) hZ (c_X1_many G o o_q o_m u2 e2 l H.size) m255 m126 m127 m49 m128 0 ⟨rfl, hdX1_many⟩ ⟨Nat.le_of_ble_eq_true rfl, Nat.le_of_ble_eq_true rfl⟩ ⟨rfl, rfl⟩ hP hD hS 3 1 rfl rfl rfl [3] rfl rfl rfl hl.1 rfl (Nat.le_of_ble_eq_true rfl) dX6_work_13 ⟨Nat.zero_le _, Nat.zero_le _⟩) hP hD hS hA [3] rfl rfl rfl (fun H locs n2 hP hD hS => ?_)
  have hP : va_P G.1 vwCl [(t, .inr (6, [.ref stack])), (stack, .inr (1, [.ref stack_q, .int v10_1])), (stack_q, .inl (xI G, 60, .inl v10_2)), (o, .inr (1, [.ref o_q, .int o_m])), (o_q, .inl (xI G, on, .inl o_f))] H := hP
  have hD : va_D A [(t, .inr (6, [.ref stack])), (stack, .inr (1, [.ref stack_q, .int v10_1])), (stack_q, .inl (xI G, 60, .inl v10_2)), (o, .inr (1, [.ref o_q, .int o_m])), (o_q, .inl (xI G, on, .inl o_f))] := hD
  refine lv_icmp_ge (tgt := 171) hx hb dX6_work_16 (by decide) (fun c16 => ?_) (fun c16 => ?_)
  · have hF := itP c16 hF
    refine lv_aload_n hx hb dX6_work_171 rfl (lv_at hl 0 rfl) ?_
    refine va_get (ci := 6) (v := .ref stack) (C := RX6) (T := TX6) (N := 1) hx hb hts (fun w h => tcons w (xin6 w h)) hown hK hP 0 rfl rfl 0 (by decide) (hts _ (tcons _ m102)) (fun _ h9 => h9) rfl dX6_work_172 ?_
    obtain ⟨u3, e3, hF⟩ := bdS hF
    refine xEndI (xRunV (As := []) (rest := []) hZ (c_X1_pop G stack stack_q 60 v10_1 v10_2 u3 e3 l H.size) m258 m259 m260 m49 m261 0 ⟨rfl, hdX1_pop⟩ ⟨Nat.le_of_ble_eq_true rfl, Nat.le_of_ble_eq_true rfl⟩ ⟨rfl, rfl⟩ hP hD hS 1 1 rfl rfl rfl [1, 2] rfl rfl rfl hl.1 rfl (Nat.le_of_ble_eq_true rfl) dX6_work_175 ⟨Nat.zero_le _, Nat.zero_le _⟩) hP hD hS hA [1, 2] rfl rfl rfl (fun H locs n3 hP hD hS => ?_)
    have hP : va_P G.1 vwCl [(t, .inr (6, [.ref stack])), (stack, .inr (1, [.ref stack_q, .int u3.2])), (stack_q, .inl (xI G, 60, .inl v10_2)), (o, .inr (1, [.ref o_q, .int o_m])), (o_q, .inl (xI G, on, .inl o_f))] H := hP
    have hD : va_D A [(t, .inr (6, [.ref stack])), (stack, .inr (1, [.ref stack_q, .int u3.2])), (stack_q, .inl (xI G, 60, .inl v10_2)), (o, .inr (1, [.ref o_q, .int o_m])), (o_q, .inl (xI G, on, .inl o_f))] := hD
    obtain rfl := Option.some.inj hF
    rw [← hQ]
    exact W.iret (v := u3.1) hx hb hr (fun t ht hW => ⟨⟨_, (), rfl, ⟨rfl, rfl⟩, xLf hP ht⟩, hS.F ht⟩) hS.2.2 dX6_work_178
  · have hF := itN c16 hF
    refine lv_aload_n hx hb dX6_work_19 rfl (lv_at hl 1 rfl) ?_
    refine lv_iload hx hb dX6_work_20 (lv_at hl 5 rfl) ?_
    obtain ⟨u3, e3, hF⟩ := bdS hF
    refine xEndI (xRunV (As := [.int v10_0]) (rest := []) hZ (c_X1_get G o o_q on o_m o_f v10_0 u3 e3 l H.size) m256 m130 m131 m49 m132 1 ⟨rfl, hdX1_get⟩ ⟨Nat.le_of_ble_eq_true rfl, Nat.le_of_ble_eq_true rfl⟩ ⟨rfl, rfl⟩ hP hD hS 3 1 rfl rfl rfl [3, 4] rfl rfl rfl hl.1 rfl (Nat.le_of_ble_eq_true rfl) dX6_work_22 ⟨Nat.zero_le _, Nat.zero_le _⟩) hP hD hS hA [3, 4] rfl rfl rfl (fun H locs n3 hP hD hS => ?_)
    have hP : va_P G.1 vwCl [(t, .inr (6, [.ref stack])), (stack, .inr (1, [.ref stack_q, .int v10_1])), (stack_q, .inl (xI G, 60, .inl v10_2)), (o, .inr (1, [.ref o_q, .int o_m])), (o_q, .inl (xI G, on, .inl o_f))] H := hP
    have hD : va_D A [(t, .inr (6, [.ref stack])), (stack, .inr (1, [.ref stack_q, .int v10_1])), (stack_q, .inl (xI G, 60, .inl v10_2)), (o, .inr (1, [.ref o_q, .int o_m])), (o_q, .inl (xI G, on, .inl o_f))] := hD
    refine lv_istore (lv' := [(6, .int u3), (0, .ref t), (1, .ref o), (2, .int ia), (3, .int ib), (4, .int ic), (5, .int v10_0)]) hx hb dX6_work_25 hl (by decide) rfl (fun ls hl => ?_)
    refine lv_iload hx hb dX6_work_27 (lv_at hl 0 rfl) ?_
    refine lv_if_lt (tgt := 44) hx hb dX6_work_29 (by decide) (fun c29 => ?_) (fun c29 => ?_)
    · have hF := itP c29 hF
      refine lv_iload hx hb dX6_work_44 (lv_at hl 0 rfl) ?_
      refine lv_iconst (v := -1) hx hb dX6_work_46 (by decide) ?_
      refine lv_icmp_ne (tgt := 61) hx hb dX6_work_47 (by decide) (fun c47 => ?_) (fun c47 => ?_)
      · have hF := itN c47 hF
        refine lv_iload hx hb dX6_work_61 (lv_at hl 0 rfl) ?_
        refine lv_bipush (v := -2) hx hb dX6_work_63 (by decide) ?_
        refine lv_icmp_ne (tgt := 79) hx hb dX6_work_65 (by decide) (fun c65 => ?_) (fun c65 => ?_)
        · have hF := itN c65 hF
          refine lv_iload hx hb dX6_work_79 (lv_at hl 0 rfl) ?_
          refine lv_bipush (v := -3) hx hb dX6_work_81 (by decide) ?_
          refine lv_icmp_ne (tgt := 98) hx hb dX6_work_83 (by decide) (fun c83 => ?_) (fun c83 => ?_)
          · have hF := itN c83 hF
            refine lv_iload hx hb dX6_work_98 (lv_at hl 0 rfl) ?_
            refine lv_bipush (v := -33) hx hb dX6_work_100 (by decide) ?_
            refine lv_icmp_ne (tgt := 130) hx hb dX6_work_102 (by decide) (fun c102 => ?_) (fun c102 => ?_)
            · have hF := itN c102 hF
              refine lv_aload_n hx hb dX6_work_130 rfl (lv_at hl 1 rfl) ?_
              refine va_get (ci := 6) (v := .ref stack) (C := RX6) (T := TX6) (N := 1) hx hb hts (fun w h => tcons w (xin6 w h)) hown hK hP 0 rfl rfl 0 (by decide) (hts _ (tcons _ m102)) (fun _ h9 => h9) rfl dX6_work_131 ?_
              obtain ⟨u4, e4, hF⟩ := bdS hF
              refine xEndI (xRunV (As := []) (rest := []) hZ (c_X1_pop G stack stack_q 60 v10_1 v10_2 u4 e4 l H.size) m258 m259 m260 m49 m261 0 ⟨rfl, hdX1_pop⟩ ⟨Nat.le_of_ble_eq_true rfl, Nat.le_of_ble_eq_true rfl⟩ ⟨rfl, rfl⟩ hP hD hS 1 1 rfl rfl rfl [1, 2] rfl rfl rfl hl.1 rfl (Nat.le_of_ble_eq_true rfl) dX6_work_134 ⟨Nat.zero_le _, Nat.zero_le _⟩) hP hD hS hA [1, 2] rfl rfl rfl (fun H locs n4 hP hD hS => ?_)
              have hP : va_P G.1 vwCl [(t, .inr (6, [.ref stack])), (stack, .inr (1, [.ref stack_q, .int u4.2])), (stack_q, .inl (xI G, 60, .inl v10_2)), (o, .inr (1, [.ref o_q, .int o_m])), (o_q, .inl (xI G, on, .inl o_f))] H := hP
              have hD : va_D A [(t, .inr (6, [.ref stack])), (stack, .inr (1, [.ref stack_q, .int u4.2])), (stack_q, .inl (xI G, 60, .inl v10_2)), (o, .inr (1, [.ref o_q, .int o_m])), (o_q, .inl (xI G, on, .inl o_f))] := hD
              refine lv_istore (lv' := [(7, .int u4.1), (6, .int u3), (0, .ref t), (1, .ref o), (2, .int ia), (3, .int ib), (4, .int ic), (5, .int v10_0)]) hx hb dX6_work_137 hl (by decide) rfl (fun ls hl => ?_)
              refine lv_aload_n hx hb dX6_work_139 rfl (lv_at hl 2 rfl) ?_
              refine va_get (ci := 6) (v := .ref stack) (C := RX6) (T := TX6) (N := 1) hx hb hts (fun w h => tcons w (xin6 w h)) hown hK hP 0 rfl rfl 0 (by decide) (hts _ (tcons _ m102)) (fun _ h9 => h9) rfl dX6_work_140 ?_
              obtain ⟨u5, e5, hF⟩ := bdS hF
              refine xEndI (xRunV (As := []) (rest := []) hZ (c_X1_pop G stack stack_q 60 u4.2 v10_2 u5 e5 l H.size) m258 m259 m260 m49 m261 0 ⟨rfl, hdX1_pop⟩ ⟨Nat.le_of_ble_eq_true rfl, Nat.le_of_ble_eq_true rfl⟩ ⟨rfl, rfl⟩ hP hD hS 1 1 rfl rfl rfl [1, 2] rfl rfl rfl hl.1 rfl (Nat.le_of_ble_eq_true rfl) dX6_work_143 ⟨Nat.zero_le _, Nat.zero_le _⟩) hP hD hS hA [1, 2] rfl rfl rfl (fun H locs n5 hP hD hS => ?_)
              have hP : va_P G.1 vwCl [(t, .inr (6, [.ref stack])), (stack, .inr (1, [.ref stack_q, .int u5.2])), (stack_q, .inl (xI G, 60, .inl v10_2)), (o, .inr (1, [.ref o_q, .int o_m])), (o_q, .inl (xI G, on, .inl o_f))] H := hP
              have hD : va_D A [(t, .inr (6, [.ref stack])), (stack, .inr (1, [.ref stack_q, .int u5.2])), (stack_q, .inl (xI G, 60, .inl v10_2)), (o, .inr (1, [.ref o_q, .int o_m])), (o_q, .inl (xI G, on, .inl o_f))] := hD
              refine lv_istore (lv' := [(8, .int u5.1), (7, .int u4.1), (6, .int u3), (0, .ref t), (1, .ref o), (2, .int ia), (3, .int ib), (4, .int ic), (5, .int v10_0)]) hx hb dX6_work_146 hl (by decide) rfl (fun ls hl => ?_)
              refine lv_aload_n hx hb dX6_work_148 rfl (lv_at hl 3 rfl) ?_
              refine va_get (ci := 6) (v := .ref stack) (C := RX6) (T := TX6) (N := 1) hx hb hts (fun w h => tcons w (xin6 w h)) hown hK hP 0 rfl rfl 0 (by decide) (hts _ (tcons _ m102)) (fun _ h9 => h9) rfl dX6_work_149 ?_
              refine lv_iload hx hb dX6_work_152 (lv_at hl 2 rfl) ?_
              refine lv_ineg hx hb dX6_work_154 ?_
              refine lv_iload hx hb dX6_work_155 (lv_at hl 0 rfl) ?_
              refine lv_iload hx hb dX6_work_157 (lv_at hl 1 rfl) ?_
              obtain ⟨u6, e6, hF⟩ := bdS hF
              refine xEndI (xRunS (As := [.int (-u3), .int u5.1, .int u4.1]) (rest := [.ref stack]) hZ (c_X6_joined G (-u3) u5.1 u4.1 u6 e6 l H.size) m263 m264 m31 m265 3 hdX6_joined ⟨Nat.le_of_ble_eq_true rfl, Nat.le_of_ble_eq_true rfl⟩ ⟨rfl, rfl⟩ hP hD hS [] rfl rfl rfl hl.1 rfl (Nat.le_of_ble_eq_true rfl) dX6_work_159 ⟨Nat.zero_le _, Nat.zero_le _⟩) hP hD hS hA [] rfl rfl rfl (fun H locs n6 hP hD hS => ?_)
              have hP : va_P G.1 vwCl [(t, .inr (6, [.ref stack])), (stack, .inr (1, [.ref stack_q, .int u5.2])), (stack_q, .inl (xI G, 60, .inl v10_2)), (o, .inr (1, [.ref o_q, .int o_m])), (o_q, .inl (xI G, on, .inl o_f))] H := hP
              have hD : va_D A [(t, .inr (6, [.ref stack])), (stack, .inr (1, [.ref stack_q, .int u5.2])), (stack_q, .inl (xI G, 60, .inl v10_2)), (o, .inr (1, [.ref o_q, .int o_m])), (o_q, .inl (xI G, on, .inl o_f))] := hD
              obtain ⟨u7, e7, hF⟩ := bdS hF
              refine xEndV (xRunV (As := [.int u6]) (rest := []) hZ (c_X1_add G stack stack_q 60 u5.2 v10_2 u6 u7 e7 l H.size) m257 m178 m179 m49 m180 1 ⟨rfl, hdX1_add⟩ ⟨Nat.le_of_ble_eq_true rfl, Nat.le_of_ble_eq_true rfl⟩ ⟨rfl, rfl⟩ hP hD hS 1 1 rfl rfl rfl [1, 2] rfl rfl rfl hl.1 rfl (Nat.le_of_ble_eq_true rfl) dX6_work_162 ⟨Nat.zero_le _, Nat.zero_le _⟩) hP hD hS hA [1, 2] rfl rfl rfl (fun H locs hP hD hS => ?_)
              have hP : va_P G.1 vwCl [(t, .inr (6, [.ref stack])), (stack, .inr (1, [.ref stack_q, .int u7.1])), (stack_q, .inl (xI G, 60, .inl u7.2)), (o, .inr (1, [.ref o_q, .int o_m])), (o_q, .inl (xI G, on, .inl o_f))] H := hP
              have hD : va_D A [(t, .inr (6, [.ref stack])), (stack, .inr (1, [.ref stack_q, .int u7.1])), (stack_q, .inl (xI G, 60, .inl u7.2)), (o, .inr (1, [.ref o_q, .int o_m])), (o_q, .inl (xI G, on, .inl o_f))] := hD
              refine lv_iinc (v := (v10_0 + (1 : Int32))) (lv' := [(5, .int (v10_0 + (1 : Int32))), (8, .int u5.1), (7, .int u4.1), (6, .int u3), (0, .ref t), (1, .ref o), (2, .int ia), (3, .int ib), (4, .int ic)]) hx hb dX6_work_165 hl (k := 8) rfl (xInc_1 _) (by decide) rfl (fun ls hl => ?_)
              refine lv_goto (tgt := 10) hx hb dX6_work_168 (by decide) ?_
              exact ih10 (v10_0 + (1 : Int32)) u7.1 u7.2 H locs ls ⟨hP, hD, hS, lv_sub hl [4, 5, 6, 7, 8, 0] rfl⟩ hF
            · have hF := itP c102 hF
              refine lv_aload_n hx hb dX6_work_105 rfl (lv_at hl 1 rfl) ?_
              refine va_get (ci := 6) (v := .ref stack) (C := RX6) (T := TX6) (N := 1) hx hb hts (fun w h => tcons w (xin6 w h)) hown hK hP 0 rfl rfl 0 (by decide) (hts _ (tcons _ m102)) (fun _ h9 => h9) rfl dX6_work_106 ?_
              refine lv_aload_n hx hb dX6_work_109 rfl (lv_at hl 1 rfl) ?_
              refine va_get (ci := 6) (v := .ref stack) (C := RX6) (T := TX6) (N := 1) hx hb hts (fun w h => tcons w (xin6 w h)) hown hK hP 0 rfl rfl 0 (by decide) (hts _ (tcons _ m102)) (fun _ h9 => h9) rfl dX6_work_110 ?_
              obtain ⟨u4, e4, hF⟩ := bdS hF
              refine xEndI (xRunV (As := []) (rest := [.ref stack]) hZ (c_X1_pop G stack stack_q 60 v10_1 v10_2 u4 e4 l H.size) m258 m259 m260 m49 m261 0 ⟨rfl, hdX1_pop⟩ ⟨Nat.le_of_ble_eq_true rfl, Nat.le_of_ble_eq_true rfl⟩ ⟨rfl, rfl⟩ hP hD hS 1 1 rfl rfl rfl [1, 2] rfl rfl rfl hl.1 rfl (Nat.le_of_ble_eq_true rfl) dX6_work_113 ⟨Nat.zero_le _, Nat.zero_le _⟩) hP hD hS hA [1, 2] rfl rfl rfl (fun H locs n4 hP hD hS => ?_)
              have hP : va_P G.1 vwCl [(t, .inr (6, [.ref stack])), (stack, .inr (1, [.ref stack_q, .int u4.2])), (stack_q, .inl (xI G, 60, .inl v10_2)), (o, .inr (1, [.ref o_q, .int o_m])), (o_q, .inl (xI G, on, .inl o_f))] H := hP
              have hD : va_D A [(t, .inr (6, [.ref stack])), (stack, .inr (1, [.ref stack_q, .int u4.2])), (stack_q, .inl (xI G, 60, .inl v10_2)), (o, .inr (1, [.ref o_q, .int o_m])), (o_q, .inl (xI G, on, .inl o_f))] := hD
              refine lv_if_ne (tgt := 123) hx hb dX6_work_116 (by decide) (fun c116 => ?_) (fun c116 => ?_)
              · have hF := itN c116 hF
                refine lv_iconst (v := 0) hx hb dX6_work_123 (by decide) ?_
                obtain ⟨u5, e5, hF⟩ := bdS hF
                refine xEndV (xRunV (As := [.int (0 : Int32)]) (rest := []) hZ (c_X1_add G stack stack_q 60 u4.2 v10_2 (0 : Int32) u5 e5 l H.size) m257 m178 m179 m49 m180 1 ⟨rfl, hdX1_add⟩ ⟨Nat.le_of_ble_eq_true rfl, Nat.le_of_ble_eq_true rfl⟩ ⟨rfl, rfl⟩ hP hD hS 1 1 rfl rfl rfl [1, 2] rfl rfl rfl hl.1 rfl (Nat.le_of_ble_eq_true rfl) dX6_work_124 ⟨Nat.zero_le _, Nat.zero_le _⟩) hP hD hS hA [1, 2] rfl rfl rfl (fun H locs hP hD hS => ?_)
                have hP : va_P G.1 vwCl [(t, .inr (6, [.ref stack])), (stack, .inr (1, [.ref stack_q, .int u5.1])), (stack_q, .inl (xI G, 60, .inl u5.2)), (o, .inr (1, [.ref o_q, .int o_m])), (o_q, .inl (xI G, on, .inl o_f))] H := hP
                have hD : va_D A [(t, .inr (6, [.ref stack])), (stack, .inr (1, [.ref stack_q, .int u5.1])), (stack_q, .inl (xI G, 60, .inl u5.2)), (o, .inr (1, [.ref o_q, .int o_m])), (o_q, .inl (xI G, on, .inl o_f))] := hD
                refine lv_goto (tgt := 165) hx hb dX6_work_127 (by decide) ?_
                refine lv_iinc (v := (v10_0 + (1 : Int32))) (lv' := [(5, .int (v10_0 + (1 : Int32))), (6, .int u3), (0, .ref t), (1, .ref o), (2, .int ia), (3, .int ib), (4, .int ic)]) hx hb dX6_work_165 hl (k := 6) rfl (xInc_1 _) (by decide) rfl (fun ls hl => ?_)
                refine lv_goto (tgt := 10) hx hb dX6_work_168 (by decide) ?_
                exact ih10 (v10_0 + (1 : Int32)) u5.1 u5.2 H locs ls ⟨hP, hD, hS, lv_sub hl [2, 3, 4, 5, 6, 0] rfl⟩ hF
              · have hF := itP c116 hF
                refine lv_iconst (v := 1) hx hb dX6_work_119 (by decide) ?_
                refine lv_goto (tgt := 124) hx hb dX6_work_120 (by decide) ?_
                obtain ⟨u5, e5, hF⟩ := bdS hF
                refine xEndV (xRunV (As := [.int (1 : Int32)]) (rest := []) hZ (c_X1_add G stack stack_q 60 u4.2 v10_2 (1 : Int32) u5 e5 l H.size) m257 m178 m179 m49 m180 1 ⟨rfl, hdX1_add⟩ ⟨Nat.le_of_ble_eq_true rfl, Nat.le_of_ble_eq_true rfl⟩ ⟨rfl, rfl⟩ hP hD hS 1 1 rfl rfl rfl [1, 2] rfl rfl rfl hl.1 rfl (Nat.le_of_ble_eq_true rfl) dX6_work_124 ⟨Nat.zero_le _, Nat.zero_le _⟩) hP hD hS hA [1, 2] rfl rfl rfl (fun H locs hP hD hS => ?_)
                have hP : va_P G.1 vwCl [(t, .inr (6, [.ref stack])), (stack, .inr (1, [.ref stack_q, .int u5.1])), (stack_q, .inl (xI G, 60, .inl u5.2)), (o, .inr (1, [.ref o_q, .int o_m])), (o_q, .inl (xI G, on, .inl o_f))] H := hP
                have hD : va_D A [(t, .inr (6, [.ref stack])), (stack, .inr (1, [.ref stack_q, .int u5.1])), (stack_q, .inl (xI G, 60, .inl u5.2)), (o, .inr (1, [.ref o_q, .int o_m])), (o_q, .inl (xI G, on, .inl o_f))] := hD
                refine lv_goto (tgt := 165) hx hb dX6_work_127 (by decide) ?_
                refine lv_iinc (v := (v10_0 + (1 : Int32))) (lv' := [(5, .int (v10_0 + (1 : Int32))), (6, .int u3), (0, .ref t), (1, .ref o), (2, .int ia), (3, .int ib), (4, .int ic)]) hx hb dX6_work_165 hl (k := 6) rfl (xInc_1 _) (by decide) rfl (fun ls hl => ?_)
                refine lv_goto (tgt := 10) hx hb dX6_work_168 (by decide) ?_
                exact ih10 (v10_0 + (1 : Int32)) u5.1 u5.2 H locs ls ⟨hP, hD, hS, lv_sub hl [2, 3, 4, 5, 6, 0] rfl⟩ hF
          · have hF := itP c83 hF
            refine lv_aload_n hx hb dX6_work_86 rfl (lv_at hl 1 rfl) ?_
            refine va_get (ci := 6) (v := .ref stack) (C := RX6) (T := TX6) (N := 1) hx hb hts (fun w h => tcons w (xin6 w h)) hown hK hP 0 rfl rfl 0 (by decide) (hts _ (tcons _ m102)) (fun _ h9 => h9) rfl dX6_work_87 ?_
            refine lv_iload hx hb dX6_work_90 (lv_at hl 5 rfl) ?_
            obtain ⟨u4, e4, hF⟩ := bdS hF
            refine xEndV (xRunV (As := [.int ic]) (rest := []) hZ (c_X1_add G stack stack_q 60 v10_1 v10_2 ic u4 e4 l H.size) m257 m178 m179 m49 m180 1 ⟨rfl, hdX1_add⟩ ⟨Nat.le_of_ble_eq_true rfl, Nat.le_of_ble_eq_true rfl⟩ ⟨rfl, rfl⟩ hP hD hS 1 1 rfl rfl rfl [1, 2] rfl rfl rfl hl.1 rfl (Nat.le_of_ble_eq_true rfl) dX6_work_92 ⟨Nat.zero_le _, Nat.zero_le _⟩) hP hD hS hA [1, 2] rfl rfl rfl (fun H locs hP hD hS => ?_)
            have hP : va_P G.1 vwCl [(t, .inr (6, [.ref stack])), (stack, .inr (1, [.ref stack_q, .int u4.1])), (stack_q, .inl (xI G, 60, .inl u4.2)), (o, .inr (1, [.ref o_q, .int o_m])), (o_q, .inl (xI G, on, .inl o_f))] H := hP
            have hD : va_D A [(t, .inr (6, [.ref stack])), (stack, .inr (1, [.ref stack_q, .int u4.1])), (stack_q, .inl (xI G, 60, .inl u4.2)), (o, .inr (1, [.ref o_q, .int o_m])), (o_q, .inl (xI G, on, .inl o_f))] := hD
            refine lv_goto (tgt := 165) hx hb dX6_work_95 (by decide) ?_
            refine lv_iinc (v := (v10_0 + (1 : Int32))) (lv' := [(5, .int (v10_0 + (1 : Int32))), (6, .int u3), (0, .ref t), (1, .ref o), (2, .int ia), (3, .int ib), (4, .int ic)]) hx hb dX6_work_165 hl (k := 6) rfl (xInc_1 _) (by decide) rfl (fun ls hl => ?_)
            refine lv_goto (tgt := 10) hx hb dX6_work_168 (by decide) ?_
            exact ih10 (v10_0 + (1 : Int32)) u4.1 u4.2 H locs ls ⟨hP, hD, hS, lv_sub hl [2, 3, 4, 5, 6, 0] rfl⟩ hF
        · have hF := itP c65 hF
          refine lv_aload_n hx hb dX6_work_68 rfl (lv_at hl 1 rfl) ?_
          refine va_get (ci := 6) (v := .ref stack) (C := RX6) (T := TX6) (N := 1) hx hb hts (fun w h => tcons w (xin6 w h)) hown hK hP 0 rfl rfl 0 (by decide) (hts _ (tcons _ m102)) (fun _ h9 => h9) rfl dX6_work_69 ?_
          refine lv_iload_n hx hb dX6_work_72 rfl (lv_at hl 4 rfl) ?_
          obtain ⟨u4, e4, hF⟩ := bdS hF
          refine xEndV (xRunV (As := [.int ib]) (rest := []) hZ (c_X1_add G stack stack_q 60 v10_1 v10_2 ib u4 e4 l H.size) m257 m178 m179 m49 m180 1 ⟨rfl, hdX1_add⟩ ⟨Nat.le_of_ble_eq_true rfl, Nat.le_of_ble_eq_true rfl⟩ ⟨rfl, rfl⟩ hP hD hS 1 1 rfl rfl rfl [1, 2] rfl rfl rfl hl.1 rfl (Nat.le_of_ble_eq_true rfl) dX6_work_73 ⟨Nat.zero_le _, Nat.zero_le _⟩) hP hD hS hA [1, 2] rfl rfl rfl (fun H locs hP hD hS => ?_)
          have hP : va_P G.1 vwCl [(t, .inr (6, [.ref stack])), (stack, .inr (1, [.ref stack_q, .int u4.1])), (stack_q, .inl (xI G, 60, .inl u4.2)), (o, .inr (1, [.ref o_q, .int o_m])), (o_q, .inl (xI G, on, .inl o_f))] H := hP
          have hD : va_D A [(t, .inr (6, [.ref stack])), (stack, .inr (1, [.ref stack_q, .int u4.1])), (stack_q, .inl (xI G, 60, .inl u4.2)), (o, .inr (1, [.ref o_q, .int o_m])), (o_q, .inl (xI G, on, .inl o_f))] := hD
          refine lv_goto (tgt := 165) hx hb dX6_work_76 (by decide) ?_
          refine lv_iinc (v := (v10_0 + (1 : Int32))) (lv' := [(5, .int (v10_0 + (1 : Int32))), (6, .int u3), (0, .ref t), (1, .ref o), (2, .int ia), (3, .int ib), (4, .int ic)]) hx hb dX6_work_165 hl (k := 6) rfl (xInc_1 _) (by decide) rfl (fun ls hl => ?_)
          refine lv_goto (tgt := 10) hx hb dX6_work_168 (by decide) ?_
          exact ih10 (v10_0 + (1 : Int32)) u4.1 u4.2 H locs ls ⟨hP, hD, hS, lv_sub hl [2, 3, 4, 5, 6, 0] rfl⟩ hF
      · have hF := itP c47 hF
        refine lv_aload_n hx hb dX6_work_50 rfl (lv_at hl 1 rfl) ?_
        refine va_get (ci := 6) (v := .ref stack) (C := RX6) (T := TX6) (N := 1) hx hb hts (fun w h => tcons w (xin6 w h)) hown hK hP 0 rfl rfl 0 (by decide) (hts _ (tcons _ m102)) (fun _ h9 => h9) rfl dX6_work_51 ?_
        refine lv_iload_n hx hb dX6_work_54 rfl (lv_at hl 3 rfl) ?_
        obtain ⟨u4, e4, hF⟩ := bdS hF
        refine xEndV (xRunV (As := [.int ia]) (rest := []) hZ (c_X1_add G stack stack_q 60 v10_1 v10_2 ia u4 e4 l H.size) m257 m178 m179 m49 m180 1 ⟨rfl, hdX1_add⟩ ⟨Nat.le_of_ble_eq_true rfl, Nat.le_of_ble_eq_true rfl⟩ ⟨rfl, rfl⟩ hP hD hS 1 1 rfl rfl rfl [1, 2] rfl rfl rfl hl.1 rfl (Nat.le_of_ble_eq_true rfl) dX6_work_55 ⟨Nat.zero_le _, Nat.zero_le _⟩) hP hD hS hA [1, 2] rfl rfl rfl (fun H locs hP hD hS => ?_)
        have hP : va_P G.1 vwCl [(t, .inr (6, [.ref stack])), (stack, .inr (1, [.ref stack_q, .int u4.1])), (stack_q, .inl (xI G, 60, .inl u4.2)), (o, .inr (1, [.ref o_q, .int o_m])), (o_q, .inl (xI G, on, .inl o_f))] H := hP
        have hD : va_D A [(t, .inr (6, [.ref stack])), (stack, .inr (1, [.ref stack_q, .int u4.1])), (stack_q, .inl (xI G, 60, .inl u4.2)), (o, .inr (1, [.ref o_q, .int o_m])), (o_q, .inl (xI G, on, .inl o_f))] := hD
        refine lv_goto (tgt := 165) hx hb dX6_work_58 (by decide) ?_
        refine lv_iinc (v := (v10_0 + (1 : Int32))) (lv' := [(5, .int (v10_0 + (1 : Int32))), (6, .int u3), (0, .ref t), (1, .ref o), (2, .int ia), (3, .int ib), (4, .int ic)]) hx hb dX6_work_165 hl (k := 6) rfl (xInc_1 _) (by decide) rfl (fun ls hl => ?_)
        refine lv_goto (tgt := 10) hx hb dX6_work_168 (by decide) ?_
        exact ih10 (v10_0 + (1 : Int32)) u4.1 u4.2 H locs ls ⟨hP, hD, hS, lv_sub hl [2, 3, 4, 5, 6, 0] rfl⟩ hF
    · have hF := itN c29 hF
      refine lv_aload_n hx hb dX6_work_32 rfl (lv_at hl 1 rfl) ?_
      refine va_get (ci := 6) (v := .ref stack) (C := RX6) (T := TX6) (N := 1) hx hb hts (fun w h => tcons w (xin6 w h)) hown hK hP 0 rfl rfl 0 (by decide) (hts _ (tcons _ m102)) (fun _ h9 => h9) rfl dX6_work_33 ?_
      refine lv_iload hx hb dX6_work_36 (lv_at hl 0 rfl) ?_
      obtain ⟨u4, e4, hF⟩ := bdS hF
      refine xEndV (xRunV (As := [.int u3]) (rest := []) hZ (c_X1_add G stack stack_q 60 v10_1 v10_2 u3 u4 e4 l H.size) m257 m178 m179 m49 m180 1 ⟨rfl, hdX1_add⟩ ⟨Nat.le_of_ble_eq_true rfl, Nat.le_of_ble_eq_true rfl⟩ ⟨rfl, rfl⟩ hP hD hS 1 1 rfl rfl rfl [1, 2] rfl rfl rfl hl.1 rfl (Nat.le_of_ble_eq_true rfl) dX6_work_38 ⟨Nat.zero_le _, Nat.zero_le _⟩) hP hD hS hA [1, 2] rfl rfl rfl (fun H locs hP hD hS => ?_)
      have hP : va_P G.1 vwCl [(t, .inr (6, [.ref stack])), (stack, .inr (1, [.ref stack_q, .int u4.1])), (stack_q, .inl (xI G, 60, .inl u4.2)), (o, .inr (1, [.ref o_q, .int o_m])), (o_q, .inl (xI G, on, .inl o_f))] H := hP
      have hD : va_D A [(t, .inr (6, [.ref stack])), (stack, .inr (1, [.ref stack_q, .int u4.1])), (stack_q, .inl (xI G, 60, .inl u4.2)), (o, .inr (1, [.ref o_q, .int o_m])), (o_q, .inl (xI G, on, .inl o_f))] := hD
      refine lv_goto (tgt := 165) hx hb dX6_work_41 (by decide) ?_
      refine lv_iinc (v := (v10_0 + (1 : Int32))) (lv' := [(5, .int (v10_0 + (1 : Int32))), (6, .int u3), (0, .ref t), (1, .ref o), (2, .int ia), (3, .int ib), (4, .int ic)]) hx hb dX6_work_165 hl (k := 6) rfl (xInc_1 _) (by decide) rfl (fun ls hl => ?_)
      refine lv_goto (tgt := 10) hx hb dX6_work_168 (by decide) ?_
      exact ih10 (v10_0 + (1 : Int32)) u4.1 u4.2 H locs ls ⟨hP, hD, hS, lv_sub hl [2, 3, 4, 5, 6, 0] rfl⟩ hF
def F_X2_isMissing (bits : Int32) : Option Int32 := if bits = 0 then (some (1 : Int32)) else (some (0 : Int32))
theorem hdX2_isMissing : yX2_isMissing.cls ≠ "java/lang/invoke/MethodHandle" ∧ yX2_isMissing.cls ≠ "java/lang/invoke/VarHandle" ∧ (parseMethodDescriptor yX2_isMissing.desc).map (fun d => d.parameters.length) = some 0 := by decide +kernel
set_option maxHeartbeats 4000000 in
set_option maxRecDepth 100000 in
theorem c_X2_isMissing (G : xG) (t : Nat) (num : Nat) (bits : Int32)  (u : Int32) (hF : F_X2_isMissing bits = some u) : Ki G .boolean yX2_isMissing (Cond.code yX2_isMissing cX2_isMissing 1 (some .boolean) :: TBL) { frames := 0, cells := 0, slots := 0, locals := 0 } [.ref t] [(t, .inr (2, [.ref num, .int bits]))] [(t, .inr (2, [.ref num, .int bits]))] u := by
  intro l sz
  refine Met.ofW (cc := cX2_isMissing) (maxL := 1) (ret := (some .boolean)) (by decide) rfl ?_
  intro p e s m args below meth c s₁ B hml hv
  obtain ⟨rfl, hsz, hP, hD0, hm⟩ := hv
  have hx := B.exec
  have hb := B.bytes
  have hr := B.returns
  have hts := atoms_spec (ws := Cond.code yX2_isMissing cX2_isMissing 1 (some .boolean) :: TBL) B.pre
  have hown : s.vm.findClass RX2 = some m.cls := findClass_of_methodNamed B.named
  have hlocks := B.notSynchronized
  subst hsz
  have hD := hD0.self (sz := s.heap.size)
  generalize hAe : va_A [(t, .inr (2, [.ref num, .int bits]))] s.heap.size = A at hD hm ⊢
  have hA : ∀ q : Nat, s.heap.size ≤ q → A q := fun q h => by rw [← hAe]; exact Or.inr h
  have hK := hm.1
  have hZ : xAnd p m c cX2_isMissing 1 s _ (Cond.code yX2_isMissing cX2_isMissing 1 (some .boolean) :: TBL) RX2 G A := ⟨⟨hx, hb, hml, hown, hts⟩, tcons, hA, hm⟩
  have hP : va_P G.1 vwCl [(t, .inr (2, [.ref num, .int bits]))] s.heap := hP
  have hl := lv_entry ([.ref t]) (n := 1) (Nat.le_of_ble_eq_true rfl)
  rw [lg_entry_eq]
  generalize (lg_sl ([.ref t]) ++ List.replicate (1 - (lg_sl ([.ref t])).length) Slot.unset).toArray = ls at hl ⊢
  have hl : lv_has ls 1 [(0, .ref t)] := hl
  generalize hQ : MQ below _ _ s _ _ _ = Q
  refine xGo (A := A) hP (fun H locs hP hS => ?_)
  unfold F_X2_isMissing at hF
  refine lv_aload_n hx hb dX2_isMissing_0 rfl (lv_at hl 0 rfl) ?_
  refine va_get (ci := 2) (v := .int bits) (C := RX2) (T := TX2) (N := 2) hx hb hts (fun w h => tcons w (xin2 w h)) hown hK hP 0 rfl rfl 1 (by decide) (hts _ (tcons _ m119)) (fun _ h9 => h9) rfl dX2_isMissing_1 ?_
  refine lv_if_ne (tgt := 11) hx hb dX2_isMissing_4 (by decide) (fun c4 => ?_) (fun c4 => ?_)
  · have hF := itN c4 hF
    refine lv_iconst (v := 0) hx hb dX2_isMissing_11 (by decide) ?_
    obtain rfl := Option.some.inj hF
    rw [← hQ]
    exact W.zret (v := (0 : Int32)) hx hb hr (show narrow .boolean (.int (0 : Int32)) = .int (0 : Int32) from by decide) (fun t ht hW => ⟨⟨_, (), rfl, ⟨rfl, (show narrow .boolean (.int (0 : Int32)) = .int (0 : Int32) from by decide)⟩, xLf hP ht⟩, hS.F ht⟩) hS.2.2 dX2_isMissing_12
  · have hF := itP c4 hF
    refine lv_iconst (v := 1) hx hb dX2_isMissing_7 (by decide) ?_
    refine lv_goto (tgt := 12) hx hb dX2_isMissing_8 (by decide) ?_
    obtain rfl := Option.some.inj hF
    rw [← hQ]
    exact W.zret (v := (1 : Int32)) hx hb hr (show narrow .boolean (.int (1 : Int32)) = .int (1 : Int32) from by decide) (fun t ht hW => ⟨⟨_, (), rfl, ⟨rfl, (show narrow .boolean (.int (1 : Int32)) = .int (1 : Int32) from by decide)⟩, xLf hP ht⟩, hS.F ht⟩) hS.2.2 dX2_isMissing_12
def F_X2_remake (num_f : Nat → Int32) (wi : Int32) (k : Int32) : Option (Int32 × Int32 × (Nat → Int32)) := bd (F_X1_zeros 24 num_f k) (fun (u1 : (Int32 × (Nat → Int32))) => some (wi, u1.1, u1.2))
theorem hdX2_remake : yX2_remake.cls ≠ "java/lang/invoke/MethodHandle" ∧ yX2_remake.cls ≠ "java/lang/invoke/VarHandle" ∧ (parseMethodDescriptor yX2_remake.desc).map (fun d => d.parameters.length) = some 2 := by decide +kernel
set_option maxHeartbeats 4000000 in
set_option maxRecDepth 100000 in
theorem c_X2_remake (G : xG) (t : Nat) (num : Nat) (num_q : Nat) (bits : Int32) (num_m : Int32) (num_f : Nat → Int32) (wi : Int32) (k : Int32)  (u : (Int32 × Int32 × (Nat → Int32))) (hF : F_X2_remake num_f wi k = some u) : Kv G yX2_remake (Cond.code yX2_remake cX2_remake 3 none :: TBL) { frames := 3, cells := 0, slots := 0, locals := 84 } [.ref t, .int wi, .int k] [(t, .inr (2, [.ref num, .int bits])), (num, .inr (1, [.ref num_q, .int num_m])), (num_q, .inl (xI G, 24, .inl num_f))] [(t, .inr (2, [.ref num, .int u.1])), (num, .inr (1, [.ref num_q, .int u.2.1])), (num_q, .inl (xI G, 24, .inl u.2.2))] := by
  intro l sz
  refine Met.ofW (cc := cX2_remake) (maxL := 3) (ret := none) (by decide) rfl ?_
  intro p e s m args below meth c s₁ B hml hv
  obtain ⟨rfl, hsz, hP, hD0, hm⟩ := hv
  have hx := B.exec
  have hb := B.bytes
  have hr := B.returns
  have hts := atoms_spec (ws := Cond.code yX2_remake cX2_remake 3 none :: TBL) B.pre
  have hown : s.vm.findClass RX2 = some m.cls := findClass_of_methodNamed B.named
  have hlocks := B.notSynchronized
  subst hsz
  have hD := hD0.self (sz := s.heap.size)
  generalize hAe : va_A [(t, .inr (2, [.ref num, .int bits])), (num, .inr (1, [.ref num_q, .int num_m])), (num_q, .inl (xI G, 24, .inl num_f))] s.heap.size = A at hD hm ⊢
  have hA : ∀ q : Nat, s.heap.size ≤ q → A q := fun q h => by rw [← hAe]; exact Or.inr h
  have hK := hm.1
  have hZ : xAnd p m c cX2_remake 3 s _ (Cond.code yX2_remake cX2_remake 3 none :: TBL) RX2 G A := ⟨⟨hx, hb, hml, hown, hts⟩, tcons, hA, hm⟩
  have hP : va_P G.1 vwCl [(t, .inr (2, [.ref num, .int bits])), (num, .inr (1, [.ref num_q, .int num_m])), (num_q, .inl (xI G, 24, .inl num_f))] s.heap := hP
  have hl := lv_entry ([.ref t, .int wi, .int k]) (n := 3) (Nat.le_of_ble_eq_true rfl)
  rw [lg_entry_eq]
  generalize (lg_sl ([.ref t, .int wi, .int k]) ++ List.replicate (3 - (lg_sl ([.ref t, .int wi, .int k])).length) Slot.unset).toArray = ls at hl ⊢
  have hl : lv_has ls 3 [(0, .ref t), (1, .int wi), (2, .int k)] := hl
  generalize hQ : MQ below _ _ s _ _ _ = Q
  refine xGo (A := A) hP (fun H locs hP hS => ?_)
  unfold F_X2_remake at hF
  refine lv_aload_n hx hb dX2_remake_0 rfl (lv_at hl 0 rfl) ?_
  refine lv_iload_n hx hb dX2_remake_1 rfl (lv_at hl 1 rfl) ?_
  refine va_put (ci := 2) (v := .int wi) (ty := .int) (C := RX2) (T := TX2) (N := 2) hx hb hts (fun w h => tcons w (xin2 w h)) tyX2 tyX2_ok nmX2 hown hK hP hD hS 0 rfl rfl 1 (by decide) (hts _ (tcons _ m119)) (fun _ h9 => h9) rfl (by decide +kernel) rfl rfl (Nat.le_of_ble_eq_true rfl) dX2_remake_2 (fun H locs hP hD hS => ?_)
  have hP : va_P G.1 vwCl [(t, .inr (2, [.ref num, .int wi])), (num, .inr (1, [.ref num_q, .int num_m])), (num_q, .inl (xI G, 24, .inl num_f))] H := hP
  have hD : va_D A [(t, .inr (2, [.ref num, .int wi])), (num, .inr (1, [.ref num_q, .int num_m])), (num_q, .inl (xI G, 24, .inl num_f))] := hD
  refine lv_aload_n hx hb dX2_remake_5 rfl (lv_at hl 0 rfl) ?_
  refine va_get (ci := 2) (v := .ref num) (C := RX2) (T := TX2) (N := 2) hx hb hts (fun w h => tcons w (xin2 w h)) hown hK hP 0 rfl rfl 0 (by decide) (hts _ (tcons _ m118)) (fun _ h9 => h9) rfl dX2_remake_6 ?_
  refine lv_iload_n hx hb dX2_remake_9 rfl (lv_at hl 2 rfl) ?_
  obtain ⟨u1, e1, hF⟩ := bdS hF
  refine xEndV (xRunV (As := [.int k]) (rest := []) hZ (c_X1_zeros G num num_q 24 num_m num_f k u1 e1 l H.size) m1003 m1004 m1005 m49 m1006 1 ⟨rfl, hdX1_zeros⟩ ⟨Nat.le_of_ble_eq_true rfl, Nat.le_of_ble_eq_true rfl⟩ ⟨rfl, rfl⟩ hP hD hS 1 1 rfl rfl rfl [1, 2] rfl rfl rfl hl.1 rfl (Nat.le_of_ble_eq_true rfl) dX2_remake_10 ⟨Nat.zero_le _, Nat.zero_le _⟩) hP hD hS hA [1, 2] rfl rfl rfl (fun H locs hP hD hS => ?_)
  have hP : va_P G.1 vwCl [(t, .inr (2, [.ref num, .int wi])), (num, .inr (1, [.ref num_q, .int u1.1])), (num_q, .inl (xI G, 24, .inl u1.2))] H := hP
  have hD : va_D A [(t, .inr (2, [.ref num, .int wi])), (num, .inr (1, [.ref num_q, .int u1.1])), (num_q, .inl (xI G, 24, .inl u1.2))] := hD
  obtain rfl := Option.some.inj hF
  rw [← hQ]
  exact W.vret hx hb hr (fun t ht hW => ⟨⟨(), rfl, trivial, xLf hP ht⟩, hS.F ht⟩) hS.2.2 dX2_remake_13
def F_X2_lowestBits (bits : Int32) (v : Int32) : Option Int32 := if bits = (8 : Int32) then (some (v.toInt8.toInt32)) else (if bits = (16 : Int32) then (some (v.toInt16.toInt32)) else (some v))
theorem hdX2_lowestBits : yX2_lowestBits.cls ≠ "java/lang/invoke/MethodHandle" ∧ yX2_lowestBits.cls ≠ "java/lang/invoke/VarHandle" ∧ (parseMethodDescriptor yX2_lowestBits.desc).map (fun d => d.parameters.length) = some 1 := by decide +kernel
set_option maxHeartbeats 4000000 in
set_option maxRecDepth 100000 in
theorem c_X2_lowestBits (G : xG) (t : Nat) (num : Nat) (bits : Int32) (v : Int32)  (u : Int32) (hF : F_X2_lowestBits bits v = some u) : Ki G .int yX2_lowestBits (Cond.code yX2_lowestBits cX2_lowestBits 2 (some .int) :: TBL) { frames := 0, cells := 0, slots := 0, locals := 0 } [.ref t, .int v] [(t, .inr (2, [.ref num, .int bits]))] [(t, .inr (2, [.ref num, .int bits]))] u := by
  intro l sz
  refine Met.ofW (cc := cX2_lowestBits) (maxL := 2) (ret := (some .int)) (by decide) rfl ?_
  intro p e s m args below meth c s₁ B hml hv
  obtain ⟨rfl, hsz, hP, hD0, hm⟩ := hv
  have hx := B.exec
  have hb := B.bytes
  have hr := B.returns
  have hts := atoms_spec (ws := Cond.code yX2_lowestBits cX2_lowestBits 2 (some .int) :: TBL) B.pre
  have hown : s.vm.findClass RX2 = some m.cls := findClass_of_methodNamed B.named
  have hlocks := B.notSynchronized
  subst hsz
  have hD := hD0.self (sz := s.heap.size)
  generalize hAe : va_A [(t, .inr (2, [.ref num, .int bits]))] s.heap.size = A at hD hm ⊢
  have hA : ∀ q : Nat, s.heap.size ≤ q → A q := fun q h => by rw [← hAe]; exact Or.inr h
  have hK := hm.1
  have hZ : xAnd p m c cX2_lowestBits 2 s _ (Cond.code yX2_lowestBits cX2_lowestBits 2 (some .int) :: TBL) RX2 G A := ⟨⟨hx, hb, hml, hown, hts⟩, tcons, hA, hm⟩
  have hP : va_P G.1 vwCl [(t, .inr (2, [.ref num, .int bits]))] s.heap := hP
  have hl := lv_entry ([.ref t, .int v]) (n := 2) (Nat.le_of_ble_eq_true rfl)
  rw [lg_entry_eq]
  generalize (lg_sl ([.ref t, .int v]) ++ List.replicate (2 - (lg_sl ([.ref t, .int v])).length) Slot.unset).toArray = ls at hl ⊢
  have hl : lv_has ls 2 [(0, .ref t), (1, .int v)] := hl
  generalize hQ : MQ below _ _ s _ _ _ = Q
  refine xGo (A := A) hP (fun H locs hP hS => ?_)
  unfold F_X2_lowestBits at hF
  refine lv_aload_n hx hb dX2_lowestBits_0 rfl (lv_at hl 0 rfl) ?_
  refine va_get (ci := 2) (v := .int bits) (C := RX2) (T := TX2) (N := 2) hx hb hts (fun w h => tcons w (xin2 w h)) hown hK hP 0 rfl rfl 1 (by decide) (hts _ (tcons _ m119)) (fun _ h9 => h9) rfl dX2_lowestBits_1 ?_
  refine lv_bipush (v := 8) hx hb dX2_lowestBits_4 (by decide) ?_
  refine lv_icmp_ne (tgt := 12) hx hb dX2_lowestBits_6 (by decide) (fun c6 => ?_) (fun c6 => ?_)
  · have hF := itN c6 hF
    refine lv_aload_n hx hb dX2_lowestBits_12 rfl (lv_at hl 0 rfl) ?_
    refine va_get (ci := 2) (v := .int bits) (C := RX2) (T := TX2) (N := 2) hx hb hts (fun w h => tcons w (xin2 w h)) hown hK hP 0 rfl rfl 1 (by decide) (hts _ (tcons _ m119)) (fun _ h9 => h9) rfl dX2_lowestBits_13 ?_
    refine lv_bipush (v := 16) hx hb dX2_lowestBits_16 (by decide) ?_
    refine lv_icmp_ne (tgt := 26) hx hb dX2_lowestBits_18 (by decide) (fun c18 => ?_) (fun c18 => ?_)
    · have hF := itN c18 hF
      refine lv_iload_n hx hb dX2_lowestBits_26 rfl (lv_at hl 1 rfl) ?_
      obtain rfl := Option.some.inj hF
      rw [← hQ]
      exact W.iret (v := v) hx hb hr (fun t ht hW => ⟨⟨_, (), rfl, ⟨rfl, rfl⟩, xLf hP ht⟩, hS.F ht⟩) hS.2.2 dX2_lowestBits_27
    · have hF := itP c18 hF
      refine lv_iload_n hx hb dX2_lowestBits_21 rfl (lv_at hl 1 rfl) ?_
      refine lv_i2s hx hb dX2_lowestBits_22 rfl ?_
      refine lv_goto (tgt := 27) hx hb dX2_lowestBits_23 (by decide) ?_
      obtain rfl := Option.some.inj hF
      rw [← hQ]
      exact W.iret (v := (v.toInt16.toInt32)) hx hb hr (fun t ht hW => ⟨⟨_, (), rfl, ⟨rfl, rfl⟩, xLf hP ht⟩, hS.F ht⟩) hS.2.2 dX2_lowestBits_27
  · have hF := itP c6 hF
    refine lv_iload_n hx hb dX2_lowestBits_9 rfl (lv_at hl 1 rfl) ?_
    refine lv_i2b hx hb dX2_lowestBits_10 rfl ?_
    obtain rfl := Option.some.inj hF
    rw [← hQ]
    exact W.iret (v := (v.toInt8.toInt32)) hx hb hr (fun t ht hW => ⟨⟨_, (), rfl, ⟨rfl, rfl⟩, xLf hP ht⟩, hS.F ht⟩) hS.2.2 dX2_lowestBits_11
