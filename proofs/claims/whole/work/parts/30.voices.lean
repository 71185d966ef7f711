def F_X7_kindAbove (kd : Int32) : Option Int32 := bd (F_X7_within kd (0 : Int32) (6 : Int32)) (fun (u1 : Int32) => if u1 = 0 then (some (-1 : Int32)) else (if (kd < 0 ∨ 7 ≤ kd.toNatClampNeg) then none else (some (xAbove kd.toNatClampNeg))))
theorem hdX7_kindAbove : yX7_kindAbove.cls ≠ "java/lang/invoke/MethodHandle" ∧ yX7_kindAbove.cls ≠ "java/lang/invoke/VarHandle" ∧ (parseMethodDescriptor yX7_kindAbove.desc).map (fun d => d.parameters.length) = some 1 := by decide +kernel
set_option maxHeartbeats 4000000 in
set_option maxRecDepth 100000 in
theorem c_X7_kindAbove (G : xG) (kd : Int32)  (u : Int32) (hF : F_X7_kindAbove kd = some u) : Ki G .int yX7_kindAbove (Cond.code yX7_kindAbove cX7_kindAbove 1 (some .int) :: TBL) { frames := 1, cells := 0, slots := 0, locals := 22 } [.int kd] [] [] u := by
  intro l sz
  refine Met.ofW (cc := cX7_kindAbove) (maxL := 1) (ret := (some .int)) (by decide) rfl ?_
  intro p e s m args below meth c s₁ B hml hv
  obtain ⟨rfl, hsz, hP, hD0, hm⟩ := hv
  have hx := B.exec
  have hb := B.bytes
  have hr := B.returns
  have hts := atoms_spec (ws := Cond.code yX7_kindAbove cX7_kindAbove 1 (some .int) :: TBL) B.pre
  have hown : s.vm.findClass RX7 = some m.cls := findClass_of_methodNamed B.named
  have hlocks := B.notSynchronized
  subst hsz
  have hD := hD0.self (sz := s.heap.size)
  generalize hAe : va_A [] s.heap.size = A at hD hm ⊢
  have hA : ∀ q : Nat, s.heap.size ≤ q → A q := fun q h => by rw [← hAe]; exact Or.inr h
  have hK := hm.1
  have hZ : xAnd p m c cX7_kindAbove 1 s _ (Cond.code yX7_kindAbove cX7_kindAbove 1 (some .int) :: TBL) RX7 G A := ⟨⟨hx, hb, hml, hown, hts⟩, tcons, hA, hm⟩
  have hP : va_P G.1 vwCl [] s.heap := hP
  have hl := lv_entry ([.int kd]) (n := 1) (Nat.le_of_ble_eq_true rfl)
  rw [lg_entry_eq]
  generalize (lg_sl ([.int kd]) ++ List.replicate (1 - (lg_sl ([.int kd])).length) Slot.unset).toArray = ls at hl ⊢
  have hl : lv_has ls 1 [(0, .int kd)] := hl
  generalize hQ : MQ below _ _ s _ _ _ = Q
  refine xGo (A := A) hP (fun H locs hP hS => ?_)
  unfold F_X7_kindAbove at hF
  refine lv_iload_n hx hb dX7_kindAbove_0 rfl (lv_at hl 0 rfl) ?_
  refine lv_iconst (v := 0) hx hb dX7_kindAbove_1 (by decide) ?_
  refine lv_bipush (v := 6) hx hb dX7_kindAbove_2 (by decide) ?_
  obtain ⟨u1, e1, hF⟩ := bdS hF
  refine xEndI (xRunS (As := [.int kd, .int (0 : Int32), .int (6 : Int32)]) (rest := []) hZ (c_X7_within G kd (0 : Int32) (6 : Int32) u1 e1 l H.size) m164 m165 m2 m166 3 hdX7_within ⟨Nat.le_of_ble_eq_true rfl, Nat.le_of_ble_eq_true rfl⟩ ⟨rfl, rfl⟩ hP hD hS [] rfl rfl rfl hl.1 rfl (Nat.le_of_ble_eq_true rfl) dX7_kindAbove_4 ⟨Nat.zero_le _, Nat.zero_le _⟩) hP hD hS hA [] rfl rfl rfl (fun H locs n1 hP hD hS => ?_)
  have hP : va_P G.1 vwCl [] H := hP
  have hD : va_D A [] := hD
  refine lv_if_eq (tgt := 18) hx hb dX7_kindAbove_7 (by decide) (fun c7 => ?_) (fun c7 => ?_)
  · have hF := itP c7 hF
    refine lv_iconst (v := -1) hx hb dX7_kindAbove_18 (by decide) ?_
    obtain rfl := Option.some.inj hF
    rw [← hQ]
    exact W.iret (v := (-1 : Int32)) hx hb hr (fun t ht hW => ⟨⟨_, (), rfl, ⟨rfl, rfl⟩, xLf hP ht⟩, hS.F ht⟩) hS.2.2 dX7_kindAbove_19
  · have hF := itN c7 hF
    refine va_gets hx hb hm.2.2.2.1 hS hown (hts _ (tcons _ m365)) (fun _ h9 => h9) dX7_kindAbove_10 ?_
    refine lv_iload_n hx hb dX7_kindAbove_13 rfl (lv_at hl 0 rfl) ?_
    obtain ⟨g14, hF⟩ := gdS hF
    refine va_ti hx hb hm.2.2.2.2.1 hS g14 rfl dX7_kindAbove_14 ?_
    refine lv_goto (tgt := 19) hx hb dX7_kindAbove_15 (by decide) ?_
    obtain rfl := Option.some.inj hF
    rw [← hQ]
    exact W.iret (v := (xAbove kd.toNatClampNeg)) hx hb hr (fun t ht hW => ⟨⟨_, (), rfl, ⟨rfl, rfl⟩, xLf hP ht⟩, hS.F ht⟩) hS.2.2 dX7_kindAbove_19
def B_X7_isUnder_4 (wa : Int32) (k4 : (Int32 × Int32) → Option Int32) (v4 : (Int32 × Int32)) : Option Int32 := if (7 : Int32) ≤ v4.2 then (some (0 : Int32)) else (if v4.1 < 0 then (some (0 : Int32)) else (if v4.1 = wa then (some (1 : Int32)) else (bd (F_X7_kindAbove v4.1) (fun (u1 : Int32) => k4 (u1, (v4.2 + (1 : Int32)))))))
def F_X7_isUnder (kd : Int32) (wa : Int32) : Option Int32 := lp (B_X7_isUnder_4 wa) fuelC (kd, (0 : Int32))
theorem hdX7_isUnder : yX7_isUnder.cls ≠ "java/lang/invoke/MethodHandle" ∧ yX7_isUnder.cls ≠ "java/lang/invoke/VarHandle" ∧ (parseMethodDescriptor yX7_isUnder.desc).map (fun d => d.parameters.length) = some 2 := by decide +kernel
set_option maxHeartbeats 4000000 in
set_option maxRecDepth 100000 in
theorem c_X7_isUnder (G : xG) (kd : Int32) (wa : Int32)  (u : Int32) (hF : F_X7_isUnder kd wa = some u) : Ki G .boolean yX7_isUnder (Cond.code yX7_isUnder cX7_isUnder 4 (some .boolean) :: TBL) { frames := 2, cells := 0, slots := 0, locals := 42 } [.int kd, .int wa] [] [] u := by
  intro l sz
  refine Met.ofW (cc := cX7_isUnder) (maxL := 4) (ret := (some .boolean)) (by decide) rfl ?_
  intro p e s m args below meth c s₁ B hml hv
  obtain ⟨rfl, hsz, hP, hD0, hm⟩ := hv
  have hx := B.exec
  have hb := B.bytes
  have hr := B.returns
  have hts := atoms_spec (ws := Cond.code yX7_isUnder cX7_isUnder 4 (some .boolean) :: TBL) B.pre
  have hown : s.vm.findClass RX7 = some m.cls := findClass_of_methodNamed B.named
  have hlocks := B.notSynchronized
  subst hsz
  have hD := hD0.self (sz := s.heap.size)
  generalize hAe : va_A [] s.heap.size = A at hD hm ⊢
  have hA : ∀ q : Nat, s.heap.size ≤ q → A q := fun q h => by rw [← hAe]; exact Or.inr h
  have hK := hm.1
  have hZ : xAnd p m c cX7_isUnder 4 s _ (Cond.code yX7_isUnder cX7_isUnder 4 (some .boolean) :: TBL) RX7 G A := ⟨⟨hx, hb, hml, hown, hts⟩, tcons, hA, hm⟩
  have hP : va_P G.1 vwCl [] s.heap := hP
  have hl := lv_entry ([.int kd, .int wa]) (n := 4) (Nat.le_of_ble_eq_true rfl)
  rw [lg_entry_eq]
  generalize (lg_sl ([.int kd, .int wa]) ++ List.replicate (4 - (lg_sl ([.int kd, .int wa])).length) Slot.unset).toArray = ls at hl ⊢
  have hl : lv_has ls 4 [(0, .int kd), (1, .int wa)] := hl
  generalize hQ : MQ below _ _ s _ _ _ = Q
  refine xGo (A := A) hP (fun H locs hP hS => ?_)
  unfold F_X7_isUnder at hF
  refine lv_iload_n hx hb dX7_isUnder_0 rfl (lv_at hl 0 rfl) ?_
  refine lv_istore_n (lv' := [(2, .int kd), (0, .int kd), (1, .int wa)]) hx hb dX7_isUnder_1 rfl hl (by decide) rfl (fun ls hl => ?_)
  refine lv_iconst (v := 0) hx hb dX7_isUnder_2 (by decide) ?_
  refine lv_istore_n (lv' := [(3, .int (0 : Int32)), (2, .int kd), (0, .int kd), (1, .int wa)]) hx hb dX7_isUnder_3 rfl hl (by decide) rfl (fun ls hl => ?_)
  refine xLoop2 (body := (B_X7_isUnder_4 wa)) (fun (v4_0 : Int32) (v4_1 : Int32) H locs ls => va_P G.1 vwCl [] H ∧ va_D A [] ∧ va_S A s.heap H locs ∧ lv_has ls 4 [(0, .int kd), (1, .int wa), (2, .int v4_0), (3, .int v4_1)]) (fun N4 v4_0 v4_1 ih4 H locs ls hI hF => ?_) fuelC kd (0 : Int32) H locs ls ⟨hP, hD, hS, lv_sub hl [2, 3, 1, 0] rfl⟩ hF
  obtain ⟨hP, hD, hS, hl⟩ := hI
  unfold B_X7_isUnder_4 at hF
  refine lv_iload_n hx hb dX7_isUnder_4 rfl (lv_at hl 3 rfl) ?_
  refine lv_bipush (v := 7) hx hb dX7_isUnder_5 (by decide) ?_
  refine lv_icmp_ge (tgt := 32) hx hb dX7_isUnder_7 (by decide) (fun c7 => ?_) (fun c7 => ?_)
  · have hF := itP c7 hF
    refine lv_iconst (v := 0) hx hb dX7_isUnder_32 (by decide) ?_
    obtain rfl := Option.some.inj hF
    rw [← hQ]
    exact W.zret (v := (0 : Int32)) hx hb hr (show narrow .boolean (.int (0 : Int32)) = .int (0 : Int32) from by decide) (fun t ht hW => ⟨⟨_, (), rfl, ⟨rfl, (show narrow .boolean (.int (0 : Int32)) = .int (0 : Int32) from by decide)⟩, xLf hP ht⟩, hS.F ht⟩) hS.2.2 dX7_isUnder_33
  · have hF := itN c7 hF
    refine lv_iload_n hx hb dX7_isUnder_10 rfl (lv_at hl 2 rfl) ?_
    refine lv_if_lt (tgt := 32) hx hb dX7_isUnder_11 (by decide) (fun c11 => ?_) (fun c11 => ?_)
    · have hF := itP c11 hF
      refine lv_iconst (v := 0) hx hb dX7_isUnder_32 (by decide) ?_
      obtain rfl := Option.some.inj hF
      rw [← hQ]
      exact W.zret (v := (0 : Int32)) hx hb hr (show narrow .boolean (.int (0 : Int32)) = .int (0 : Int32) from by decide) (fun t ht hW => ⟨⟨_, (), rfl, ⟨rfl, (show narrow .boolean (.int (0 : Int32)) = .int (0 : Int32) from by decide)⟩, xLf hP ht⟩, hS.F ht⟩) hS.2.2 dX7_isUnder_33
    · have hF := itN c11 hF
      refine lv_iload_n hx hb dX7_isUnder_14 rfl (lv_at hl 2 rfl) ?_
      refine lv_iload_n hx hb dX7_isUnder_15 rfl (lv_at hl 1 rfl) ?_
      refine lv_icmp_ne (tgt := 21) hx hb dX7_isUnder_16 (by decide) (fun c16 => ?_) (fun c16 => ?_)
      · have hF := itN c16 hF
        refine lv_iload_n hx hb dX7_isUnder_21 rfl (lv_at hl 2 rfl) ?_
        obtain ⟨u1, e1, hF⟩ := bdS hF
        refine xEndI (xRunS (As := [.int v4_0]) (rest := []) hZ (c_X7_kindAbove G v4_0 u1 e1 l H.size) m362 m363 m2 m364 1 hdX7_kindAbove ⟨Nat.le_of_ble_eq_true rfl, Nat.le_of_ble_eq_true rfl⟩ ⟨rfl, rfl⟩ hP hD hS [] rfl rfl rfl hl.1 rfl (Nat.le_of_ble_eq_true rfl) dX7_isUnder_22 ⟨Nat.zero_le _, Nat.zero_le _⟩) hP hD hS hA [] rfl rfl rfl (fun H locs n1 hP hD hS => ?_)
        have hP : va_P G.1 vwCl [] H := hP
        have hD : va_D A [] := hD
        refine lv_istore_n (lv' := [(2, .int u1), (0, .int kd), (1, .int wa), (3, .int v4_1)]) hx hb dX7_isUnder_25 rfl hl (by decide) rfl (fun ls hl => ?_)
        refine lv_iinc (v := (v4_1 + (1 : Int32))) (lv' := [(3, .int (v4_1 + (1 : Int32))), (2, .int u1), (0, .int kd), (1, .int wa)]) hx hb dX7_isUnder_26 hl (k := 3) rfl (xInc_1 _) (by decide) rfl (fun ls hl => ?_)
        refine lv_goto (tgt := 4) hx hb dX7_isUnder_29 (by decide) ?_
        exact ih4 u1 (v4_1 + (1 : Int32)) H locs ls ⟨hP, hD, hS, lv_sub hl [2, 3, 1, 0] rfl⟩ hF
      · have hF := itP c16 hF
        refine lv_iconst (v := 1) hx hb dX7_isUnder_19 (by decide) ?_
        obtain rfl := Option.some.inj hF
        rw [← hQ]
        exact W.zret (v := (1 : Int32)) hx hb hr (show narrow .boolean (.int (1 : Int32)) = .int (1 : Int32) from by decide) (fun t ht hW => ⟨⟨_, (), rfl, ⟨rfl, (show narrow .boolean (.int (1 : Int32)) = .int (1 : Int32) from by decide)⟩, xLf hP ht⟩, hS.F ht⟩) hS.2.2 dX7_isUnder_20
def F_X4_bodyOf (kd : Int32) (vo : Int32) : Option Int32 := if kd < 0 then (some (0 : Int32)) else (bd (F_X7_within vo (0 : Int32) (3 : Int32)) (fun (u1 : Int32) => if u1 = 0 then (some (0 : Int32)) else (if (28 : Int32) ≤ (((4 : Int32) * kd) + vo) then (some (0 : Int32)) else (if ((((4 : Int32) * kd) + vo) < 0 ∨ 28 ≤ (((4 : Int32) * kd) + vo).toNatClampNeg) then none else (some (xBodies (((4 : Int32) * kd) + vo).toNatClampNeg))))))
theorem hdX4_bodyOf : yX4_bodyOf.cls ≠ "java/lang/invoke/MethodHandle" ∧ yX4_bodyOf.cls ≠ "java/lang/invoke/VarHandle" ∧ (parseMethodDescriptor yX4_bodyOf.desc).map (fun d => d.parameters.length) = some 2 := by decide +kernel
set_option maxHeartbeats 4000000 in
set_option maxRecDepth 100000 in
theorem c_X4_bodyOf (G : xG) (kd : Int32) (vo : Int32)  (u : Int32) (hF : F_X4_bodyOf kd vo = some u) : Ki G .int yX4_bodyOf (Cond.code yX4_bodyOf cX4_bodyOf 3 (some .int) :: TBL) { frames := 1, cells := 0, slots := 0, locals := 22 } [.int kd, .int vo] [] [] u := by
  intro l sz
  refine Met.ofW (cc := cX4_bodyOf) (maxL := 3) (ret := (some .int)) (by decide) rfl ?_
  intro p e s m args below meth c s₁ B hml hv
  obtain ⟨rfl, hsz, hP, hD0, hm⟩ := hv
  have hx := B.exec
  have hb := B.bytes
  have hr := B.returns
  have hts := atoms_spec (ws := Cond.code yX4_bodyOf cX4_bodyOf 3 (some .int) :: TBL) B.pre
  have hown : s.vm.findClass RX4 = some m.cls := findClass_of_methodNamed B.named
  have hlocks := B.notSynchronized
  subst hsz
  have hD := hD0.self (sz := s.heap.size)
  generalize hAe : va_A [] s.heap.size = A at hD hm ⊢
  have hA : ∀ q : Nat, s.heap.size ≤ q → A q := fun q h => by rw [← hAe]; exact Or.inr h
  have hK := hm.1
  have hZ : xAnd p m c cX4_bodyOf 3 s _ (Cond.code yX4_bodyOf cX4_bodyOf 3 (some .int) :: TBL) RX4 G A := ⟨⟨hx, hb, hml, hown, hts⟩, tcons, hA, hm⟩
  have hP : va_P G.1 vwCl [] s.heap := hP
  have hl := lv_entry ([.int kd, .int vo]) (n := 3) (Nat.le_of_ble_eq_true rfl)
  rw [lg_entry_eq]
  generalize (lg_sl ([.int kd, .int vo]) ++ List.replicate (3 - (lg_sl ([.int kd, .int vo])).length) Slot.unset).toArray = ls at hl ⊢
  have hl : lv_has ls 3 [(0, .int kd), (1, .int vo)] := hl
  generalize hQ : MQ below _ _ s _ _ _ = Q
  refine xGo (A := A) hP (fun H locs hP hS => ?_)
  unfold F_X4_bodyOf at hF
  refine lv_iconst (v := 4) hx hb dX4_bodyOf_0 (by decide) ?_
  refine lv_iload_n hx hb dX4_bodyOf_1 rfl (lv_at hl 0 rfl) ?_
  refine lv_imul hx hb dX4_bodyOf_2 ?_
  refine lv_iload_n hx hb dX4_bodyOf_3 rfl (lv_at hl 1 rfl) ?_
  refine lv_iadd hx hb dX4_bodyOf_4 ?_
  refine lv_istore_n (lv' := [(2, .int (((4 : Int32) * kd) + vo)), (0, .int kd), (1, .int vo)]) hx hb dX4_bodyOf_5 rfl hl (by decide) rfl (fun ls hl => ?_)
  refine lv_iload_n hx hb dX4_bodyOf_6 rfl (lv_at hl 1 rfl) ?_
  refine lv_if_lt (tgt := 35) hx hb dX4_bodyOf_7 (by decide) (fun c7 => ?_) (fun c7 => ?_)
  · have hF := itP c7 hF
    refine lv_iconst (v := 0) hx hb dX4_bodyOf_35 (by decide) ?_
    obtain rfl := Option.some.inj hF
    rw [← hQ]
    exact W.iret (v := (0 : Int32)) hx hb hr (fun t ht hW => ⟨⟨_, (), rfl, ⟨rfl, rfl⟩, xLf hP ht⟩, hS.F ht⟩) hS.2.2 dX4_bodyOf_36
  · have hF := itN c7 hF
    refine lv_iload_n hx hb dX4_bodyOf_10 rfl (lv_at hl 2 rfl) ?_
    refine lv_iconst (v := 0) hx hb dX4_bodyOf_11 (by decide) ?_
    refine lv_iconst (v := 3) hx hb dX4_bodyOf_12 (by decide) ?_
    obtain ⟨u1, e1, hF⟩ := bdS hF
    refine xEndI (xRunN (As := [.int vo, .int (0 : Int32), .int (3 : Int32)]) (rest := []) hZ (c_X7_within G vo (0 : Int32) (3 : Int32) u1 e1 l H.size) hm.2.1.2.2.2.2.2.2.1 m165 m2 m166 3 hdX7_within ⟨Nat.le_of_ble_eq_true rfl, Nat.le_of_ble_eq_true rfl⟩ ⟨rfl, rfl⟩ hP hD hS [] rfl rfl rfl hl.1 rfl (Nat.le_of_ble_eq_true rfl) dX4_bodyOf_13 ⟨Nat.zero_le _, Nat.zero_le _⟩) hP hD hS hA [] rfl rfl rfl (fun H locs n1 hP hD hS => ?_)
    have hP : va_P G.1 vwCl [] H := hP
    have hD : va_D A [] := hD
    refine lv_if_eq (tgt := 35) hx hb dX4_bodyOf_16 (by decide) (fun c16 => ?_) (fun c16 => ?_)
    · have hF := itP c16 hF
      refine lv_iconst (v := 0) hx hb dX4_bodyOf_35 (by decide) ?_
      obtain rfl := Option.some.inj hF
      rw [← hQ]
      exact W.iret (v := (0 : Int32)) hx hb hr (fun t ht hW => ⟨⟨_, (), rfl, ⟨rfl, rfl⟩, xLf hP ht⟩, hS.F ht⟩) hS.2.2 dX4_bodyOf_36
    · have hF := itN c16 hF
      refine lv_iload_n hx hb dX4_bodyOf_19 rfl (lv_at hl 0 rfl) ?_
      refine va_getsN hx hb hm.2.2.2.2.2.1 hS hown (va_Nw.use rfl hm.2.1.2.2.2.2.2.2.2.2.2.1) (fun _ h9 => h9) dX4_bodyOf_20 ?_
      refine va_tlen (v := 28) hx hb hm.2.2.2.2.2.2.1 hS (by decide) dX4_bodyOf_23 ?_
      refine lv_icmp_ge (tgt := 35) hx hb dX4_bodyOf_24 (by decide) (fun c24 => ?_) (fun c24 => ?_)
      · have hF := itP c24 hF
        refine lv_iconst (v := 0) hx hb dX4_bodyOf_35 (by decide) ?_
        obtain rfl := Option.some.inj hF
        rw [← hQ]
        exact W.iret (v := (0 : Int32)) hx hb hr (fun t ht hW => ⟨⟨_, (), rfl, ⟨rfl, rfl⟩, xLf hP ht⟩, hS.F ht⟩) hS.2.2 dX4_bodyOf_36
      · have hF := itN c24 hF
        refine va_getsN hx hb hm.2.2.2.2.2.1 hS hown (va_Nw.use rfl hm.2.1.2.2.2.2.2.2.2.2.2.1) (fun _ h9 => h9) dX4_bodyOf_27 ?_
        refine lv_iload_n hx hb dX4_bodyOf_30 rfl (lv_at hl 0 rfl) ?_
        obtain ⟨g31, hF⟩ := gdS hF
        refine va_ti hx hb hm.2.2.2.2.2.2.1 hS g31 rfl dX4_bodyOf_31 ?_
        refine lv_goto (tgt := 36) hx hb dX4_bodyOf_32 (by decide) ?_
        obtain rfl := Option.some.inj hF
        rw [← hQ]
        exact W.iret (v := (xBodies (((4 : Int32) * kd) + vo).toNatClampNeg)) hx hb hr (fun t ht hW => ⟨⟨_, (), rfl, ⟨rfl, rfl⟩, xLf hP ht⟩, hS.F ht⟩) hS.2.2 dX4_bodyOf_36
def F_X4_topmost (R_speak : Int32 → Int32 → Int32 → Int32 → Int32 → (Nat → Int32) → Int32 → Int32 → Int32 → Int32 → Option (Int32 × Int32 × Int32 × (Nat → Int32))) (parted : Int32) (vkk : Int32) (vkd : Int32) (vmm : Int32) (trace_m : Int32) (trace_f : Nat → Int32) (nu : Int32) (x : Int32) (de : Int32) : Option (Int32 × Int32 × Int32 × (Nat → Int32)) := if nu = (10 : Int32) then (some ((x + vkk), parted, trace_m, trace_f)) else (if nu = (11 : Int32) then (bd (R_speak parted vkk vkd vmm trace_m trace_f vkd (0 : Int32) x de) (fun (u1 : (Int32 × Int32 × Int32 × (Nat → Int32))) => some ((u1.1 * (2 : Int32)), u1.2.1, u1.2.2.1, u1.2.2.2))) else (if nu = (12 : Int32) then (bd (R_speak parted vkk vkd vmm trace_m trace_f vkd (1 : Int32) x de) (fun (u1 : (Int32 × Int32 × Int32 × (Nat → Int32))) => some ((u1.1 - vmm), u1.2.1, u1.2.2.1, u1.2.2.2))) else (if vmm = vkk then (some ((0 : Int32), (1 : Int32), trace_m, trace_f)) else (if (vmm - vkk) = 0 then none else (some ((x / (vmm - vkk)), parted, trace_m, trace_f))))))
theorem hdX4_topmost : yX4_topmost.cls ≠ "java/lang/invoke/MethodHandle" ∧ yX4_topmost.cls ≠ "java/lang/invoke/VarHandle" ∧ (parseMethodDescriptor yX4_topmost.desc).map (fun d => d.parameters.length) = some 3 := by decide +kernel
theorem hdX4_speak : yX4_speak.cls ≠ "java/lang/invoke/MethodHandle" ∧ yX4_speak.cls ≠ "java/lang/invoke/VarHandle" ∧ (parseMethodDescriptor yX4_speak.desc).map (fun d => d.parameters.length) = some 4 := by decide +kernel
set_option maxHeartbeats 4000000 in
set_option maxRecDepth 100000 in
theorem c_X4_topmost (G : xG) (fd ld : Nat) (R_speak : Int32 → Int32 → Int32 → Int32 → Int32 → (Nat → Int32) → Int32 → Int32 → Int32 → Int32 → Option (Int32 × Int32 × Int32 × (Nat → Int32))) (h_speak : ∀ (t : Nat) (trace : Nat) (trace_q : Nat) (parted : Int32) (vkk : Int32) (vkd : Int32) (vmm : Int32) (trace_m : Int32) (trace_f : Nat → Int32) (from_ : Int32) (vo : Int32) (x : Int32) (de : Int32) (u : (Int32 × Int32 × Int32 × (Nat → Int32))) (hF : R_speak parted vkk vkd vmm trace_m trace_f from_ vo x de = some u), Ki G .int yX4_speak (Cond.code yX4_speak cX4_speak 7 (some .int) :: TBL) { frames := fd, cells := 0, slots := 0, locals := ld } [.ref t, .int from_, .int vo, .int x, .int de] [(t, .inr (4, [.ref trace, .int parted, .int vkk, .int vkd, .int vmm])), (trace, .inr (1, [.ref trace_q, .int trace_m])), (trace_q, .inl (xI G, 30, .inl trace_f))] [(t, .inr (4, [.ref trace, .int u.2.1, .int vkk, .int vkd, .int vmm])), (trace, .inr (1, [.ref trace_q, .int u.2.2.1])), (trace_q, .inl (xI G, 30, .inl u.2.2.2))] u.1) (t : Nat) (trace : Nat) (trace_q : Nat) (parted : Int32) (vkk : Int32) (vkd : Int32) (vmm : Int32) (trace_m : Int32) (trace_f : Nat → Int32) (nu : Int32) (x : Int32) (de : Int32)  (u : (Int32 × Int32 × Int32 × (Nat → Int32))) (hF : F_X4_topmost R_speak parted vkk vkd vmm trace_m trace_f nu x de = some u) : Ki G .int yX4_topmost (Cond.code yX4_topmost cX4_topmost 4 (some .int) :: TBL) { frames := fd + 1, cells := 0, slots := 0, locals := ld + 26 } [.ref t, .int nu, .int x, .int de] [(t, .inr (4, [.ref trace, .int parted, .int vkk, .int vkd, .int vmm])), (trace, .inr (1, [.ref trace_q, .int trace_m])), (trace_q, .inl (xI G, 30, .inl trace_f))] [(t, .inr (4, [.ref trace, .int u.2.1, .int vkk, .int vkd, .int vmm])), (trace, .inr (1, [.ref trace_q, .int u.2.2.1])), (trace_q, .inl (xI G, 30, .inl u.2.2.2))] u.1 := by
  intro l sz
  refine Met.ofW (cc := cX4_topmost) (maxL := 4) (ret := (some .int)) (by decide) rfl ?_
  intro p e s m args below meth c s₁ B hml hv
  obtain ⟨rfl, hsz, hP, hD0, hm⟩ := hv
  have hx := B.exec
  have hb := B.bytes
  have hr := B.returns
  have hts := atoms_spec (ws := Cond.code yX4_topmost cX4_topmost 4 (some .int) :: TBL) B.pre
  have hown : s.vm.findClass RX4 = some m.cls := findClass_of_methodNamed B.named
  have hlocks := B.notSynchronized
  subst hsz
  have hD := hD0.self (sz := s.heap.size)
  generalize hAe : va_A [(t, .inr (4, [.ref trace, .int parted, .int vkk, .int vkd, .int vmm])), (trace, .inr (1, [.ref trace_q, .int trace_m])), (trace_q, .inl (xI G, 30, .inl trace_f))] s.heap.size = A at hD hm ⊢
  have hA : ∀ q : Nat, s.heap.size ≤ q → A q := fun q h => by rw [← hAe]; exact Or.inr h
  have hK := hm.1
  have hZ : xAnd p m c cX4_topmost 4 s _ (Cond.code yX4_topmost cX4_topmost 4 (some .int) :: TBL) RX4 G A := ⟨⟨hx, hb, hml, hown, hts⟩, tcons, hA, hm⟩
  have hP : va_P G.1 vwCl [(t, .inr (4, [.ref trace, .int parted, .int vkk, .int vkd, .int vmm])), (trace, .inr (1, [.ref trace_q, .int trace_m])), (trace_q, .inl (xI G, 30, .inl trace_f))] s.heap := hP
  have hl := lv_entry ([.ref t, .int nu, .int x, .int de]) (n := 4) (Nat.le_of_ble_eq_true rfl)
  rw [lg_entry_eq]
  generalize (lg_sl ([.ref t, .int nu, .int x, .int de]) ++ List.replicate (4 - (lg_sl ([.ref t, .int nu, .int x, .int de])).length) Slot.unset).toArray = ls at hl ⊢
  have hl : lv_has ls 4 [(0, .ref t), (1, .int nu), (2, .int x), (3, .int de)] := hl
  generalize hQ : MQ below _ _ s _ _ _ = Q
  refine xGo (A := A) hP (fun H locs hP hS => ?_)
  unfold F_X4_topmost at hF
  refine lv_iload_n hx hb dX4_topmost_0 rfl (lv_at hl 1 rfl) ?_
  by_cases c1_0 : nu = (10 : Int32)
  · have hF := itP c1_0 hF
    refine lv_tableIn (off := 27) (tgt := 28) hx hb dX4_topmost_1 (by rw [c1_0]; decide) (by rw [c1_0]; decide) (by rw [c1_0]; rfl) (by decide) ?_
    refine lv_iload_n hx hb dX4_topmost_28 rfl (lv_at hl 2 rfl) ?_
    refine lv_aload_n hx hb dX4_topmost_29 rfl (lv_at hl 0 rfl) ?_
    refine va_get (ci := 4) (v := .int vkk) (C := RX4) (T := TX4) (N := 5) hx hb hts (fun w h => tcons w (xin4 w h)) hown hK hP 0 rfl rfl 2 (by decide) (hts _ (tcons _ m110)) (fun _ h9 => h9) rfl dX4_topmost_30 ?_
    refine lv_iadd hx hb dX4_topmost_33 ?_
    obtain rfl := Option.some.inj hF
    rw [← hQ]
    exact W.iret (v := (x + vkk)) hx hb hr (fun t ht hW => ⟨⟨_, (), rfl, ⟨rfl, rfl⟩, xLf hP ht⟩, hS.F ht⟩) hS.2.2 dX4_topmost_34
  · have hF := itN c1_0 hF
    by_cases c1_1 : nu = (11 : Int32)
    · have hF := itP c1_1 hF
      refine lv_tableIn (off := 34) (tgt := 35) hx hb dX4_topmost_1 (by rw [c1_1]; decide) (by rw [c1_1]; decide) (by rw [c1_1]; rfl) (by decide) ?_
      refine lv_aload_n hx hb dX4_topmost_35 rfl (lv_at hl 0 rfl) ?_
      refine lv_aload_n hx hb dX4_topmost_36 rfl (lv_at hl 0 rfl) ?_
      refine va_get (ci := 4) (v := .int vkd) (C := RX4) (T := TX4) (N := 5) hx hb hts (fun w h => tcons w (xin4 w h)) hown hK hP 0 rfl rfl 3 (by decide) (hts _ (tcons _ m111)) (fun _ h9 => h9) rfl dX4_topmost_37 ?_
      refine lv_iconst (v := 0) hx hb dX4_topmost_40 (by decide) ?_
      refine lv_iload_n hx hb dX4_topmost_41 rfl (lv_at hl 2 rfl) ?_
      refine lv_iload_n hx hb dX4_topmost_42 rfl (lv_at hl 3 rfl) ?_
      obtain ⟨u1, e1, hF⟩ := bdS hF
      refine xEndI (xRunV (As := [.int vkd, .int (0 : Int32), .int x, .int de]) (rest := []) hZ (h_speak t trace trace_q parted vkk vkd vmm trace_m trace_f vkd (0 : Int32) x de u1 e1 l H.size) m916 m917 m918 m35 m919 4 ⟨rfl, hdX4_speak⟩ ⟨by show fd + 0 + 1 ≤ fd + 1; omega, by show 8 + (7 + 11) + (ld + 0) ≤ ld + 26; omega⟩ ⟨rfl, rfl⟩ hP hD hS 0 4 rfl rfl rfl [0, 1, 2] rfl rfl rfl hl.1 rfl (Nat.le_of_ble_eq_true rfl) dX4_topmost_43 ⟨Nat.zero_le _, Nat.zero_le _⟩) hP hD hS hA [0, 1, 2] rfl rfl rfl (fun H locs n1 hP hD hS => ?_)
      have hP : va_P G.1 vwCl [(t, .inr (4, [.ref trace, .int u1.2.1, .int vkk, .int vkd, .int vmm])), (trace, .inr (1, [.ref trace_q, .int u1.2.2.1])), (trace_q, .inl (xI G, 30, .inl u1.2.2.2))] H := hP
      have hD : va_D A [(t, .inr (4, [.ref trace, .int u1.2.1, .int vkk, .int vkd, .int vmm])), (trace, .inr (1, [.ref trace_q, .int u1.2.2.1])), (trace_q, .inl (xI G, 30, .inl u1.2.2.2))] := hD
      refine lv_iconst (v := 2) hx hb dX4_topmost_46 (by decide) ?_
      refine lv_imul hx hb dX4_topmost_47 ?_
      obtain rfl := Option.some.inj hF
      rw [← hQ]
      exact W.iret (v := (u1.1 * (2 : Int32))) hx hb hr (fun t ht hW => ⟨⟨_, (), rfl, ⟨rfl, rfl⟩, xLf hP ht⟩, hS.F ht⟩) hS.2.2 dX4_topmost_48
    · have hF := itN c1_1 hF
      by_cases c1_2 : nu = (12 : Int32)
      · have hF := itP c1_2 hF
        refine lv_tableIn (off := 48) (tgt := 49) hx hb dX4_topmost_1 (by rw [c1_2]; decide) (by rw [c1_2]; decide) (by rw [c1_2]; rfl) (by decide) ?_
        refine lv_aload_n hx hb dX4_topmost_49 rfl (lv_at hl 0 rfl) ?_
        refine lv_aload_n hx hb dX4_topmost_50 rfl (lv_at hl 0 rfl) ?_
        refine va_get (ci := 4) (v := .int vkd) (C := RX4) (T := TX4) (N := 5) hx hb hts (fun w h => tcons w (xin4 w h)) hown hK hP 0 rfl rfl 3 (by decide) (hts _ (tcons _ m111)) (fun _ h9 => h9) rfl dX4_topmost_51 ?_
        refine lv_iconst (v := 1) hx hb dX4_topmost_54 (by decide) ?_
        refine lv_iload_n hx hb dX4_topmost_55 rfl (lv_at hl 2 rfl) ?_
        refine lv_iload_n hx hb dX4_topmost_56 rfl (lv_at hl 3 rfl) ?_
        obtain ⟨u1, e1, hF⟩ := bdS hF
        refine xEndI (xRunV (As := [.int vkd, .int (1 : Int32), .int x, .int de]) (rest := []) hZ (h_speak t trace trace_q parted vkk vkd vmm trace_m trace_f vkd (1 : Int32) x de u1 e1 l H.size) m916 m917 m918 m35 m919 4 ⟨rfl, hdX4_speak⟩ ⟨by show fd + 0 + 1 ≤ fd + 1; omega, by show 8 + (7 + 11) + (ld + 0) ≤ ld + 26; omega⟩ ⟨rfl, rfl⟩ hP hD hS 0 4 rfl rfl rfl [0, 1, 2] rfl rfl rfl hl.1 rfl (Nat.le_of_ble_eq_true rfl) dX4_topmost_57 ⟨Nat.zero_le _, Nat.zero_le _⟩) hP hD hS hA [0, 1, 2] rfl rfl rfl (fun H locs n1 hP hD hS => ?_)
        have hP : va_P G.1 vwCl [(t, .inr (4, [.ref trace, .int u1.2.1, .int vkk, .int vkd, .int vmm])), (trace, .inr (1, [.ref trace_q, .int u1.2.2.1])), (trace_q, .inl (xI G, 30, .inl u1.2.2.2))] H := hP
        have hD : va_D A [(t, .inr (4, [.ref trace, .int u1.2.1, .int vkk, .int vkd, .int vmm])), (trace, .inr (1, [.ref trace_q, .int u1.2.2.1])), (trace_q, .inl (xI G, 30, .inl u1.2.2.2))] := hD
        refine lv_aload_n hx hb dX4_topmost_60 rfl (lv_at hl 0 rfl) ?_
        refine va_get (ci := 4) (v := .int vmm) (C := RX4) (T := TX4) (N := 5) hx hb hts (fun w h => tcons w (xin4 w h)) hown hK hP 0 rfl rfl 4 (by decide) (hts _ (tcons _ m112)) (fun _ h9 => h9) rfl dX4_topmost_61 ?_
        refine lv_isub hx hb dX4_topmost_64 ?_
        obtain rfl := Option.some.inj hF
        rw [← hQ]
        exact W.iret (v := (u1.1 - vmm)) hx hb hr (fun t ht hW => ⟨⟨_, (), rfl, ⟨rfl, rfl⟩, xLf hP ht⟩, hS.F ht⟩) hS.2.2 dX4_topmost_65
      · have hF := itN c1_2 hF
        refine lv_tableOut (tgt := 66) hx hb dX4_topmost_1 (by have h0 : nu.toInt ≠ 10 := xNe c1_0; have h1 : nu.toInt ≠ 11 := xNe c1_1; have h2 : nu.toInt ≠ 12 := xNe c1_2; omega) (by decide) ?_
        refine lv_aload_n hx hb dX4_topmost_66 rfl (lv_at hl 0 rfl) ?_
        refine va_get (ci := 4) (v := .int vmm) (C := RX4) (T := TX4) (N := 5) hx hb hts (fun w h => tcons w (xin4 w h)) hown hK hP 0 rfl rfl 4 (by decide) (hts _ (tcons _ m112)) (fun _ h9 => h9) rfl dX4_topmost_67 ?_
        refine lv_aload_n hx hb dX4_topmost_70 rfl (lv_at hl 0 rfl) ?_
        refine va_get (ci := 4) (v := .int vkk) (C := RX4) (T := TX4) (N := 5) hx hb hts (fun w h => tcons w (xin4 w h)) hown hK hP 0 rfl rfl 2 (by decide) (hts _ (tcons _ m110)) (fun _ h9 => h9) rfl dX4_topmost_71 ?_
        refine lv_icmp_ne (tgt := 84) hx hb dX4_topmost_74 (by decide) (fun c74 => ?_) (fun c74 => ?_)
        · have hF := itN c74 hF
          refine lv_iload_n hx hb dX4_topmost_84 rfl (lv_at hl 2 rfl) ?_
          refine lv_aload_n hx hb dX4_topmost_85 rfl (lv_at hl 0 rfl) ?_
          refine va_get (ci := 4) (v := .int vmm) (C := RX4) (T := TX4) (N := 5) hx hb hts (fun w h => tcons w (xin4 w h)) hown hK hP 0 rfl rfl 4 (by decide) (hts _ (tcons _ m112)) (fun _ h9 => h9) rfl dX4_topmost_86 ?_
          refine lv_aload_n hx hb dX4_topmost_89 rfl (lv_at hl 0 rfl) ?_
          refine va_get (ci := 4) (v := .int vkk) (C := RX4) (T := TX4) (N := 5) hx hb hts (fun w h => tcons w (xin4 w h)) hown hK hP 0 rfl rfl 2 (by decide) (hts _ (tcons _ m110)) (fun _ h9 => h9) rfl dX4_topmost_90 ?_
          refine lv_isub hx hb dX4_topmost_93 ?_
          obtain ⟨g94, hF⟩ := gdS hF
          refine lv_idiv hx hb dX4_topmost_94 g94 ?_
          obtain rfl := Option.some.inj hF
          rw [← hQ]
          exact W.iret (v := (x / (vmm - vkk))) hx hb hr (fun t ht hW => ⟨⟨_, (), rfl, ⟨rfl, rfl⟩, xLf hP ht⟩, hS.F ht⟩) hS.2.2 dX4_topmost_95
        · have hF := itP c74 hF
          refine lv_aload_n hx hb dX4_topmost_77 rfl (lv_at hl 0 rfl) ?_
          refine lv_iconst (v := 1) hx hb dX4_topmost_78 (by decide) ?_
          refine va_put (ci := 4) (v := .int (1 : Int32)) (ty := .boolean) (C := RX4) (T := TX4) (N := 5) hx hb hts (fun w h => tcons w (xin4 w h)) tyX4 tyX4_ok nmX4 hown hK hP hD hS 0 rfl rfl 1 (by decide) (hts _ (tcons _ m109)) (fun _ h9 => h9) rfl (by decide +kernel) (by decide) (by decide) (Nat.le_of_ble_eq_true rfl) dX4_topmost_79 (fun H locs hP hD hS => ?_)
          have hP : va_P G.1 vwCl [(t, .inr (4, [.ref trace, .int (1 : Int32), .int vkk, .int vkd, .int vmm])), (trace, .inr (1, [.ref trace_q, .int trace_m])), (trace_q, .inl (xI G, 30, .inl trace_f))] H := hP
          have hD : va_D A [(t, .inr (4, [.ref trace, .int (1 : Int32), .int vkk, .int vkd, .int vmm])), (trace, .inr (1, [.ref trace_q, .int trace_m])), (trace_q, .inl (xI G, 30, .inl trace_f))] := hD
          refine lv_iconst (v := 0) hx hb dX4_topmost_82 (by decide) ?_
          obtain rfl := Option.some.inj hF
          rw [← hQ]
          exact W.iret (v := (0 : Int32)) hx hb hr (fun t ht hW => ⟨⟨_, (), rfl, ⟨rfl, rfl⟩, xLf hP ht⟩, hS.F ht⟩) hS.2.2 dX4_topmost_83
def F_X4_lower (R_speak : Int32 → Int32 → Int32 → Int32 → Int32 → (Nat → Int32) → Int32 → Int32 → Int32 → Int32 → Option (Int32 × Int32 × Int32 × (Nat → Int32))) (parted : Int32) (vkk : Int32) (vkd : Int32) (vmm : Int32) (trace_m : Int32) (trace_f : Nat → Int32) (nu : Int32) (ab : Int32) (x : Int32) (de : Int32) : Option (Int32 × Int32 × Int32 × (Nat → Int32)) := if nu = (20 : Int32) then (bd (R_speak parted vkk vkd vmm trace_m trace_f ab (0 : Int32) x de) (fun (u1 : (Int32 × Int32 × Int32 × (Nat → Int32))) => some ((u1.1 - (4 : Int32)), u1.2.1, u1.2.2.1, u1.2.2.2))) else (if nu = (21 : Int32) then (bd (R_speak parted vkk vkd vmm trace_m trace_f ab (3 : Int32) x de) (fun (u1 : (Int32 × Int32 × Int32 × (Nat → Int32))) => bd (R_speak u1.2.1 vkk vkd vmm u1.2.2.1 u1.2.2.2 vkd (1 : Int32) (1 : Int32) de) (fun (u2 : (Int32 × Int32 × Int32 × (Nat → Int32))) => some ((u1.1 + u2.1), u2.2.1, u2.2.2.1, u2.2.2.2)))) else (if nu = (30 : Int32) then (bd (R_speak parted vkk vkd vmm trace_m trace_f ab (1 : Int32) x de) (fun (u1 : (Int32 × Int32 × Int32 × (Nat → Int32))) => some (((0 : Int32) - u1.1), u1.2.1, u1.2.2.1, u1.2.2.2))) else (if nu = (40 : Int32) then (bd (R_speak parted vkk vkd vmm trace_m trace_f ab (2 : Int32) (x / (2 : Int32)) de) (fun (u1 : (Int32 × Int32 × Int32 × (Nat → Int32))) => some (u1.1, u1.2.1, u1.2.2.1, u1.2.2.2))) else (if nu = (50 : Int32) then (bd (R_speak parted vkk vkd vmm trace_m trace_f ab (0 : Int32) x de) (fun (u1 : (Int32 × Int32 × Int32 × (Nat → Int32))) => some ((u1.1 * (3 : Int32)), u1.2.1, u1.2.2.1, u1.2.2.2))) else (if nu = (51 : Int32) then (bd (R_speak parted vkk vkd vmm trace_m trace_f ab (2 : Int32) x de) (fun (u1 : (Int32 × Int32 × Int32 × (Nat → Int32))) => some ((u1.1 ^^^ vkk), u1.2.1, u1.2.2.1, u1.2.2.2))) else (if nu = (60 : Int32) then (bd (R_speak parted vkk vkd vmm trace_m trace_f ab (1 : Int32) (x + (1 : Int32)) de) (fun (u1 : (Int32 × Int32 × Int32 × (Nat → Int32))) => some (u1.1, u1.2.1, u1.2.2.1, u1.2.2.2))) else (if nu = (70 : Int32) then (some ((9 : Int32), parted, trace_m, trace_f)) else (bd (R_speak parted vkk vkd vmm trace_m trace_f ab (1 : Int32) x de) (fun (u1 : (Int32 × Int32 × Int32 × (Nat → Int32))) => some ((u1.1 + vmm), u1.2.1, u1.2.2.1, u1.2.2.2))))))))))
theorem hdX4_lower : yX4_lower.cls ≠ "java/lang/invoke/MethodHandle" ∧ yX4_lower.cls ≠ "java/lang/invoke/VarHandle" ∧ (parseMethodDescriptor yX4_lower.desc).map (fun d => d.parameters.length) = some 4 := by decide +kernel
set_option maxHeartbeats 4000000 in
set_option maxRecDepth 100000 in
theorem c_X4_lower (G : xG) (fd ld : Nat) (R_speak : Int32 → Int32 → Int32 → Int32 → Int32 → (Nat → Int32) → Int32 → Int32 → Int32 → Int32 → Option (Int32 × Int32 × Int32 × (Nat → Int32))) (h_speak : ∀ (t : Nat) (trace : Nat) (trace_q : Nat) (parted : Int32) (vkk : Int32) (vkd : Int32) (vmm : Int32) (trace_m : Int32) (trace_f : Nat → Int32) (from_ : Int32) (vo : Int32) (x : Int32) (de : Int32) (u : (Int32 × Int32 × Int32 × (Nat → Int32))) (hF : R_speak parted vkk vkd vmm trace_m trace_f from_ vo x de = some u), Ki G .int yX4_speak (Cond.code yX4_speak cX4_speak 7 (some .int) :: TBL) { frames := fd, cells := 0, slots := 0, locals := ld } [.ref t, .int from_, .int vo, .int x, .int de] [(t, .inr (4, [.ref trace, .int parted, .int vkk, .int vkd, .int vmm])), (trace, .inr (1, [.ref trace_q, .int trace_m])), (trace_q, .inl (xI G, 30, .inl trace_f))] [(t, .inr (4, [.ref trace, .int u.2.1, .int vkk, .int vkd, .int vmm])), (trace, .inr (1, [.ref trace_q, .int u.2.2.1])), (trace_q, .inl (xI G, 30, .inl u.2.2.2))] u.1) (t : Nat) (trace : Nat) (trace_q : Nat) (parted : Int32) (vkk : Int32) (vkd : Int32) (vmm : Int32) (trace_m : Int32) (trace_f : Nat → Int32) (nu : Int32) (ab : Int32) (x : Int32) (de : Int32)  (u : (Int32 × Int32 × Int32 × (Nat → Int32))) (hF : F_X4_lower R_speak parted vkk vkd vmm trace_m trace_f nu ab x de = some u) : Ki G .int yX4_lower (Cond.code yX4_lower cX4_lower 5 (some .int) :: TBL) { frames := fd + 1, cells := 0, slots := 0, locals := ld + 26 } [.ref t, .int nu, .int ab, .int x, .int de] [(t, .inr (4, [.ref trace, .int parted, .int vkk, .int vkd, .int vmm])), (trace, .inr (1, [.ref trace_q, .int trace_m])), (trace_q, .inl (xI G, 30, .inl trace_f))] [(t, .inr (4, [.ref trace, .int u.2.1, .int vkk, .int vkd, .int vmm])), (trace, .inr (1, [.ref trace_q, .int u.2.2.1])), (trace_q, .inl (xI G, 30, .inl u.2.2.2))] u.1 := by
  intro l sz
  refine Met.ofW (cc := cX4_lower) (maxL := 5) (ret := (some .int)) (by decide) rfl ?_
  intro p e s m args below meth c s₁ B hml hv
  obtain ⟨rfl, hsz, hP, hD0, hm⟩ := hv
  have hx := B.exec
  have hb := B.bytes
  have hr := B.returns
  have hts := atoms_spec (ws := Cond.code yX4_lower cX4_lower 5 (some .int) :: TBL) B.pre
  have hown : s.vm.findClass RX4 = some m.cls := findClass_of_methodNamed B.named
  have hlocks := B.notSynchronized
  subst hsz
  have hD := hD0.self (sz := s.heap.size)
  generalize hAe : va_A [(t, .inr (4, [.ref trace, .int parted, .int vkk, .int vkd, .int vmm])), (trace, .inr (1, [.ref trace_q, .int trace_m])), (trace_q, .inl (xI G, 30, .inl trace_f))] s.heap.size = A at hD hm ⊢
  have hA : ∀ q : Nat, s.heap.size ≤ q → A q := fun q h => by rw [← hAe]; exact Or.inr h
  have hK := hm.1
  have hZ : xAnd p m c cX4_lower 5 s _ (Cond.code yX4_lower cX4_lower 5 (some .int) :: TBL) RX4 G A := ⟨⟨hx, hb, hml, hown, hts⟩, tcons, hA, hm⟩
  have hP : va_P G.1 vwCl [(t, .inr (4, [.ref trace, .int parted, .int vkk, .int vkd, .int vmm])), (trace, .inr (1, [.ref trace_q, .int trace_m])), (trace_q, .inl (xI G, 30, .inl trace_f))] s.heap := hP
  have hl := lv_entry ([.ref t, .int nu, .int ab, .int x, .int de]) (n := 5) (Nat.le_of_ble_eq_true rfl)
  rw [lg_entry_eq]
  generalize (lg_sl ([.ref t, .int nu, .int ab, .int x, .int de]) ++ List.replicate (5 - (lg_sl ([.ref t, .int nu, .int ab, .int x, .int de])).length) Slot.unset).toArray = ls at hl ⊢
  have hl : lv_has ls 5 [(0, .ref t), (1, .int nu), (2, .int ab), (3, .int x), (4, .int de)] := hl
  generalize hQ : MQ below _ _ s _ _ _ = Q
  refine xGo (A := A) hP (fun H locs hP hS => ?_)
  unfold F_X4_lower at hF
  refine lv_iload_n hx hb dX4_lower_0 rfl (lv_at hl 1 rfl) ?_
  by_cases c1_0 : nu = (20 : Int32)
  · have hF := itP c1_0 hF
    refine lv_lookup (off := 75) (tgt := 76) hx hb dX4_lower_1 (by decide) (by rw [c1_0]; rfl) (by decide) ?_
    refine lv_aload_n hx hb dX4_lower_76 rfl (lv_at hl 0 rfl) ?_
    refine lv_iload_n hx hb dX4_lower_77 rfl (lv_at hl 2 rfl) ?_
    refine lv_iconst (v := 0) hx hb dX4_lower_78 (by decide) ?_
    refine lv_iload_n hx hb dX4_lower_79 rfl (lv_at hl 3 rfl) ?_
    refine lv_iload hx hb dX4_lower_80 (lv_at hl 4 rfl) ?_
    obtain ⟨u1, e1, hF⟩ := bdS hF
    refine xEndI (xRunV (As := [.int ab, .int (0 : Int32), .int x, .int de]) (rest := []) hZ (h_speak t trace trace_q parted vkk vkd vmm trace_m trace_f ab (0 : Int32) x de u1 e1 l H.size) m916 m917 m918 m35 m919 4 ⟨rfl, hdX4_speak⟩ ⟨by show fd + 0 + 1 ≤ fd + 1; omega, by show 8 + (7 + 11) + (ld + 0) ≤ ld + 26; omega⟩ ⟨rfl, rfl⟩ hP hD hS 0 4 rfl rfl rfl [0, 1, 2] rfl rfl rfl hl.1 rfl (Nat.le_of_ble_eq_true rfl) dX4_lower_82 ⟨Nat.zero_le _, Nat.zero_le _⟩) hP hD hS hA [0, 1, 2] rfl rfl rfl (fun H locs n1 hP hD hS => ?_)
    have hP : va_P G.1 vwCl [(t, .inr (4, [.ref trace, .int u1.2.1, .int vkk, .int vkd, .int vmm])), (trace, .inr (1, [.ref trace_q, .int u1.2.2.1])), (trace_q, .inl (xI G, 30, .inl u1.2.2.2))] H := hP
    have hD : va_D A [(t, .inr (4, [.ref trace, .int u1.2.1, .int vkk, .int vkd, .int vmm])), (trace, .inr (1, [.ref trace_q, .int u1.2.2.1])), (trace_q, .inl (xI G, 30, .inl u1.2.2.2))] := hD
    refine lv_iconst (v := 4) hx hb dX4_lower_85 (by decide) ?_
    refine lv_isub hx hb dX4_lower_86 ?_
    obtain rfl := Option.some.inj hF
    rw [← hQ]
    exact W.iret (v := (u1.1 - (4 : Int32))) hx hb hr (fun t ht hW => ⟨⟨_, (), rfl, ⟨rfl, rfl⟩, xLf hP ht⟩, hS.F ht⟩) hS.2.2 dX4_lower_87
  · have hF := itN c1_0 hF
    by_cases c1_1 : nu = (21 : Int32)
    · have hF := itP c1_1 hF
      refine lv_lookup (off := 87) (tgt := 88) hx hb dX4_lower_1 (by decide) (by rw [c1_1]; rfl) (by decide) ?_
      refine lv_aload_n hx hb dX4_lower_88 rfl (lv_at hl 0 rfl) ?_
      refine lv_iload_n hx hb dX4_lower_89 rfl (lv_at hl 2 rfl) ?_
      refine lv_iconst (v := 3) hx hb dX4_lower_90 (by decide) ?_
      refine lv_iload_n hx hb dX4_lower_91 rfl (lv_at hl 3 rfl) ?_
      refine lv_iload hx hb dX4_lower_92 (lv_at hl 4 rfl) ?_
      obtain ⟨u1, e1, hF⟩ := bdS hF
      refine xEndI (xRunV (As := [.int ab, .int (3 : Int32), .int x, .int de]) (rest := []) hZ (h_speak t trace trace_q parted vkk vkd vmm trace_m trace_f ab (3 : Int32) x de u1 e1 l H.size) m916 m917 m918 m35 m919 4 ⟨rfl, hdX4_speak⟩ ⟨by show fd + 0 + 1 ≤ fd + 1; omega, by show 8 + (7 + 11) + (ld + 0) ≤ ld + 26; omega⟩ ⟨rfl, rfl⟩ hP hD hS 0 4 rfl rfl rfl [0, 1, 2] rfl rfl rfl hl.1 rfl (Nat.le_of_ble_eq_true rfl) dX4_lower_94 ⟨Nat.zero_le _, Nat.zero_le _⟩) hP hD hS hA [0, 1, 2] rfl rfl rfl (fun H locs n1 hP hD hS => ?_)
      have hP : va_P G.1 vwCl [(t, .inr (4, [.ref trace, .int u1.2.1, .int vkk, .int vkd, .int vmm])), (trace, .inr (1, [.ref trace_q, .int u1.2.2.1])), (trace_q, .inl (xI G, 30, .inl u1.2.2.2))] H := hP
      have hD : va_D A [(t, .inr (4, [.ref trace, .int u1.2.1, .int vkk, .int vkd, .int vmm])), (trace, .inr (1, [.ref trace_q, .int u1.2.2.1])), (trace_q, .inl (xI G, 30, .inl u1.2.2.2))] := hD
      refine lv_aload_n hx hb dX4_lower_97 rfl (lv_at hl 0 rfl) ?_
      refine lv_aload_n hx hb dX4_lower_98 rfl (lv_at hl 0 rfl) ?_
      refine va_get (ci := 4) (v := .int vkd) (C := RX4) (T := TX4) (N := 5) hx hb hts (fun w h => tcons w (xin4 w h)) hown hK hP 0 rfl rfl 3 (by decide) (hts _ (tcons _ m111)) (fun _ h9 => h9) rfl dX4_lower_99 ?_
      refine lv_iconst (v := 1) hx hb dX4_lower_102 (by decide) ?_
      refine lv_iconst (v := 1) hx hb dX4_lower_103 (by decide) ?_
      refine lv_iload hx hb dX4_lower_104 (lv_at hl 4 rfl) ?_
      obtain ⟨u2, e2, hF⟩ := bdS hF
      refine xEndI (xRunV (As := [.int vkd, .int (1 : Int32), .int (1 : Int32), .int de]) (rest := [.int u1.1]) hZ (h_speak t trace trace_q u1.2.1 vkk vkd vmm u1.2.2.1 u1.2.2.2 vkd (1 : Int32) (1 : Int32) de u2 e2 l H.size) m916 m917 m918 m35 m919 4 ⟨rfl, hdX4_speak⟩ ⟨by show fd + 0 + 1 ≤ fd + 1; omega, by show 8 + (7 + 11) + (ld + 0) ≤ ld + 26; omega⟩ ⟨rfl, rfl⟩ hP hD hS 0 4 rfl rfl rfl [0, 1, 2] rfl rfl rfl hl.1 rfl (Nat.le_of_ble_eq_true rfl) dX4_lower_106 ⟨Nat.zero_le _, Nat.zero_le _⟩) hP hD hS hA [0, 1, 2] rfl rfl rfl (fun H locs n2 hP hD hS => ?_)
      have hP : va_P G.1 vwCl [(t, .inr (4, [.ref trace, .int u2.2.1, .int vkk, .int vkd, .int vmm])), (trace, .inr (1, [.ref trace_q, .int u2.2.2.1])), (trace_q, .inl (xI G, 30, .inl u2.2.2.2))] H := hP
      have hD : va_D A [(t, .inr (4, [.ref trace, .int u2.2.1, .int vkk, .int vkd, .int vmm])), (trace, .inr (1, [.ref trace_q, .int u2.2.2.1])), (trace_q, .inl (xI G, 30, .inl u2.2.2.2))] := hD
      refine lv_iadd hx hb dX4_lower_109 ?_
      obtain rfl := Option.some.inj hF
      rw [← hQ]
      exact W.iret (v := (u1.1 + u2.1)) hx hb hr (fun t ht hW => ⟨⟨_, (), rfl, ⟨rfl, rfl⟩, xLf hP ht⟩, hS.F ht⟩) hS.2.2 dX4_lower_110
    · have hF := itN c1_1 hF
      by_cases c1_2 : nu = (30 : Int32)
      · have hF := itP c1_2 hF
        refine lv_lookup (off := 110) (tgt := 111) hx hb dX4_lower_1 (by decide) (by rw [c1_2]; rfl) (by decide) ?_
        refine lv_iconst (v := 0) hx hb dX4_lower_111 (by decide) ?_
        refine lv_aload_n hx hb dX4_lower_112 rfl (lv_at hl 0 rfl) ?_
        refine lv_iload_n hx hb dX4_lower_113 rfl (lv_at hl 2 rfl) ?_
        refine lv_iconst (v := 1) hx hb dX4_lower_114 (by decide) ?_
        refine lv_iload_n hx hb dX4_lower_115 rfl (lv_at hl 3 rfl) ?_
        refine lv_iload hx hb dX4_lower_116 (lv_at hl 4 rfl) ?_
        obtain ⟨u1, e1, hF⟩ := bdS hF
        refine xEndI (xRunV (As := [.int ab, .int (1 : Int32), .int x, .int de]) (rest := [.int (0 : Int32)]) hZ (h_speak t trace trace_q parted vkk vkd vmm trace_m trace_f ab (1 : Int32) x de u1 e1 l H.size) m916 m917 m918 m35 m919 4 ⟨rfl, hdX4_speak⟩ ⟨by show fd + 0 + 1 ≤ fd + 1; omega, by show 8 + (7 + 11) + (ld + 0) ≤ ld + 26; omega⟩ ⟨rfl, rfl⟩ hP hD hS 0 4 rfl rfl rfl [0, 1, 2] rfl rfl rfl hl.1 rfl (Nat.le_of_ble_eq_true rfl) dX4_lower_118 ⟨Nat.zero_le _, Nat.zero_le _⟩) hP hD hS hA [0, 1, 2] rfl rfl rfl (fun H locs n1 hP hD hS => ?_)
        have hP : va_P G.1 vwCl [(t, .inr (4, [.ref trace, .int u1.2.1, .int vkk, .int vkd, .int vmm])), (trace, .inr (1, [.ref trace_q, .int u1.2.2.1])), (trace_q, .inl (xI G, 30, .inl u1.2.2.2))] H := hP
        have hD : va_D A [(t, .inr (4, [.ref trace, .int u1.2.1, .int vkk, .int vkd, .int vmm])), (trace, .inr (1, [.ref trace_q, .int u1.2.2.1])), (trace_q, .inl (xI G, 30, .inl u1.2.2.2))] := hD
        refine lv_isub hx hb dX4_lower_121 ?_
        obtain rfl := Option.some.inj hF
        rw [← hQ]
        exact W.iret (v := ((0 : Int32) - u1.1)) hx hb hr (fun t ht hW => ⟨⟨_, (), rfl, ⟨rfl, rfl⟩, xLf hP ht⟩, hS.F ht⟩) hS.2.2 dX4_lower_122
      · have hF := itN c1_2 hF
        by_cases c1_3 : nu = (40 : Int32)
        · have hF := itP c1_3 hF
          refine lv_lookup (off := 122) (tgt := 123) hx hb dX4_lower_1 (by decide) (by rw [c1_3]; rfl) (by decide) ?_
          refine lv_aload_n hx hb dX4_lower_123 rfl (lv_at hl 0 rfl) ?_
          refine lv_iload_n hx hb dX4_lower_124 rfl (lv_at hl 2 rfl) ?_
          refine lv_iconst (v := 2) hx hb dX4_lower_125 (by decide) ?_
          refine lv_iload_n hx hb dX4_lower_126 rfl (lv_at hl 3 rfl) ?_
          refine lv_iconst (v := 2) hx hb dX4_lower_127 (by decide) ?_
          refine lv_idiv hx hb dX4_lower_128 (by decide) ?_
          refine lv_iload hx hb dX4_lower_129 (lv_at hl 4 rfl) ?_
          obtain ⟨u1, e1, hF⟩ := bdS hF
          refine xEndI (xRunV (As := [.int ab, .int (2 : Int32), .int (x / (2 : Int32)), .int de]) (rest := []) hZ (h_speak t trace trace_q parted vkk vkd vmm trace_m trace_f ab (2 : Int32) (x / (2 : Int32)) de u1 e1 l H.size) m916 m917 m918 m35 m919 4 ⟨rfl, hdX4_speak⟩ ⟨by show fd + 0 + 1 ≤ fd + 1; omega, by show 8 + (7 + 11) + (ld + 0) ≤ ld + 26; omega⟩ ⟨rfl, rfl⟩ hP hD hS 0 4 rfl rfl rfl [0, 1, 2] rfl rfl rfl hl.1 rfl (Nat.le_of_ble_eq_true rfl) dX4_lower_131 ⟨Nat.zero_le _, Nat.zero_le _⟩) hP hD hS hA [0, 1, 2] rfl rfl rfl (fun H locs n1 hP hD hS => ?_)
          have hP : va_P G.1 vwCl [(t, .inr (4, [.ref trace, .int u1.2.1, .int vkk, .int vkd, .int vmm])), (trace, .inr (1, [.ref trace_q, .int u1.2.2.1])), (trace_q, .inl (xI G, 30, .inl u1.2.2.2))] H := hP
          have hD : va_D A [(t, .inr (4, [.ref trace, .int u1.2.1, .int vkk, .int vkd, .int vmm])), (trace, .inr (1, [.ref trace_q, .int u1.2.2.1])), (trace_q, .inl (xI G, 30, .inl u1.2.2.2))] := hD
          obtain rfl := Option.some.inj hF
          rw [← hQ]
          exact W.iret (v := u1.1) hx hb hr (fun t ht hW => ⟨⟨_, (), rfl, ⟨rfl, rfl⟩, xLf hP ht⟩, hS.F ht⟩) hS.2.2 dX4_lower_134
        · have hF := itN c1_3 hF
          by_cases c1_4 : nu = (50 : Int32)
          · have hF := itP c1_4 hF
            refine lv_lookup (off := 134) (tgt := 135) hx hb dX4_lower_1 (by decide) (by rw [c1_4]; rfl) (by decide) ?_
            refine lv_aload_n hx hb dX4_lower_135 rfl (lv_at hl 0 rfl) ?_
            refine lv_iload_n hx hb dX4_lower_136 rfl (lv_at hl 2 rfl) ?_
            refine lv_iconst (v := 0) hx hb dX4_lower_137 (by decide) ?_
            refine lv_iload_n hx hb dX4_lower_138 rfl (lv_at hl 3 rfl) ?_
            refine lv_iload hx hb dX4_lower_139 (lv_at hl 4 rfl) ?_
            obtain ⟨u1, e1, hF⟩ := bdS hF
            refine xEndI (xRunV (As := [.int ab, .int (0 : Int32), .int x, .int de]) (rest := []) hZ (h_speak t trace trace_q parted vkk vkd vmm trace_m trace_f ab (0 : Int32) x de u1 e1 l H.size) m916 m917 m918 m35 m919 4 ⟨rfl, hdX4_speak⟩ ⟨by show fd + 0 + 1 ≤ fd + 1; omega, by show 8 + (7 + 11) + (ld + 0) ≤ ld + 26; omega⟩ ⟨rfl, rfl⟩ hP hD hS 0 4 rfl rfl rfl [0, 1, 2] rfl rfl rfl hl.1 rfl (Nat.le_of_ble_eq_true rfl) dX4_lower_141 ⟨Nat.zero_le _, Nat.zero_le _⟩) hP hD hS hA [0, 1, 2] rfl rfl rfl (fun H locs n1 hP hD hS => ?_)
            have hP : va_P G.1 vwCl [(t, .inr (4, [.ref trace, .int u1.2.1, .int vkk, .int vkd, .int vmm])), (trace, .inr (1, [.ref trace_q, .int u1.2.2.1])), (trace_q, .inl (xI G, 30, .inl u1.2.2.2))] H := hP
            have hD : va_D A [(t, .inr (4, [.ref trace, .int u1.2.1, .int vkk, .int vkd, .int vmm])), (trace, .inr (1, [.ref trace_q, .int u1.2.2.1])), (trace_q, .inl (xI G, 30, .inl u1.2.2.2))] := hD
            refine lv_iconst (v := 3) hx hb dX4_lower_144 (by decide) ?_
            refine lv_imul hx hb dX4_lower_145 ?_
            obtain rfl := Option.some.inj hF
            rw [← hQ]
            exact W.iret (v := (u1.1 * (3 : Int32))) hx hb hr (fun t ht hW => ⟨⟨_, (), rfl, ⟨rfl, rfl⟩, xLf hP ht⟩, hS.F ht⟩) hS.2.2 dX4_lower_146
          · have hF := itN c1_4 hF
            by_cases c1_5 : nu = (51 : Int32)
            · have hF := itP c1_5 hF
              refine lv_lookup (off := 146) (tgt := 147) hx hb dX4_lower_1 (by decide) (by rw [c1_5]; rfl) (by decide) ?_
              refine lv_aload_n hx hb dX4_lower_147 rfl (lv_at hl 0 rfl) ?_
              refine lv_iload_n hx hb dX4_lower_148 rfl (lv_at hl 2 rfl) ?_
              refine lv_iconst (v := 2) hx hb dX4_lower_149 (by decide) ?_
              refine lv_iload_n hx hb dX4_lower_150 rfl (lv_at hl 3 rfl) ?_
              refine lv_iload hx hb dX4_lower_151 (lv_at hl 4 rfl) ?_
              obtain ⟨u1, e1, hF⟩ := bdS hF
              refine xEndI (xRunV (As := [.int ab, .int (2 : Int32), .int x, .int de]) (rest := []) hZ (h_speak t trace trace_q parted vkk vkd vmm trace_m trace_f ab (2 : Int32) x de u1 e1 l H.size) m916 m917 m918 m35 m919 4 ⟨rfl, hdX4_speak⟩ ⟨by show fd + 0 + 1 ≤ fd + 1; omega, by show 8 + (7 + 11) + (ld + 0) ≤ ld + 26; omega⟩ ⟨rfl, rfl⟩ hP hD hS 0 4 rfl rfl rfl [0, 1, 2] rfl rfl rfl hl.1 rfl (Nat.le_of_ble_eq_true rfl) dX4_lower_153 ⟨Nat.zero_le _, Nat.zero_le _⟩) hP hD hS hA [0, 1, 2] rfl rfl rfl (fun H locs n1 hP hD hS => ?_)
              have hP : va_P G.1 vwCl [(t, .inr (4, [.ref trace, .int u1.2.1, .int vkk, .int vkd, .int vmm])), (trace, .inr (1, [.ref trace_q, .int u1.2.2.1])), (trace_q, .inl (xI G, 30, .inl u1.2.2.2))] H := hP
              have hD : va_D A [(t, .inr (4, [.ref trace, .int u1.2.1, .int vkk, .int vkd, .int vmm])), (trace, .inr (1, [.ref trace_q, .int u1.2.2.1])), (trace_q, .inl (xI G, 30, .inl u1.2.2.2))] := hD
              refine lv_aload_n hx hb dX4_lower_156 rfl (lv_at hl 0 rfl) ?_
              refine va_get (ci := 4) (v := .int vkk) (C := RX4) (T := TX4) (N := 5) hx hb hts (fun w h => tcons w (xin4 w h)) hown hK hP 0 rfl rfl 2 (by decide) (hts _ (tcons _ m110)) (fun _ h9 => h9) rfl dX4_lower_157 ?_
              refine lv_ixor hx hb dX4_lower_160 ?_
              obtain rfl := Option.some.inj hF
              rw [← hQ]
              exact W.iret (v := (u1.1 ^^^ vkk)) hx hb hr (fun t ht hW => ⟨⟨_, (), rfl, ⟨rfl, rfl⟩, xLf hP ht⟩, hS.F ht⟩) hS.2.2 dX4_lower_161
            · have hF := itN c1_5 hF
              by_cases c1_6 : nu = (60 : Int32)
              · have hF := itP c1_6 hF
                refine lv_lookup (off := 161) (tgt := 162) hx hb dX4_lower_1 (by decide) (by rw [c1_6]; rfl) (by decide) ?_
                refine lv_aload_n hx hb dX4_lower_162 rfl (lv_at hl 0 rfl) ?_
                refine lv_iload_n hx hb dX4_lower_163 rfl (lv_at hl 2 rfl) ?_
                refine lv_iconst (v := 1) hx hb dX4_lower_164 (by decide) ?_
                refine lv_iload_n hx hb dX4_lower_165 rfl (lv_at hl 3 rfl) ?_
                refine lv_iconst (v := 1) hx hb dX4_lower_166 (by decide) ?_
                refine lv_iadd hx hb dX4_lower_167 ?_
                refine lv_iload hx hb dX4_lower_168 (lv_at hl 4 rfl) ?_
                obtain ⟨u1, e1, hF⟩ := bdS hF
                refine xEndI (xRunV (As := [.int ab, .int (1 : Int32), .int (x + (1 : Int32)), .int de]) (rest := []) hZ (h_speak t trace trace_q parted vkk vkd vmm trace_m trace_f ab (1 : Int32) (x + (1 : Int32)) de u1 e1 l H.size) m916 m917 m918 m35 m919 4 ⟨rfl, hdX4_speak⟩ ⟨by show fd + 0 + 1 ≤ fd + 1; omega, by show 8 + (7 + 11) + (ld + 0) ≤ ld + 26; omega⟩ ⟨rfl, rfl⟩ hP hD hS 0 4 rfl rfl rfl [0, 1, 2] rfl rfl rfl hl.1 rfl (Nat.le_of_ble_eq_true rfl) dX4_lower_170 ⟨Nat.zero_le _, Nat.zero_le _⟩) hP hD hS hA [0, 1, 2] rfl rfl rfl (fun H locs n1 hP hD hS => ?_)
                have hP : va_P G.1 vwCl [(t, .inr (4, [.ref trace, .int u1.2.1, .int vkk, .int vkd, .int vmm])), (trace, .inr (1, [.ref trace_q, .int u1.2.2.1])), (trace_q, .inl (xI G, 30, .inl u1.2.2.2))] H := hP
                have hD : va_D A [(t, .inr (4, [.ref trace, .int u1.2.1, .int vkk, .int vkd, .int vmm])), (trace, .inr (1, [.ref trace_q, .int u1.2.2.1])), (trace_q, .inl (xI G, 30, .inl u1.2.2.2))] := hD
                obtain rfl := Option.some.inj hF
                rw [← hQ]
                exact W.iret (v := u1.1) hx hb hr (fun t ht hW => ⟨⟨_, (), rfl, ⟨rfl, rfl⟩, xLf hP ht⟩, hS.F ht⟩) hS.2.2 dX4_lower_173
              · have hF := itN c1_6 hF
                by_cases c1_7 : nu = (70 : Int32)
                · have hF := itP c1_7 hF
                  refine lv_lookup (off := 173) (tgt := 174) hx hb dX4_lower_1 (by decide) (by rw [c1_7]; rfl) (by decide) ?_
                  refine lv_bipush (v := 9) hx hb dX4_lower_174 (by decide) ?_
                  obtain rfl := Option.some.inj hF
                  rw [← hQ]
                  exact W.iret (v := (9 : Int32)) hx hb hr (fun t ht hW => ⟨⟨_, (), rfl, ⟨rfl, rfl⟩, xLf hP ht⟩, hS.F ht⟩) hS.2.2 dX4_lower_176
                · have hF := itN c1_7 hF
                  refine lv_lookup (off := 176) (tgt := 177) hx hb dX4_lower_1 (by decide) (by have h0 : nu.toInt ≠ 20 := xNe c1_0; have h1 : nu.toInt ≠ 21 := xNe c1_1; have h2 : nu.toInt ≠ 30 := xNe c1_2; have h3 : nu.toInt ≠ 40 := xNe c1_3; have h4 : nu.toInt ≠ 50 := xNe c1_4; have h5 : nu.toInt ≠ 51 := xNe c1_5; have h6 : nu.toInt ≠ 60 := xNe c1_6; have h7 : nu.toInt ≠ 70 := xNe c1_7; show Op.lookupswitch.offset [(20, 75), (21, 87), (30, 110), (40, 122), (50, 134), (51, 146), (60, 161), (70, 173)] 176 nu.toInt = 176; rw [Op.lookupswitch.offset_cons, if_neg (Ne.symm h0), Op.lookupswitch.offset_cons, if_neg (Ne.symm h1), Op.lookupswitch.offset_cons, if_neg (Ne.symm h2), Op.lookupswitch.offset_cons, if_neg (Ne.symm h3), Op.lookupswitch.offset_cons, if_neg (Ne.symm h4), Op.lookupswitch.offset_cons, if_neg (Ne.symm h5), Op.lookupswitch.offset_cons, if_neg (Ne.symm h6), Op.lookupswitch.offset_cons, if_neg (Ne.symm h7)]; rfl) (by decide) ?_
                  refine lv_aload_n hx hb dX4_lower_177 rfl (lv_at hl 0 rfl) ?_
                  refine lv_iload_n hx hb dX4_lower_178 rfl (lv_at hl 2 rfl) ?_
                  refine lv_iconst (v := 1) hx hb dX4_lower_179 (by decide) ?_
                  refine lv_iload_n hx hb dX4_lower_180 rfl (lv_at hl 3 rfl) ?_
                  refine lv_iload hx hb dX4_lower_181 (lv_at hl 4 rfl) ?_
                  obtain ⟨u1, e1, hF⟩ := bdS hF
                  refine xEndI (xRunV (As := [.int ab, .int (1 : Int32), .int x, .int de]) (rest := []) hZ (h_speak t trace trace_q parted vkk vkd vmm trace_m trace_f ab (1 : Int32) x de u1 e1 l H.size) m916 m917 m918 m35 m919 4 ⟨rfl, hdX4_speak⟩ ⟨by show fd + 0 + 1 ≤ fd + 1; omega, by show 8 + (7 + 11) + (ld + 0) ≤ ld + 26; omega⟩ ⟨rfl, rfl⟩ hP hD hS 0 4 rfl rfl rfl [0, 1, 2] rfl rfl rfl hl.1 rfl (Nat.le_of_ble_eq_true rfl) dX4_lower_183 ⟨Nat.zero_le _, Nat.zero_le _⟩) hP hD hS hA [0, 1, 2] rfl rfl rfl (fun H locs n1 hP hD hS => ?_)
                  have hP : va_P G.1 vwCl [(t, .inr (4, [.ref trace, .int u1.2.1, .int vkk, .int vkd, .int vmm])), (trace, .inr (1, [.ref trace_q, .int u1.2.2.1])), (trace_q, .inl (xI G, 30, .inl u1.2.2.2))] H := hP
                  have hD : va_D A [(t, .inr (4, [.ref trace, .int u1.2.1, .int vkk, .int vkd, .int vmm])), (trace, .inr (1, [.ref trace_q, .int u1.2.2.1])), (trace_q, .inl (xI G, 30, .inl u1.2.2.2))] := hD
                  refine lv_aload_n hx hb dX4_lower_186 rfl (lv_at hl 0 rfl) ?_
                  refine va_get (ci := 4) (v := .int vmm) (C := RX4) (T := TX4) (N := 5) hx hb hts (fun w h => tcons w (xin4 w h)) hown hK hP 0 rfl rfl 4 (by decide) (hts _ (tcons _ m112)) (fun _ h9 => h9) rfl dX4_lower_187 ?_
                  refine lv_iadd hx hb dX4_lower_190 ?_
                  obtain rfl := Option.some.inj hF
                  rw [← hQ]
                  exact W.iret (v := (u1.1 + vmm)) hx hb hr (fun t ht hW => ⟨⟨_, (), rfl, ⟨rfl, rfl⟩, xLf hP ht⟩, hS.F ht⟩) hS.2.2 dX4_lower_191
def B_X4_speak_6 (parted : Int32) (vkk : Int32) (vkd : Int32) (vmm : Int32) (trace_m : Int32) (trace_f : Nat → Int32) (vo : Int32) (x : Int32) (de : Int32) (R_speak : Int32 → Int32 → Int32 → Int32 → Int32 → (Nat → Int32) → Int32 → Int32 → Int32 → Int32 → Option (Int32 × Int32 × Int32 × (Nat → Int32))) (k6 : (Int32 × Int32) → Option (Int32 × Int32 × Int32 × (Nat → Int32))) (v6 : (Int32 × Int32)) : Option (Int32 × Int32 × Int32 × (Nat → Int32)) := if (7 : Int32) ≤ v6.2 then (bd (F_X4_bodyOf v6.1 vo) (fun (u1 : Int32) => if parted = 0 then (if u1 = 0 then (some ((0 : Int32), parted, trace_m, trace_f)) else (if de ≤ (40 : Int32) then (bd (F_X1_add 30 trace_m trace_f u1) (fun (u2 : (Int32 × (Nat → Int32))) => if (20 : Int32) ≤ u1 then (bd (F_X7_kindAbove v6.1) (fun (u3 : Int32) => bd (F_X4_lower R_speak parted vkk vkd vmm u2.1 u2.2 u1 u3 x (de + (1 : Int32))) (fun (u4 : (Int32 × Int32 × Int32 × (Nat → Int32))) => some (u4.1, u4.2.1, u4.2.2.1, u4.2.2.2)))) else (bd (F_X4_topmost R_speak parted vkk vkd vmm u2.1 u2.2 u1 x (de + (1 : Int32))) (fun (u3 : (Int32 × Int32 × Int32 × (Nat → Int32))) => some (u3.1, u3.2.1, u3.2.2.1, u3.2.2.2))))) else (some ((0 : Int32), parted, trace_m, trace_f)))) else (some ((0 : Int32), parted, trace_m, trace_f)))) else (if v6.1 < 0 then (bd (F_X4_bodyOf v6.1 vo) (fun (u1 : Int32) => if parted = 0 then (if u1 = 0 then (some ((0 : Int32), parted, trace_m, trace_f)) else (if de ≤ (40 : Int32) then (bd (F_X1_add 30 trace_m trace_f u1) (fun (u2 : (Int32 × (Nat → Int32))) => if (20 : Int32) ≤ u1 then (bd (F_X7_kindAbove v6.1) (fun (u3 : Int32) => bd (F_X4_lower R_speak parted vkk vkd vmm u2.1 u2.2 u1 u3 x (de + (1 : Int32))) (fun (u4 : (Int32 × Int32 × Int32 × (Nat → Int32))) => some (u4.1, u4.2.1, u4.2.2.1, u4.2.2.2)))) else (bd (F_X4_topmost R_speak parted vkk vkd vmm u2.1 u2.2 u1 x (de + (1 : Int32))) (fun (u3 : (Int32 × Int32 × Int32 × (Nat → Int32))) => some (u3.1, u3.2.1, u3.2.2.1, u3.2.2.2))))) else (some ((0 : Int32), parted, trace_m, trace_f)))) else (some ((0 : Int32), parted, trace_m, trace_f)))) else (bd (F_X4_bodyOf v6.1 vo) (fun (u1 : Int32) => if u1 = 0 then (bd (F_X7_kindAbove v6.1) (fun (u2 : Int32) => k6 (u2, (v6.2 + (1 : Int32))))) else (bd (F_X4_bodyOf v6.1 vo) (fun (u2 : Int32) => if parted = 0 then (if u2 = 0 then (some ((0 : Int32), parted, trace_m, trace_f)) else (if de ≤ (40 : Int32) then (bd (F_X1_add 30 trace_m trace_f u2) (fun (u3 : (Int32 × (Nat → Int32))) => if (20 : Int32) ≤ u2 then (bd (F_X7_kindAbove v6.1) (fun (u4 : Int32) => bd (F_X4_lower R_speak parted vkk vkd vmm u3.1 u3.2 u2 u4 x (de + (1 : Int32))) (fun (u5 : (Int32 × Int32 × Int32 × (Nat → Int32))) => some (u5.1, u5.2.1, u5.2.2.1, u5.2.2.2)))) else (bd (F_X4_topmost R_speak parted vkk vkd vmm u3.1 u3.2 u2 x (de + (1 : Int32))) (fun (u4 : (Int32 × Int32 × Int32 × (Nat → Int32))) => some (u4.1, u4.2.1, u4.2.2.1, u4.2.2.2))))) else (some ((0 : Int32), parted, trace_m, trace_f)))) else (some ((0 : Int32), parted, trace_m, trace_f)))))))
def F_X4_speak (R_speak : Int32 → Int32 → Int32 → Int32 → Int32 → (Nat → Int32) → Int32 → Int32 → Int32 → Int32 → Option (Int32 × Int32 × Int32 × (Nat → Int32))) (parted : Int32) (vkk : Int32) (vkd : Int32) (vmm : Int32) (trace_m : Int32) (trace_f : Nat → Int32) (from_ : Int32) (vo : Int32) (x : Int32) (de : Int32) : Option (Int32 × Int32 × Int32 × (Nat → Int32)) := lp (B_X4_speak_6 parted vkk vkd vmm trace_m trace_f vo x de R_speak) fuelC (from_, (0 : Int32))
set_option maxHeartbeats 4000000 in
set_option maxRecDepth 100000 in
theorem c_X4_speak (G : xG) (fd ld : Nat) (R_speak : Int32 → Int32 → Int32 → Int32 → Int32 → (Nat → Int32) → Int32 → Int32 → Int32 → Int32 → Option (Int32 × Int32 × Int32 × (Nat → Int32))) (h_speak : ∀ (t : Nat) (trace : Nat) (trace_q : Nat) (parted : Int32) (vkk : Int32) (vkd : Int32) (vmm : Int32) (trace_m : Int32) (trace_f : Nat → Int32) (from_ : Int32) (vo : Int32) (x : Int32) (de : Int32) (u : (Int32 × Int32 × Int32 × (Nat → Int32))) (hF : R_speak parted vkk vkd vmm trace_m trace_f from_ vo x de = some u), Ki G .int yX4_speak (Cond.code yX4_speak cX4_speak 7 (some .int) :: TBL) { frames := fd, cells := 0, slots := 0, locals := ld } [.ref t, .int from_, .int vo, .int x, .int de] [(t, .inr (4, [.ref trace, .int parted, .int vkk, .int vkd, .int vmm])), (trace, .inr (1, [.ref trace_q, .int trace_m])), (trace_q, .inl (xI G, 30, .inl trace_f))] [(t, .inr (4, [.ref trace, .int u.2.1, .int vkk, .int vkd, .int vmm])), (trace, .inr (1, [.ref trace_q, .int u.2.2.1])), (trace_q, .inl (xI G, 30, .inl u.2.2.2))] u.1) (t : Nat) (trace : Nat) (trace_q : Nat) (parted : Int32) (vkk : Int32) (vkd : Int32) (vmm : Int32) (trace_m : Int32) (trace_f : Nat → Int32) (from_ : Int32) (vo : Int32) (x : Int32) (de : Int32)  (u : (Int32 × Int32 × Int32 × (Nat → Int32))) (hF : F_X4_speak R_speak parted vkk vkd vmm trace_m trace_f from_ vo x de = some u) : Ki G .int yX4_speak (Cond.code yX4_speak cX4_speak 7 (some .int) :: TBL) { frames := fd + 2, cells := 0, slots := 0, locals := ld + 50 } [.ref t, .int from_, .int vo, .int x, .int de] [(t, .inr (4, [.ref trace, .int parted, .int vkk, .int vkd, .int vmm])), (trace, .inr (1, [.ref trace_q, .int trace_m])), (trace_q, .inl (xI G, 30, .inl trace_f))] [(t, .inr (4, [.ref trace, .int u.2.1, .int vkk, .int vkd, .int vmm])), (trace, .inr (1, [.ref trace_q, .int u.2.2.1])), (trace_q, .inl (xI G, 30, .inl u.2.2.2))] u.1 := by
  intro l sz
  refine Met.ofW (cc := cX4_speak) (maxL := 7) (ret := (some .int)) (by decide) rfl ?_
  intro p e s m args below meth c s₁ B hml hv
  obtain ⟨rfl, hsz, hP, hD0, hm⟩ := hv
  have hx := B.exec
  have hb := B.bytes
  have hr := B.returns
  have hts := atoms_spec (ws := Cond.code yX4_speak cX4_speak 7 (some .int) :: TBL) B.pre
  have hown : s.vm.findClass RX4 = some m.cls := findClass_of_methodNamed B.named
  have hlocks := B.notSynchronized
  subst hsz
  have hD := hD0.self (sz := s.heap.size)
  generalize hAe : va_A [(t, .inr (4, [.ref trace, .int parted, .int vkk, .int vkd, .int vmm])), (trace, .inr (1, [.ref trace_q, .int trace_m])), (trace_q, .inl (xI G, 30, .inl trace_f))] s.heap.size = A at hD hm ⊢
  have hA : ∀ q : Nat, s.heap.size ≤ q → A q := fun q h => by rw [← hAe]; exact Or.inr h
  have hK := hm.1
  have hZ : xAnd p m c cX4_speak 7 s _ (Cond.code yX4_speak cX4_speak 7 (some .int) :: TBL) RX4 G A := ⟨⟨hx, hb, hml, hown, hts⟩, tcons, hA, hm⟩
  have hP : va_P G.1 vwCl [(t, .inr (4, [.ref trace, .int parted, .int vkk, .int vkd, .int vmm])), (trace, .inr (1, [.ref trace_q, .int trace_m])), (trace_q, .inl (xI G, 30, .inl trace_f))] s.heap := hP
  have hl := lv_entry ([.ref t, .int from_, .int vo, .int x, .int de]) (n := 7) (Nat.le_of_ble_eq_true rfl)
  rw [lg_entry_eq]
  generalize (lg_sl ([.ref t, .int from_, .int vo, .int x, .int de]) ++ List.replicate (7 - (lg_sl ([.ref t, .int from_, .int vo, .int x, .int de])).length) Slot.unset).toArray = ls at hl ⊢
  have hl : lv_has ls 7 [(0, .ref t), (1, .int from_), (2, .int vo), (3, .int x), (4, .int de)] := hl
  generalize hQ : MQ below _ _ s _ _ _ = Q
  refine xGo (A := A) hP (fun H locs hP hS => ?_)
  unfold F_X4_speak at hF
  refine lv_iload_n hx hb dX4_speak_0 rfl (lv_at hl 1 rfl) ?_
  refine lv_istore (lv' := [(5, .int from_), (0, .ref t), (1, .int from_), (2, .int vo), (3, .int x), (4, .int de)]) hx hb dX4_speak_1 hl (by decide) rfl (fun ls hl => ?_)
  refine lv_iconst (v := 0) hx hb dX4_speak_3 (by decide) ?_
  refine lv_istore (lv' := [(6, .int (0 : Int32)), (5, .int from_), (0, .ref t), (1, .int from_), (2, .int vo), (3, .int x), (4, .int de)]) hx hb dX4_speak_4 hl (by decide) rfl (fun ls hl => ?_)
  refine xLoop2 (body := (B_X4_speak_6 parted vkk vkd vmm trace_m trace_f vo x de R_speak)) (fun (v6_0 : Int32) (v6_1 : Int32) H locs ls => va_P G.1 vwCl [(t, .inr (4, [.ref trace, .int parted, .int vkk, .int vkd, .int vmm])), (trace, .inr (1, [.ref trace_q, .int trace_m])), (trace_q, .inl (xI G, 30, .inl trace_f))] H ∧ va_D A [(t, .inr (4, [.ref trace, .int parted, .int vkk, .int vkd, .int vmm])), (trace, .inr (1, [.ref trace_q, .int trace_m])), (trace_q, .inl (xI G, 30, .inl trace_f))] ∧ va_S A s.heap H locs ∧ lv_has ls 7 [(0, .ref t), (1, .int from_), (2, .int vo), (3, .int x), (4, .int de), (5, .int v6_0), (6, .int v6_1)]) (fun N6 v6_0 v6_1 ih6 H locs ls hI hF => ?_) fuelC from_ (0 : Int32) H locs ls ⟨hP, hD, hS, lv_sub hl [2, 3, 4, 5, 6, 1, 0] rfl⟩ hF
  obtain ⟨hP, hD, hS, hl⟩ := hI
  unfold B_X4_speak_6 at hF
  refine lv_iload hx hb dX4_speak_6 (lv_at hl 6 rfl) ?_
  refine lv_bipush (v := 7) hx hb dX4_speak_8 (by decide) ?_
  refine lv_icmp_ge (tgt := 40) hx hb dX4_speak_10 (by decide) (fun c10 => ?_) (fun c10 => ?_)
  · have hF := itP c10 hF
    refine lv_iload hx hb dX4_speak_40 (lv_at hl 5 rfl) ?_
    refine lv_iload_n hx hb dX4_speak_42 rfl (lv_at hl 2 rfl) ?_
    obtain ⟨u1, e1, hF⟩ := bdS hF
    refine xEndI (xRunS (As := [.int v6_0, .int vo]) (rest := []) hZ (c_X4_bodyOf G v6_0 vo u1 e1 l H.size) m920 m921 m35 m922 2 hdX4_bodyOf ⟨by show 1 + 1 ≤ fd + 2; omega, by show 8 + (3 + 11) + (22) ≤ ld + 50; omega⟩ ⟨rfl, rfl⟩ hP hD hS [] rfl rfl rfl hl.1 rfl (Nat.le_of_ble_eq_true rfl) dX4_speak_43 ⟨Nat.zero_le _, Nat.zero_le _⟩) hP hD hS hA [] rfl rfl rfl (fun H locs n1 hP hD hS => ?_)
    have hP : va_P G.1 vwCl [(t, .inr (4, [.ref trace, .int parted, .int vkk, .int vkd, .int vmm])), (trace, .inr (1, [.ref trace_q, .int trace_m])), (trace_q, .inl (xI G, 30, .inl trace_f))] H := hP
    have hD : va_D A [(t, .inr (4, [.ref trace, .int parted, .int vkk, .int vkd, .int vmm])), (trace, .inr (1, [.ref trace_q, .int trace_m])), (trace_q, .inl (xI G, 30, .inl trace_f))] := hD
    refine lv_istore (lv' := [(6, .int u1), (0, .ref t), (1, .int from_), (2, .int vo), (3, .int x), (4, .int de), (5, .int v6_0)]) hx hb dX4_speak_46 hl (by decide) rfl (fun ls hl => ?_)
    refine lv_aload_n hx hb dX4_speak_48 rfl (lv_at hl 1 rfl) ?_
    refine va_get (ci := 4) (v := .int parted) (C := RX4) (T := TX4) (N := 5) hx hb hts (fun w h => tcons w (xin4 w h)) hown hK hP 0 rfl rfl 1 (by decide) (hts _ (tcons _ m109)) (fun _ h9 => h9) rfl dX4_speak_49 ?_
    refine lv_if_ne (tgt := 67) hx hb dX4_speak_52 (by decide) (fun c52 => ?_) (fun c52 => ?_)
    · have hF := itN c52 hF
      refine lv_iconst (v := 0) hx hb dX4_speak_67 (by decide) ?_
      obtain rfl := Option.some.inj hF
      rw [← hQ]
      exact W.iret (v := (0 : Int32)) hx hb hr (fun t ht hW => ⟨⟨_, (), rfl, ⟨rfl, rfl⟩, xLf hP ht⟩, hS.F ht⟩) hS.2.2 dX4_speak_68
    · have hF := itP c52 hF
      refine lv_iload hx hb dX4_speak_55 (lv_at hl 0 rfl) ?_
      refine lv_if_eq (tgt := 67) hx hb dX4_speak_57 (by decide) (fun c57 => ?_) (fun c57 => ?_)
      · have hF := itP c57 hF
        refine lv_iconst (v := 0) hx hb dX4_speak_67 (by decide) ?_
        obtain rfl := Option.some.inj hF
        rw [← hQ]
        exact W.iret (v := (0 : Int32)) hx hb hr (fun t ht hW => ⟨⟨_, (), rfl, ⟨rfl, rfl⟩, xLf hP ht⟩, hS.F ht⟩) hS.2.2 dX4_speak_68
      · have hF := itN c57 hF
        refine lv_iload hx hb dX4_speak_60 (lv_at hl 5 rfl) ?_
        refine lv_bipush (v := 40) hx hb dX4_speak_62 (by decide) ?_
        refine lv_icmp_le (tgt := 69) hx hb dX4_speak_64 (by decide) (fun c64 => ?_) (fun c64 => ?_)
        · have hF := itP c64 hF
          refine lv_aload_n hx hb dX4_speak_69 rfl (lv_at hl 1 rfl) ?_
          refine va_get (ci := 4) (v := .ref trace) (C := RX4) (T := TX4) (N := 5) hx hb hts (fun w h => tcons w (xin4 w h)) hown hK hP 0 rfl rfl 0 (by decide) (hts _ (tcons _ m108)) (fun _ h9 => h9) rfl dX4_speak_70 ?_
          refine lv_iload hx hb dX4_speak_73 (lv_at hl 0 rfl) ?_
          obtain ⟨u2, e2, hF⟩ := bdS hF
          refine xEndV (xRunV (As := [.int u1]) (rest := []) hZ (c_X1_add G trace trace_q 30 trace_m trace_f u1 u2 e2 l H.size) m923 m178 m179 m49 m180 1 ⟨rfl, hdX1_add⟩ ⟨by show 0 + 1 ≤ fd + 2; omega, by show 8 + (2 + 11) + (0) ≤ ld + 50; omega⟩ ⟨rfl, rfl⟩ hP hD hS 1 1 rfl rfl rfl [1, 2] rfl rfl rfl hl.1 rfl (Nat.le_of_ble_eq_true rfl) dX4_speak_75 ⟨Nat.zero_le _, Nat.zero_le _⟩) hP hD hS hA [1, 2] rfl rfl rfl (fun H locs hP hD hS => ?_)
          have hP : va_P G.1 vwCl [(t, .inr (4, [.ref trace, .int parted, .int vkk, .int vkd, .int vmm])), (trace, .inr (1, [.ref trace_q, .int u2.1])), (trace_q, .inl (xI G, 30, .inl u2.2))] H := hP
          have hD : va_D A [(t, .inr (4, [.ref trace, .int parted, .int vkk, .int vkd, .int vmm])), (trace, .inr (1, [.ref trace_q, .int u2.1])), (trace_q, .inl (xI G, 30, .inl u2.2))] := hD
          refine lv_iload hx hb dX4_speak_78 (lv_at hl 0 rfl) ?_
          refine lv_bipush (v := 20) hx hb dX4_speak_80 (by decide) ?_
          refine lv_icmp_ge (tgt := 99) hx hb dX4_speak_82 (by decide) (fun c82 => ?_) (fun c82 => ?_)
          · have hF := itP c82 hF
            refine lv_aload_n hx hb dX4_speak_99 rfl (lv_at hl 1 rfl) ?_
            refine lv_iload hx hb dX4_speak_100 (lv_at hl 0 rfl) ?_
            refine lv_iload hx hb dX4_speak_102 (lv_at hl 6 rfl) ?_
            obtain ⟨u3, e3, hF⟩ := bdS hF
            refine xEndI (xRunN (As := [.int v6_0]) (rest := [.int u1, .ref t]) hZ (c_X7_kindAbove G v6_0 u3 e3 l H.size) hm.2.1.2.2.2.2.2.1 m363 m2 m364 1 hdX7_kindAbove ⟨by show 1 + 1 ≤ fd + 2; omega, by show 8 + (1 + 11) + (22) ≤ ld + 50; omega⟩ ⟨rfl, rfl⟩ hP hD hS [] rfl rfl rfl hl.1 rfl (Nat.le_of_ble_eq_true rfl) dX4_speak_104 ⟨Nat.zero_le _, Nat.zero_le _⟩) hP hD hS hA [] rfl rfl rfl (fun H locs n3 hP hD hS => ?_)
            have hP : va_P G.1 vwCl [(t, .inr (4, [.ref trace, .int parted, .int vkk, .int vkd, .int vmm])), (trace, .inr (1, [.ref trace_q, .int u2.1])), (trace_q, .inl (xI G, 30, .inl u2.2))] H := hP
            have hD : va_D A [(t, .inr (4, [.ref trace, .int parted, .int vkk, .int vkd, .int vmm])), (trace, .inr (1, [.ref trace_q, .int u2.1])), (trace_q, .inl (xI G, 30, .inl u2.2))] := hD
            refine lv_iload_n hx hb dX4_speak_107 rfl (lv_at hl 4 rfl) ?_
            refine lv_iload hx hb dX4_speak_108 (lv_at hl 5 rfl) ?_
            refine lv_iconst (v := 1) hx hb dX4_speak_110 (by decide) ?_
            refine lv_iadd hx hb dX4_speak_111 ?_
            obtain ⟨u4, e4, hF⟩ := bdS hF
            refine xEndI (xRunV (As := [.int u1, .int u3, .int x, .int (de + (1 : Int32))]) (rest := []) hZ (c_X4_lower G fd ld R_speak h_speak t trace trace_q parted vkk vkd vmm u2.1 u2.2 u1 u3 x (de + (1 : Int32)) u4 e4 l H.size) m927 m928 m929 m35 m930 4 ⟨rfl, hdX4_lower⟩ ⟨by show fd + 1 + 1 ≤ fd + 2; omega, by show 8 + (5 + 11) + (ld + 26) ≤ ld + 50; omega⟩ ⟨rfl, rfl⟩ hP hD hS 0 4 rfl rfl rfl [0, 1, 2] rfl rfl rfl hl.1 rfl (Nat.le_of_ble_eq_true rfl) dX4_speak_112 ⟨Nat.zero_le _, Nat.zero_le _⟩) hP hD hS hA [0, 1, 2] rfl rfl rfl (fun H locs n4 hP hD hS => ?_)
            have hP : va_P G.1 vwCl [(t, .inr (4, [.ref trace, .int u4.2.1, .int vkk, .int vkd, .int vmm])), (trace, .inr (1, [.ref trace_q, .int u4.2.2.1])), (trace_q, .inl (xI G, 30, .inl u4.2.2.2))] H := hP
            have hD : va_D A [(t, .inr (4, [.ref trace, .int u4.2.1, .int vkk, .int vkd, .int vmm])), (trace, .inr (1, [.ref trace_q, .int u4.2.2.1])), (trace_q, .inl (xI G, 30, .inl u4.2.2.2))] := hD
            obtain rfl := Option.some.inj hF
            rw [← hQ]
            exact W.iret (v := u4.1) hx hb hr (fun t ht hW => ⟨⟨_, (), rfl, ⟨rfl, rfl⟩, xLf hP ht⟩, hS.F ht⟩) hS.2.2 dX4_speak_115
          · have hF := itN c82 hF
            refine lv_aload_n hx hb dX4_speak_85 rfl (lv_at hl 1 rfl) ?_
            refine lv_iload hx hb dX4_speak_86 (lv_at hl 0 rfl) ?_
            refine lv_iload_n hx hb dX4_speak_88 rfl (lv_at hl 4 rfl) ?_
            refine lv_iload hx hb dX4_speak_89 (lv_at hl 5 rfl) ?_
            refine lv_iconst (v := 1) hx hb dX4_speak_91 (by decide) ?_
            refine lv_iadd hx hb dX4_speak_92 ?_
            obtain ⟨u3, e3, hF⟩ := bdS hF
            refine xEndI (xRunV (As := [.int u1, .int x, .int (de + (1 : Int32))]) (rest := []) hZ (c_X4_topmost G fd ld R_speak h_speak t trace trace_q parted vkk vkd vmm u2.1 u2.2 u1 x (de + (1 : Int32)) u3 e3 l H.size) m924 m925 m926 m35 m931 3 ⟨rfl, hdX4_topmost⟩ ⟨by show fd + 1 + 1 ≤ fd + 2; omega, by show 8 + (4 + 11) + (ld + 26) ≤ ld + 50; omega⟩ ⟨rfl, rfl⟩ hP hD hS 0 4 rfl rfl rfl [0, 1, 2] rfl rfl rfl hl.1 rfl (Nat.le_of_ble_eq_true rfl) dX4_speak_93 ⟨Nat.zero_le _, Nat.zero_le _⟩) hP hD hS hA [0, 1, 2] rfl rfl rfl (fun H locs n3 hP hD hS => ?_)
            have hP : va_P G.1 vwCl [(t, .inr (4, [.ref trace, .int u3.2.1, .int vkk, .int vkd, .int vmm])), (trace, .inr (1, [.ref trace_q, .int u3.2.2.1])), (trace_q, .inl (xI G, 30, .inl u3.2.2.2))] H := hP
            have hD : va_D A [(t, .inr (4, [.ref trace, .int u3.2.1, .int vkk, .int vkd, .int vmm])), (trace, .inr (1, [.ref trace_q, .int u3.2.2.1])), (trace_q, .inl (xI G, 30, .inl u3.2.2.2))] := hD
            refine lv_goto (tgt := 115) hx hb dX4_speak_96 (by decide) ?_
            obtain rfl := Option.some.inj hF
            rw [← hQ]
            exact W.iret (v := u3.1) hx hb hr (fun t ht hW => ⟨⟨_, (), rfl, ⟨rfl, rfl⟩, xLf hP ht⟩, hS.F ht⟩) hS.2.2 dX4_speak_115
        · have hF := itN c64 hF
          refine lv_iconst (v := 0) hx hb dX4_speak_67 (by decide) ?_
          obtain rfl := Option.some.inj hF
          rw [← hQ]
          exact W.iret (v := (0 : Int32)) hx hb hr (fun t ht hW => ⟨⟨_, (), rfl, ⟨rfl, rfl⟩, xLf hP ht⟩, hS.F ht⟩) hS.2.2 dX4_speak_68
  · have hF := itN c10 hF
    refine lv_iload hx hb dX4_speak_13 (lv_at hl 5 rfl) ?_
    refine lv_if_lt (tgt := 40) hx hb dX4_speak_15 (by decide) (fun c15 => ?_) (fun c15 => ?_)
    · have hF := itP c15 hF
      refine lv_iload hx hb dX4_speak_40 (lv_at hl 5 rfl) ?_
      refine lv_iload_n hx hb dX4_speak_42 rfl (lv_at hl 2 rfl) ?_
      obtain ⟨u1, e1, hF⟩ := bdS hF
      refine xEndI (xRunS (As := [.int v6_0, .int vo]) (rest := []) hZ (c_X4_bodyOf G v6_0 vo u1 e1 l H.size) m920 m921 m35 m922 2 hdX4_bodyOf ⟨by show 1 + 1 ≤ fd + 2; omega, by show 8 + (3 + 11) + (22) ≤ ld + 50; omega⟩ ⟨rfl, rfl⟩ hP hD hS [] rfl rfl rfl hl.1 rfl (Nat.le_of_ble_eq_true rfl) dX4_speak_43 ⟨Nat.zero_le _, Nat.zero_le _⟩) hP hD hS hA [] rfl rfl rfl (fun H locs n1 hP hD hS => ?_)
      have hP : va_P G.1 vwCl [(t, .inr (4, [.ref trace, .int parted, .int vkk, .int vkd, .int vmm])), (trace, .inr (1, [.ref trace_q, .int trace_m])), (trace_q, .inl (xI G, 30, .inl trace_f))] H := hP
      have hD : va_D A [(t, .inr (4, [.ref trace, .int parted, .int vkk, .int vkd, .int vmm])), (trace, .inr (1, [.ref trace_q, .int trace_m])), (trace_q, .inl (xI G, 30, .inl trace_f))] := hD
      refine lv_istore (lv' := [(6, .int u1), (0, .ref t), (1, .int from_), (2, .int vo), (3, .int x), (4, .int de), (5, .int v6_0)]) hx hb dX4_speak_46 hl (by decide) rfl (fun ls hl => ?_)
      refine lv_aload_n hx hb dX4_speak_48 rfl (lv_at hl 1 rfl) ?_
      refine va_get (ci := 4) (v := .int parted) (C := RX4) (T := TX4) (N := 5) hx hb hts (fun w h => tcons w (xin4 w h)) hown hK hP 0 rfl rfl 1 (by decide) (hts _ (tcons _ m109)) (fun _ h9 => h9) rfl dX4_speak_49 ?_
      refine lv_if_ne (tgt := 67) hx hb dX4_speak_52 (by decide) (fun c52 => ?_) (fun c52 => ?_)
      · have hF := itN c52 hF
        refine lv_iconst (v := 0) hx hb dX4_speak_67 (by decide) ?_
        obtain rfl := Option.some.inj hF
        rw [← hQ]
        exact W.iret (v := (0 : Int32)) hx hb hr (fun t ht hW => ⟨⟨_, (), rfl, ⟨rfl, rfl⟩, xLf hP ht⟩, hS.F ht⟩) hS.2.2 dX4_speak_68
      · have hF := itP c52 hF
        refine lv_iload hx hb dX4_speak_55 (lv_at hl 0 rfl) ?_
        refine lv_if_eq (tgt := 67) hx hb dX4_speak_57 (by decide) (fun c57 => ?_) (fun c57 => ?_)
        · have hF := itP c57 hF
          refine lv_iconst (v := 0) hx hb dX4_speak_67 (by decide) ?_
          obtain rfl := Option.some.inj hF
          rw [← hQ]
          exact W.iret (v := (0 : Int32)) hx hb hr (fun t ht hW => ⟨⟨_, (), rfl, ⟨rfl, rfl⟩, xLf hP ht⟩, hS.F ht⟩) hS.2.2 dX4_speak_68
        · have hF := itN c57 hF
          refine lv_iload hx hb dX4_speak_60 (lv_at hl 5 rfl) ?_
          refine lv_bipush (v := 40) hx hb dX4_speak_62 (by decide) ?_
          refine lv_icmp_le (tgt := 69) hx hb dX4_speak_64 (by decide) (fun c64 => ?_) (fun c64 => ?_)
          · have hF := itP c64 hF
            refine lv_aload_n hx hb dX4_speak_69 rfl (lv_at hl 1 rfl) ?_
            refine va_get (ci := 4) (v := .ref trace) (C := RX4) (T := TX4) (N := 5) hx hb hts (fun w h => tcons w (xin4 w h)) hown hK hP 0 rfl rfl 0 (by decide) (hts _ (tcons _ m108)) (fun _ h9 => h9) rfl dX4_speak_70 ?_
            refine lv_iload hx hb dX4_speak_73 (lv_at hl 0 rfl) ?_
            obtain ⟨u2, e2, hF⟩ := bdS hF
            refine xEndV (xRunV (As := [.int u1]) (rest := []) hZ (c_X1_add G trace trace_q 30 trace_m trace_f u1 u2 e2 l H.size) m923 m178 m179 m49 m180 1 ⟨rfl, hdX1_add⟩ ⟨by show 0 + 1 ≤ fd + 2; omega, by show 8 + (2 + 11) + (0) ≤ ld + 50; omega⟩ ⟨rfl, rfl⟩ hP hD hS 1 1 rfl rfl rfl [1, 2] rfl rfl rfl hl.1 rfl (Nat.le_of_ble_eq_true rfl) dX4_speak_75 ⟨Nat.zero_le _, Nat.zero_le _⟩) hP hD hS hA [1, 2] rfl rfl rfl (fun H locs hP hD hS => ?_)
            have hP : va_P G.1 vwCl [(t, .inr (4, [.ref trace, .int parted, .int vkk, .int vkd, .int vmm])), (trace, .inr (1, [.ref trace_q, .int u2.1])), (trace_q, .inl (xI G, 30, .inl u2.2))] H := hP
            have hD : va_D A [(t, .inr (4, [.ref trace, .int parted, .int vkk, .int vkd, .int vmm])), (trace, .inr (1, [.ref trace_q, .int u2.1])), (trace_q, .inl (xI G, 30, .inl u2.2))] := hD
            refine lv_iload hx hb dX4_speak_78 (lv_at hl 0 rfl) ?_
            refine lv_bipush (v := 20) hx hb dX4_speak_80 (by decide) ?_
            refine lv_icmp_ge (tgt := 99) hx hb dX4_speak_82 (by decide) (fun c82 => ?_) (fun c82 => ?_)
            · have hF := itP c82 hF
              refine lv_aload_n hx hb dX4_speak_99 rfl (lv_at hl 1 rfl) ?_
              refine lv_iload hx hb dX4_speak_100 (lv_at hl 0 rfl) ?_
              refine lv_iload hx hb dX4_speak_102 (lv_at hl 6 rfl) ?_
              obtain ⟨u3, e3, hF⟩ := bdS hF
              refine xEndI (xRunN (As := [.int v6_0]) (rest := [.int u1, .ref t]) hZ (c_X7_kindAbove G v6_0 u3 e3 l H.size) hm.2.1.2.2.2.2.2.1 m363 m2 m364 1 hdX7_kindAbove ⟨by show 1 + 1 ≤ fd + 2; omega, by show 8 + (1 + 11) + (22) ≤ ld + 50; omega⟩ ⟨rfl, rfl⟩ hP hD hS [] rfl rfl rfl hl.1 rfl (Nat.le_of_ble_eq_true rfl) dX4_speak_104 ⟨Nat.zero_le _, Nat.zero_le _⟩) hP hD hS hA [] rfl rfl rfl (fun H locs n3 hP hD hS => ?_)
              have hP : va_P G.1 vwCl [(t, .inr (4, [.ref trace, .int parted, .int vkk, .int vkd, .int vmm])), (trace, .inr (1, [.ref trace_q, .int u2.1])), (trace_q, .inl (xI G, 30, .inl u2.2))] H := hP
              have hD : va_D A [(t, .inr (4, [.ref trace, .int parted, .int vkk, .int vkd, .int vmm])), (trace, .inr (1, [.ref trace_q, .int u2.1])), (trace_q, .inl (xI G, 30, .inl u2.2))] := hD
              refine lv_iload_n hx hb dX4_speak_107 rfl (lv_at hl 4 rfl) ?_
              refine lv_iload hx hb dX4_speak_108 (lv_at hl 5 rfl) ?_
              refine lv_iconst (v := 1) hx hb dX4_speak_110 (by decide) ?_
              refine lv_iadd hx hb dX4_speak_111 ?_
              obtain ⟨u4, e4, hF⟩ := bdS hF
              refine xEndI (xRunV (As := [.int u1, .int u3, .int x, .int (de + (1 : Int32))]) (rest := []) hZ (c_X4_lower G fd ld R_speak h_speak t trace trace_q parted vkk vkd vmm u2.1 u2.2 u1 u3 x (de + (1 : Int32)) u4 e4 l H.size) m927 m928 m929 m35 m930 4 ⟨rfl, hdX4_lower⟩ ⟨by show fd + 1 + 1 ≤ fd + 2; omega, by show 8 + (5 + 11) + (ld + 26) ≤ ld + 50; omega⟩ ⟨rfl, rfl⟩ hP hD hS 0 4 rfl rfl rfl [0, 1, 2] rfl rfl rfl hl.1 rfl (Nat.le_of_ble_eq_true rfl) dX4_speak_112 ⟨Nat.zero_le _, Nat.zero_le _⟩) hP hD hS hA [0, 1, 2] rfl rfl rfl (fun H locs n4 hP hD hS => ?_)
              have hP : va_P G.1 vwCl [(t, .inr (4, [.ref trace, .int u4.2.1, .int vkk, .int vkd, .int vmm])), (trace, .inr (1, [.ref trace_q, .int u4.2.2.1])), (trace_q, .inl (xI G, 30, .inl u4.2.2.2))] H := hP
              have hD : va_D A [(t, .inr (4, [.ref trace, .int u4.2.1, .int vkk, .int vkd, .int vmm])), (trace, .inr (1, [.ref trace_q, .int u4.2.2.1])), (trace_q, .inl (xI G, 30, .inl u4.2.2.2))] := hD
              obtain rfl := Option.some.inj hF
              rw [← hQ]
              exact W.iret (v := u4.1) hx hb hr (fun t ht hW => ⟨⟨_, (), rfl, ⟨rfl, rfl⟩, xLf hP ht⟩, hS.F ht⟩) hS.2.2 dX4_speak_115
            · have hF := itN c82 hF
              refine lv_aload_n hx hb dX4_speak_85 rfl (lv_at hl 1 rfl) ?_
              refine lv_iload hx hb dX4_speak_86 (lv_at hl 0 rfl) ?_
              refine lv_iload_n hx hb dX4_speak_88 rfl (lv_at hl 4 rfl) ?_
              refine lv_iload hx hb dX4_speak_89 (lv_at hl 5 rfl) ?_
              refine lv_iconst (v := 1) hx hb dX4_speak_91 (by decide) ?_
              refine lv_iadd hx hb dX4_speak_92 ?_
              obtain ⟨u3, e3, hF⟩ := bdS hF
              refine xEndI (xRunV (As := [.int u1, .int x, .int (de + (1 : Int32))]) (rest := []) hZ (c_X4_topmost G fd ld R_speak h_speak t trace trace_q parted vkk vkd vmm u2.1 u2.2 u1 x (de + (1 : Int32)) u3 e3 l H.size) m924 m925 m926 m35 m931 3 ⟨rfl, hdX4_topmost⟩ ⟨by show fd + 1 + 1 ≤ fd + 2; omega, by show 8 + (4 + 11) + (ld + 26) ≤ ld + 50; omega⟩ ⟨rfl, rfl⟩ hP hD hS 0 4 rfl rfl rfl [0, 1, 2] rfl rfl rfl hl.1 rfl (Nat.le_of_ble_eq_true rfl) dX4_speak_93 ⟨Nat.zero_le _, Nat.zero_le _⟩) hP hD hS hA [0, 1, 2] rfl rfl rfl (fun H locs n3 hP hD hS => ?_)
              have hP : va_P G.1 vwCl [(t, .inr (4, [.ref trace, .int u3.2.1, .int vkk, .int vkd, .int vmm])), (trace, .inr (1, [.ref trace_q, .int u3.2.2.1])), (trace_q, .inl (xI G, 30, .inl u3.2.2.2))] H := hP
              have hD : va_D A [(t, .inr (4, [.ref trace, .int u3.2.1, .int vkk, .int vkd, .int vmm])), (trace, .inr (1, [.ref trace_q, .int u3.2.2.1])), (trace_q, .inl (xI G, 30, .inl u3.2.2.2))] := hD
              refine lv_goto (tgt := 115) hx hb dX4_speak_96 (by decide) ?_
              obtain rfl := Option.some.inj hF
              rw [← hQ]
              exact W.iret (v := u3.1) hx hb hr (fun t ht hW => ⟨⟨_, (), rfl, ⟨rfl, rfl⟩, xLf hP ht⟩, hS.F ht⟩) hS.2.2 dX4_speak_115
          · have hF := itN c64 hF
            refine lv_iconst (v := 0) hx hb dX4_speak_67 (by decide) ?_
            obtain rfl := Option.some.inj hF
            rw [← hQ]
            exact W.iret (v := (0 : Int32)) hx hb hr (fun t ht hW => ⟨⟨_, (), rfl, ⟨rfl, rfl⟩, xLf hP ht⟩, hS.F ht⟩) hS.2.2 dX4_speak_68
    · have hF := itN c15 hF
      refine lv_iload hx hb dX4_speak_18 (lv_at hl 5 rfl) ?_
      refine lv_iload_n hx hb dX4_speak_20 rfl (lv_at hl 2 rfl) ?_
      obtain ⟨u1, e1, hF⟩ := bdS hF
      refine xEndI (xRunS (As := [.int v6_0, .int vo]) (rest := []) hZ (c_X4_bodyOf G v6_0 vo u1 e1 l H.size) m920 m921 m35 m922 2 hdX4_bodyOf ⟨by show 1 + 1 ≤ fd + 2; omega, by show 8 + (3 + 11) + (22) ≤ ld + 50; omega⟩ ⟨rfl, rfl⟩ hP hD hS [] rfl rfl rfl hl.1 rfl (Nat.le_of_ble_eq_true rfl) dX4_speak_21 ⟨Nat.zero_le _, Nat.zero_le _⟩) hP hD hS hA [] rfl rfl rfl (fun H locs n1 hP hD hS => ?_)
      have hP : va_P G.1 vwCl [(t, .inr (4, [.ref trace, .int parted, .int vkk, .int vkd, .int vmm])), (trace, .inr (1, [.ref trace_q, .int trace_m])), (trace_q, .inl (xI G, 30, .inl trace_f))] H := hP
      have hD : va_D A [(t, .inr (4, [.ref trace, .int parted, .int vkk, .int vkd, .int vmm])), (trace, .inr (1, [.ref trace_q, .int trace_m])), (trace_q, .inl (xI G, 30, .inl trace_f))] := hD
      refine lv_if_ne (tgt := 40) hx hb dX4_speak_24 (by decide) (fun c24 => ?_) (fun c24 => ?_)
      · have hF := itN c24 hF
        refine lv_iload hx hb dX4_speak_40 (lv_at hl 5 rfl) ?_
        refine lv_iload_n hx hb dX4_speak_42 rfl (lv_at hl 2 rfl) ?_
        obtain ⟨u2, e2, hF⟩ := bdS hF
        refine xEndI (xRunS (As := [.int v6_0, .int vo]) (rest := []) hZ (c_X4_bodyOf G v6_0 vo u2 e2 l H.size) m920 m921 m35 m922 2 hdX4_bodyOf ⟨by show 1 + 1 ≤ fd + 2; omega, by show 8 + (3 + 11) + (22) ≤ ld + 50; omega⟩ ⟨rfl, rfl⟩ hP hD hS [] rfl rfl rfl hl.1 rfl (Nat.le_of_ble_eq_true rfl) dX4_speak_43 ⟨Nat.zero_le _, Nat.zero_le _⟩) hP hD hS hA [] rfl rfl rfl (fun H locs n2 hP hD hS => ?_)
        have hP : va_P G.1 vwCl [(t, .inr (4, [.ref trace, .int parted, .int vkk, .int vkd, .int vmm])), (trace, .inr (1, [.ref trace_q, .int trace_m])), (trace_q, .inl (xI G, 30, .inl trace_f))] H := hP
        have hD : va_D A [(t, .inr (4, [.ref trace, .int parted, .int vkk, .int vkd, .int vmm])), (trace, .inr (1, [.ref trace_q, .int trace_m])), (trace_q, .inl (xI G, 30, .inl trace_f))] := hD
        refine lv_istore (lv' := [(6, .int u2), (0, .ref t), (1, .int from_), (2, .int vo), (3, .int x), (4, .int de), (5, .int v6_0)]) hx hb dX4_speak_46 hl (by decide) rfl (fun ls hl => ?_)
        refine lv_aload_n hx hb dX4_speak_48 rfl (lv_at hl 1 rfl) ?_
        refine va_get (ci := 4) (v := .int parted) (C := RX4) (T := TX4) (N := 5) hx hb hts (fun w h => tcons w (xin4 w h)) hown hK hP 0 rfl rfl 1 (by decide) (hts _ (tcons _ m109)) (fun _ h9 => h9) rfl dX4_speak_49 ?_
        refine lv_if_ne (tgt := 67) hx hb dX4_speak_52 (by decide) (fun c52 => ?_) (fun c52 => ?_)
        · have hF := itN c52 hF
          refine lv_iconst (v := 0) hx hb dX4_speak_67 (by decide) ?_
          obtain rfl := Option.some.inj hF
          rw [← hQ]
          exact W.iret (v := (0 : Int32)) hx hb hr (fun t ht hW => ⟨⟨_, (), rfl, ⟨rfl, rfl⟩, xLf hP ht⟩, hS.F ht⟩) hS.2.2 dX4_speak_68
        · have hF := itP c52 hF
          refine lv_iload hx hb dX4_speak_55 (lv_at hl 0 rfl) ?_
          refine lv_if_eq (tgt := 67) hx hb dX4_speak_57 (by decide) (fun c57 => ?_) (fun c57 => ?_)
          · have hF := itP c57 hF
            refine lv_iconst (v := 0) hx hb dX4_speak_67 (by decide) ?_
            obtain rfl := Option.some.inj hF
            rw [← hQ]
            exact W.iret (v := (0 : Int32)) hx hb hr (fun t ht hW => ⟨⟨_, (), rfl, ⟨rfl, rfl⟩, xLf hP ht⟩, hS.F ht⟩) hS.2.2 dX4_speak_68
          · have hF := itN c57 hF
            refine lv_iload hx hb dX4_speak_60 (lv_at hl 5 rfl) ?_
            refine lv_bipush (v := 40) hx hb dX4_speak_62 (by decide) ?_
            refine lv_icmp_le (tgt := 69) hx hb dX4_speak_64 (by decide) (fun c64 => ?_) (fun c64 => ?_)
            · have hF := itP c64 hF
              refine lv_aload_n hx hb dX4_speak_69 rfl (lv_at hl 1 rfl) ?_
              refine va_get (ci := 4) (v := .ref trace) (C := RX4) (T := TX4) (N := 5) hx hb hts (fun w h => tcons w (xin4 w h)) hown hK hP 0 rfl rfl 0 (by decide) (hts _ (tcons _ m108)) (fun _ h9 => h9) rfl dX4_speak_70 ?_
              refine lv_iload hx hb dX4_speak_73 (lv_at hl 0 rfl) ?_
              obtain ⟨u3, e3, hF⟩ := bdS hF
              refine xEndV (xRunV (As := [.int u2]) (rest := []) hZ (c_X1_add G trace trace_q 30 trace_m trace_f u2 u3 e3 l H.size) m923 m178 m179 m49 m180 1 ⟨rfl, hdX1_add⟩ ⟨by show 0 + 1 ≤ fd + 2; omega, by show 8 + (2 + 11) + (0) ≤ ld + 50; omega⟩ ⟨rfl, rfl⟩ hP hD hS 1 1 rfl rfl rfl [1, 2] rfl rfl rfl hl.1 rfl (Nat.le_of_ble_eq_true rfl) dX4_speak_75 ⟨Nat.zero_le _, Nat.zero_le _⟩) hP hD hS hA [1, 2] rfl rfl rfl (fun H locs hP hD hS => ?_)
              have hP : va_P G.1 vwCl [(t, .inr (4, [.ref trace, .int parted, .int vkk, .int vkd, .int vmm])), (trace, .inr (1, [.ref trace_q, .int u3.1])), (trace_q, .inl (xI G, 30, .inl u3.2))] H := hP
              have hD : va_D A [(t, .inr (4, [.ref trace, .int parted, .int vkk, .int vkd, .int vmm])), (trace, .inr (1, [.ref trace_q, .int u3.1])), (trace_q, .inl (xI G, 30, .inl u3.2))] := hD
              refine lv_iload hx hb dX4_speak_78 (lv_at hl 0 rfl) ?_
              refine lv_bipush (v := 20) hx hb dX4_speak_80 (by decide) ?_
              refine lv_icmp_ge (tgt := 99) hx hb dX4_speak_82 (by decide) (fun c82 => ?_) (fun c82 => ?_)
              · have hF := itP c82 hF
                refine lv_aload_n hx hb dX4_speak_99 rfl (lv_at hl 1 rfl) ?_
                refine lv_iload hx hb dX4_speak_100 (lv_at hl 0 rfl) ?_
                refine lv_iload hx hb dX4_speak_102 (lv_at hl 6 rfl) ?_
                obtain ⟨u4, e4, hF⟩ := bdS hF
                refine xEndI (xRunN (As := [.int v6_0]) (rest := [.int u2, .ref t]) hZ (c_X7_kindAbove G v6_0 u4 e4 l H.size) hm.2.1.2.2.2.2.2.1 m363 m2 m364 1 hdX7_kindAbove ⟨by show 1 + 1 ≤ fd + 2; omega, by show 8 + (1 + 11) + (22) ≤ ld + 50; omega⟩ ⟨rfl, rfl⟩ hP hD hS [] rfl rfl rfl hl.1 rfl (Nat.le_of_ble_eq_true rfl) dX4_speak_104 ⟨Nat.zero_le _, Nat.zero_le _⟩) hP hD hS hA [] rfl rfl rfl (fun H locs n4 hP hD hS => ?_)
                have hP : va_P G.1 vwCl [(t, .inr (4, [.ref trace, .int parted, .int vkk, .int vkd, .int vmm])), (trace, .inr (1, [.ref trace_q, .int u3.1])), (trace_q, .inl (xI G, 30, .inl u3.2))] H := hP
                have hD : va_D A [(t, .inr (4, [.ref trace, .int parted, .int vkk, .int vkd, .int vmm])), (trace, .inr (1, [.ref trace_q, .int u3.1])), (trace_q, .inl (xI G, 30, .inl u3.2))] := hD
                refine lv_iload_n hx hb dX4_speak_107 rfl (lv_at hl 4 rfl) ?_
                refine lv_iload hx hb dX4_speak_108 (lv_at hl 5 rfl) ?_
                refine lv_iconst (v := 1) hx hb dX4_speak_110 (by decide) ?_
                refine lv_iadd hx hb dX4_speak_111 ?_
                obtain ⟨u5, e5, hF⟩ := bdS hF
                refine xEndI (xRunV (As := [.int u2, .int u4, .int x, .int (de + (1 : Int32))]) (rest := []) hZ (c_X4_lower G fd ld R_speak h_speak t trace trace_q parted vkk vkd vmm u3.1 u3.2 u2 u4 x (de + (1 : Int32)) u5 e5 l H.size) m927 m928 m929 m35 m930 4 ⟨rfl, hdX4_lower⟩ ⟨by show fd + 1 + 1 ≤ fd + 2; omega, by show 8 + (5 + 11) + (ld + 26) ≤ ld + 50; omega⟩ ⟨rfl, rfl⟩ hP hD hS 0 4 rfl rfl rfl [0, 1, 2] rfl rfl rfl hl.1 rfl (Nat.le_of_ble_eq_true rfl) dX4_speak_112 ⟨Nat.zero_le _, Nat.zero_le _⟩) hP hD hS hA [0, 1, 2] rfl rfl rfl (fun H locs n5 hP hD hS => ?_)
                have hP : va_P G.1 vwCl [(t, .inr (4, [.ref trace, .int u5.2.1, .int vkk, .int vkd, .int vmm])), (trace, .inr (1, [.ref trace_q, .int u5.2.2.1])), (trace_q, .inl (xI G, 30, .inl u5.2.2.2))] H := hP
                have hD : va_D A [(t, .inr (4, [.ref trace, .int u5.2.1, .int vkk, .int vkd, .int vmm])), (trace, .inr (1, [.ref trace_q, .int u5.2.2.1])), (trace_q, .inl (xI G, 30, .inl u5.2.2.2))] := hD
                obtain rfl := Option.some.inj hF
                rw [← hQ]
                exact W.iret (v := u5.1) hx hb hr (fun t ht hW => ⟨⟨_, (), rfl, ⟨rfl, rfl⟩, xLf hP ht⟩, hS.F ht⟩) hS.2.2 dX4_speak_115
              · have hF := itN c82 hF
                refine lv_aload_n hx hb dX4_speak_85 rfl (lv_at hl 1 rfl) ?_
                refine lv_iload hx hb dX4_speak_86 (lv_at hl 0 rfl) ?_
                refine lv_iload_n hx hb dX4_speak_88 rfl (lv_at hl 4 rfl) ?_
                refine lv_iload hx hb dX4_speak_89 (lv_at hl 5 rfl) ?_
                refine lv_iconst (v := 1) hx hb dX4_speak_91 (by decide) ?_
                refine lv_iadd hx hb dX4_speak_92 ?_
                obtain ⟨u4, e4, hF⟩ := bdS hF
                refine xEndI (xRunV (As := [.int u2, .int x, .int (de + (1 : Int32))]) (rest := []) hZ (c_X4_topmost G fd ld R_speak h_speak t trace trace_q parted vkk vkd vmm u3.1 u3.2 u2 x (de + (1 : Int32)) u4 e4 l H.size) m924 m925 m926 m35 m931 3 ⟨rfl, hdX4_topmost⟩ ⟨by show fd + 1 + 1 ≤ fd + 2; omega, by show 8 + (4 + 11) + (ld + 26) ≤ ld + 50; omega⟩ ⟨rfl, rfl⟩ hP hD hS 0 4 rfl rfl rfl [0, 1, 2] rfl rfl rfl hl.1 rfl (Nat.le_of_ble_eq_true rfl) dX4_speak_93 ⟨Nat.zero_le _, Nat.zero_le _⟩) hP hD hS hA [0, 1, 2] rfl rfl rfl (fun H locs n4 hP hD hS => ?_)
                have hP : va_P G.1 vwCl [(t, .inr (4, [.ref trace, .int u4.2.1, .int vkk, .int vkd, .int vmm])), (trace, .inr (1, [.ref trace_q, .int u4.2.2.1])), (trace_q, .inl (xI G, 30, .inl u4.2.2.2))] H := hP
                have hD : va_D A [(t, .inr (4, [.ref trace, .int u4.2.1, .int vkk, .int vkd, .int vmm])), (trace, .inr (1, [.ref trace_q, .int u4.2.2.1])), (trace_q, .inl (xI G, 30, .inl u4.2.2.2))] := hD
                refine lv_goto (tgt := 115) hx hb dX4_speak_96 (by decide) ?_
                obtain rfl := Option.some.inj hF
                rw [← hQ]
                exact W.iret (v := u4.1) hx hb hr (fun t ht hW => ⟨⟨_, (), rfl, ⟨rfl, rfl⟩, xLf hP ht⟩, hS.F ht⟩) hS.2.2 dX4_speak_115
            · have hF := itN c64 hF
              refine lv_iconst (v := 0) hx hb dX4_speak_67 (by decide) ?_
              obtain rfl := Option.some.inj hF
              rw [← hQ]
              exact W.iret (v := (0 : Int32)) hx hb hr (fun t ht hW => ⟨⟨_, (), rfl, ⟨rfl, rfl⟩, xLf hP ht⟩, hS.F ht⟩) hS.2.2 dX4_speak_68
      · have hF := itP c24 hF
        refine lv_iload hx hb dX4_speak_27 (lv_at hl 5 rfl) ?_
        obtain ⟨u2, e2, hF⟩ := bdS hF
        refine xEndI (xRunN (As := [.int v6_0]) (rest := []) hZ (c_X7_kindAbove G v6_0 u2 e2 l H.size) hm.2.1.2.2.2.2.2.1 m363 m2 m364 1 hdX7_kindAbove ⟨by show 1 + 1 ≤ fd + 2; omega, by show 8 + (1 + 11) + (22) ≤ ld + 50; omega⟩ ⟨rfl, rfl⟩ hP hD hS [] rfl rfl rfl hl.1 rfl (Nat.le_of_ble_eq_true rfl) dX4_speak_29 ⟨Nat.zero_le _, Nat.zero_le _⟩) hP hD hS hA [] rfl rfl rfl (fun H locs n2 hP hD hS => ?_)
        have hP : va_P G.1 vwCl [(t, .inr (4, [.ref trace, .int parted, .int vkk, .int vkd, .int vmm])), (trace, .inr (1, [.ref trace_q, .int trace_m])), (trace_q, .inl (xI G, 30, .inl trace_f))] H := hP
        have hD : va_D A [(t, .inr (4, [.ref trace, .int parted, .int vkk, .int vkd, .int vmm])), (trace, .inr (1, [.ref trace_q, .int trace_m])), (trace_q, .inl (xI G, 30, .inl trace_f))] := hD
        refine lv_istore (lv' := [(5, .int u2), (0, .ref t), (1, .int from_), (2, .int vo), (3, .int x), (4, .int de), (6, .int v6_1)]) hx hb dX4_speak_32 hl (by decide) rfl (fun ls hl => ?_)
        refine lv_iinc (v := (v6_1 + (1 : Int32))) (lv' := [(6, .int (v6_1 + (1 : Int32))), (5, .int u2), (0, .ref t), (1, .int from_), (2, .int vo), (3, .int x), (4, .int de)]) hx hb dX4_speak_34 hl (k := 6) rfl (xInc_1 _) (by decide) rfl (fun ls hl => ?_)
        refine lv_goto (tgt := 6) hx hb dX4_speak_37 (by decide) ?_
        exact ih6 u2 (v6_1 + (1 : Int32)) H locs ls ⟨hP, hD, hS, lv_sub hl [2, 3, 4, 5, 6, 1, 0] rfl⟩ hF
def RS_speak : Nat → Int32 → Int32 → Int32 → Int32 → Int32 → (Nat → Int32) → Int32 → Int32 → Int32 → Int32 → Option (Int32 × Int32 × Int32 × (Nat → Int32))
  | 0 => fun _ _ _ _ _ _ _ _ _ _ => none
  | d + 1 => F_X4_speak (RS_speak d)
theorem cr_speak (G : xG) : ∀ (d : Nat) (t : Nat) (trace : Nat) (trace_q : Nat) (parted : Int32) (vkk : Int32) (vkd : Int32) (vmm : Int32) (trace_m : Int32) (trace_f : Nat → Int32) (from_ : Int32) (vo : Int32) (x : Int32) (de : Int32) (u : (Int32 × Int32 × Int32 × (Nat → Int32))) (hF : RS_speak d parted vkk vkd vmm trace_m trace_f from_ vo x de = some u), Ki G .int yX4_speak (Cond.code yX4_speak cX4_speak 7 (some .int) :: TBL) { frames := 2 * d, cells := 0, slots := 0, locals := 50 * d } [.ref t, .int from_, .int vo, .int x, .int de] [(t, .inr (4, [.ref trace, .int parted, .int vkk, .int vkd, .int vmm])), (trace, .inr (1, [.ref trace_q, .int trace_m])), (trace_q, .inl (xI G, 30, .inl trace_f))] [(t, .inr (4, [.ref trace, .int u.2.1, .int vkk, .int vkd, .int vmm])), (trace, .inr (1, [.ref trace_q, .int u.2.2.1])), (trace_q, .inl (xI G, 30, .inl u.2.2.2))] u.1
  | 0, _, _, _, _, _, _, _, _, _, _, _, _, _, _, hF => by cases hF
  | d + 1, z0, z1, z2, z3, z4, z5, z6, z7, z8, z9, z10, z11, z12, u, hF => c_X4_speak G (2 * d) (50 * d) (RS_speak d) (cr_speak G d) z0 z1 z2 z3 z4 z5 z6 z7 z8 z9 z10 z11 z12 u hF
theorem cz_speak (G : xG) (t : Nat) (trace : Nat) (trace_q : Nat) (parted : Int32) (vkk : Int32) (vkd : Int32) (vmm : Int32) (trace_m : Int32) (trace_f : Nat → Int32) (from_ : Int32) (vo : Int32) (x : Int32) (de : Int32) (u : (Int32 × Int32 × Int32 × (Nat → Int32))) (hF : RS_speak 14 parted vkk vkd vmm trace_m trace_f from_ vo x de = some u) : Ki G .int yX4_speak (Cond.code yX4_speak cX4_speak 7 (some .int) :: TBL) { frames := 28, cells := 0, slots := 0, locals := 700 } [.ref t, .int from_, .int vo, .int x, .int de] [(t, .inr (4, [.ref trace, .int parted, .int vkk, .int vkd, .int vmm])), (trace, .inr (1, [.ref trace_q, .int trace_m])), (trace_q, .inl (xI G, 30, .inl trace_f))] [(t, .inr (4, [.ref trace, .int u.2.1, .int vkk, .int vkd, .int vmm])), (trace, .inr (1, [.ref trace_q, .int u.2.2.1])), (trace_q, .inl (xI G, 30, .inl u.2.2.2))] u.1 := cr_speak G 14 t trace trace_q parted vkk vkd vmm trace_m trace_f from_ vo x de u hF
def F_X4_hear (trace_f : Nat → Int32) (nu : Int32) (ok : Int32) (om : Int32) (vo : Int32) (x : Int32) : Option (Int32 × Int32 × Int32 × Int32 × Int32 × Int32 × (Nat → Int32)) := bd (F_X1_clear) (fun (u1 : Int32) => bd (RS_speak 14 (0 : Int32) nu ok om u1 trace_f ok vo x (0 : Int32)) (fun (u2 : (Int32 × Int32 × Int32 × (Nat → Int32))) => some (u2.1, u2.2.1, nu, ok, om, u2.2.2.1, u2.2.2.2)))
theorem hdX4_hear : yX4_hear.cls ≠ "java/lang/invoke/MethodHandle" ∧ yX4_hear.cls ≠ "java/lang/invoke/VarHandle" ∧ (parseMethodDescriptor yX4_hear.desc).map (fun d => d.parameters.length) = some 5 := by decide +kernel
set_option maxHeartbeats 4000000 in
set_option maxRecDepth 100000 in
theorem c_X4_hear (G : xG) (t : Nat) (trace : Nat) (trace_q : Nat) (parted : Int32) (vkk : Int32) (vkd : Int32) (vmm : Int32) (trace_m : Int32) (trace_f : Nat → Int32) (nu : Int32) (ok : Int32) (om : Int32) (vo : Int32) (x : Int32)  (u : (Int32 × Int32 × Int32 × Int32 × Int32 × Int32 × (Nat → Int32))) (hF : F_X4_hear trace_f nu ok om vo x = some u) : Ki G .int yX4_hear (Cond.code yX4_hear cX4_hear 6 (some .int) :: TBL) { frames := 29, cells := 0, slots := 0, locals := 726 } [.ref t, .int nu, .int ok, .int om, .int vo, .int x] [(t, .inr (4, [.ref trace, .int parted, .int vkk, .int vkd, .int vmm])), (trace, .inr (1, [.ref trace_q, .int trace_m])), (trace_q, .inl (xI G, 30, .inl trace_f))] [(t, .inr (4, [.ref trace, .int u.2.1, .int u.2.2.1, .int u.2.2.2.1, .int u.2.2.2.2.1])), (trace, .inr (1, [.ref trace_q, .int u.2.2.2.2.2.1])), (trace_q, .inl (xI G, 30, .inl u.2.2.2.2.2.2))] u.1 := by
  intro l sz
  refine Met.ofW (cc := cX4_hear) (maxL := 6) (ret := (some .int)) (by decide) rfl ?_
  intro p e s m args below meth c s₁ B hml hv
  obtain ⟨rfl, hsz, hP, hD0, hm⟩ := hv
  have hx := B.exec
  have hb := B.bytes
  have hr := B.returns
  have hts := atoms_spec (ws := Cond.code yX4_hear cX4_hear 6 (some .int) :: TBL) B.pre
  have hown : s.vm.findClass RX4 = some m.cls := findClass_of_methodNamed B.named
  have hlocks := B.notSynchronized
  subst hsz
  have hD := hD0.self (sz := s.heap.size)
  generalize hAe : va_A [(t, .inr (4, [.ref trace, .int parted, .int vkk, .int vkd, .int vmm])), (trace, .inr (1, [.ref trace_q, .int trace_m])), (trace_q, .inl (xI G, 30, .inl trace_f))] s.heap.size = A at hD hm ⊢
  have hA : ∀ q : Nat, s.heap.size ≤ q → A q := fun q h => by rw [← hAe]; exact Or.inr h
  have hK := hm.1
  have hZ : xAnd p m c cX4_hear 6 s _ (Cond.code yX4_hear cX4_hear 6 (some .int) :: TBL) RX4 G A := ⟨⟨hx, hb, hml, hown, hts⟩, tcons, hA, hm⟩
  have hP : va_P G.1 vwCl [(t, .inr (4, [.ref trace, .int parted, .int vkk, .int vkd, .int vmm])), (trace, .inr (1, [.ref trace_q, .int trace_m])), (trace_q, .inl (xI G, 30, .inl trace_f))] s.heap := hP
  have hl := lv_entry ([.ref t, .int nu, .int ok, .int om, .int vo, .int x]) (n := 6) (Nat.le_of_ble_eq_true rfl)
  rw [lg_entry_eq]
  generalize (lg_sl ([.ref t, .int nu, .int ok, .int om, .int vo, .int x]) ++ List.replicate (6 - (lg_sl ([.ref t, .int nu, .int ok, .int om, .int vo, .int x])).length) Slot.unset).toArray = ls at hl ⊢
  have hl : lv_has ls 6 [(0, .ref t), (1, .int nu), (2, .int ok), (3, .int om), (4, .int vo), (5, .int x)] := hl
  generalize hQ : MQ below _ _ s _ _ _ = Q
  refine xGo (A := A) hP (fun H locs hP hS => ?_)
  unfold F_X4_hear at hF
  refine lv_aload_n hx hb dX4_hear_0 rfl (lv_at hl 0 rfl) ?_
  refine lv_iload_n hx hb dX4_hear_1 rfl (lv_at hl 1 rfl) ?_
  refine va_put (ci := 4) (v := .int nu) (ty := .int) (C := RX4) (T := TX4) (N := 5) hx hb hts (fun w h => tcons w (xin4 w h)) tyX4 tyX4_ok nmX4 hown hK hP hD hS 0 rfl rfl 2 (by decide) (hts _ (tcons _ m110)) (fun _ h9 => h9) rfl (by decide +kernel) rfl rfl (Nat.le_of_ble_eq_true rfl) dX4_hear_2 (fun H locs hP hD hS => ?_)
  have hP : va_P G.1 vwCl [(t, .inr (4, [.ref trace, .int parted, .int nu, .int vkd, .int vmm])), (trace, .inr (1, [.ref trace_q, .int trace_m])), (trace_q, .inl (xI G, 30, .inl trace_f))] H := hP
  have hD : va_D A [(t, .inr (4, [.ref trace, .int parted, .int nu, .int vkd, .int vmm])), (trace, .inr (1, [.ref trace_q, .int trace_m])), (trace_q, .inl (xI G, 30, .inl trace_f))] := hD
  refine lv_aload_n hx hb dX4_hear_5 rfl (lv_at hl 0 rfl) ?_
  refine lv_iload_n hx hb dX4_hear_6 rfl (lv_at hl 2 rfl) ?_
  refine va_put (ci := 4) (v := .int ok) (ty := .int) (C := RX4) (T := TX4) (N := 5) hx hb hts (fun w h => tcons w (xin4 w h)) tyX4 tyX4_ok nmX4 hown hK hP hD hS 0 rfl rfl 3 (by decide) (hts _ (tcons _ m111)) (fun _ h9 => h9) rfl (by decide +kernel) rfl rfl (Nat.le_of_ble_eq_true rfl) dX4_hear_7 (fun H locs hP hD hS => ?_)
  have hP : va_P G.1 vwCl [(t, .inr (4, [.ref trace, .int parted, .int nu, .int ok, .int vmm])), (trace, .inr (1, [.ref trace_q, .int trace_m])), (trace_q, .inl (xI G, 30, .inl trace_f))] H := hP
  have hD : va_D A [(t, .inr (4, [.ref trace, .int parted, .int nu, .int ok, .int vmm])), (trace, .inr (1, [.ref trace_q, .int trace_m])), (trace_q, .inl (xI G, 30, .inl trace_f))] := hD
  refine lv_aload_n hx hb dX4_hear_10 rfl (lv_at hl 0 rfl) ?_
  refine lv_iload_n hx hb dX4_hear_11 rfl (lv_at hl 3 rfl) ?_
  refine va_put (ci := 4) (v := .int om) (ty := .int) (C := RX4) (T := TX4) (N := 5) hx hb hts (fun w h => tcons w (xin4 w h)) tyX4 tyX4_ok nmX4 hown hK hP hD hS 0 rfl rfl 4 (by decide) (hts _ (tcons _ m112)) (fun _ h9 => h9) rfl (by decide +kernel) rfl rfl (Nat.le_of_ble_eq_true rfl) dX4_hear_12 (fun H locs hP hD hS => ?_)
  have hP : va_P G.1 vwCl [(t, .inr (4, [.ref trace, .int parted, .int nu, .int ok, .int om])), (trace, .inr (1, [.ref trace_q, .int trace_m])), (trace_q, .inl (xI G, 30, .inl trace_f))] H := hP
  have hD : va_D A [(t, .inr (4, [.ref trace, .int parted, .int nu, .int ok, .int om])), (trace, .inr (1, [.ref trace_q, .int trace_m])), (trace_q, .inl (xI G, 30, .inl trace_f))] := hD
  refine lv_aload_n hx hb dX4_hear_15 rfl (lv_at hl 0 rfl) ?_
  refine lv_iconst (v := 0) hx hb dX4_hear_16 (by decide) ?_
  refine va_put (ci := 4) (v := .int (0 : Int32)) (ty := .boolean) (C := RX4) (T := TX4) (N := 5) hx hb hts (fun w h => tcons w (xin4 w h)) tyX4 tyX4_ok nmX4 hown hK hP hD hS 0 rfl rfl 1 (by decide) (hts _ (tcons _ m109)) (fun _ h9 => h9) rfl (by decide +kernel) (by decide) (by decide) (Nat.le_of_ble_eq_true rfl) dX4_hear_17 (fun H locs hP hD hS => ?_)
  have hP : va_P G.1 vwCl [(t, .inr (4, [.ref trace, .int (0 : Int32), .int nu, .int ok, .int om])), (trace, .inr (1, [.ref trace_q, .int trace_m])), (trace_q, .inl (xI G, 30, .inl trace_f))] H := hP
  have hD : va_D A [(t, .inr (4, [.ref trace, .int (0 : Int32), .int nu, .int ok, .int om])), (trace, .inr (1, [.ref trace_q, .int trace_m])), (trace_q, .inl (xI G, 30, .inl trace_f))] := hD
  refine lv_aload_n hx hb dX4_hear_20 rfl (lv_at hl 0 rfl) ?_
  refine va_get (ci := 4) (v := .ref trace) (C := RX4) (T := TX4) (N := 5) hx hb hts (fun w h => tcons w (xin4 w h)) hown hK hP 0 rfl rfl 0 (by decide) (hts _ (tcons _ m108)) (fun _ h9 => h9) rfl dX4_hear_21 ?_
  obtain ⟨u1, e1, hF⟩ := bdS hF
  refine xEndV (xRunV (As := []) (rest := []) hZ (c_X1_clear G trace trace_q trace_m u1 e1 l H.size) m915 m252 m253 m49 m254 0 ⟨rfl, hdX1_clear⟩ ⟨Nat.le_of_ble_eq_true rfl, Nat.le_of_ble_eq_true rfl⟩ ⟨rfl, rfl⟩ hP hD hS 1 1 rfl rfl rfl [1] rfl rfl rfl hl.1 rfl (Nat.le_of_ble_eq_true rfl) dX4_hear_24 ⟨Nat.zero_le _, Nat.zero_le _⟩) hP hD hS hA [1] rfl rfl rfl (fun H locs hP hD hS => ?_)
  have hP : va_P G.1 vwCl [(t, .inr (4, [.ref trace, .int (0 : Int32), .int nu, .int ok, .int om])), (trace, .inr (1, [.ref trace_q, .int u1])), (trace_q, .inl (xI G, 30, .inl trace_f))] H := hP
  have hD : va_D A [(t, .inr (4, [.ref trace, .int (0 : Int32), .int nu, .int ok, .int om])), (trace, .inr (1, [.ref trace_q, .int u1])), (trace_q, .inl (xI G, 30, .inl trace_f))] := hD
  refine lv_aload_n hx hb dX4_hear_27 rfl (lv_at hl 0 rfl) ?_
  refine lv_aload_n hx hb dX4_hear_28 rfl (lv_at hl 0 rfl) ?_
  refine va_get (ci := 4) (v := .int ok) (C := RX4) (T := TX4) (N := 5) hx hb hts (fun w h => tcons w (xin4 w h)) hown hK hP 0 rfl rfl 3 (by decide) (hts _ (tcons _ m111)) (fun _ h9 => h9) rfl dX4_hear_29 ?_
  refine lv_iload hx hb dX4_hear_32 (lv_at hl 4 rfl) ?_
  refine lv_iload hx hb dX4_hear_34 (lv_at hl 5 rfl) ?_
  refine lv_iconst (v := 0) hx hb dX4_hear_36 (by decide) ?_
  obtain ⟨u2, e2, hF⟩ := bdS hF
  refine xEndI (xRunV (As := [.int ok, .int vo, .int x, .int (0 : Int32)]) (rest := []) hZ (cz_speak G t trace trace_q (0 : Int32) nu ok om u1 trace_f ok vo x (0 : Int32) u2 e2 l H.size) m916 m917 m918 m35 m919 4 ⟨rfl, hdX4_speak⟩ ⟨Nat.le_of_ble_eq_true rfl, Nat.le_of_ble_eq_true rfl⟩ ⟨rfl, rfl⟩ hP hD hS 0 4 rfl rfl rfl [0, 1, 2] rfl rfl rfl hl.1 rfl (Nat.le_of_ble_eq_true rfl) dX4_hear_37 ⟨Nat.zero_le _, Nat.zero_le _⟩) hP hD hS hA [0, 1, 2] rfl rfl rfl (fun H locs n2 hP hD hS => ?_)
  have hP : va_P G.1 vwCl [(t, .inr (4, [.ref trace, .int u2.2.1, .int nu, .int ok, .int om])), (trace, .inr (1, [.ref trace_q, .int u2.2.2.1])), (trace_q, .inl (xI G, 30, .inl u2.2.2.2))] H := hP
  have hD : va_D A [(t, .inr (4, [.ref trace, .int u2.2.1, .int nu, .int ok, .int om])), (trace, .inr (1, [.ref trace_q, .int u2.2.2.1])), (trace_q, .inl (xI G, 30, .inl u2.2.2.2))] := hD
  obtain rfl := Option.some.inj hF
  rw [← hQ]
  exact W.iret (v := u2.1) hx hb hr (fun t ht hW => ⟨⟨_, (), rfl, ⟨rfl, rfl⟩, xLf hP ht⟩, hS.F ht⟩) hS.2.2 dX4_hear_40
