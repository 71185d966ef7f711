def F_X5_vowOf (spread_f : Nat → Int32) (sa : Int32) (ei : Int32) : Option Int32 := if ((ei &&& (63 : Int32)) < 0 ∨ 64 ≤ (ei &&& (63 : Int32)).toNatClampNeg) then none else (if (((sa &&& (ei ^^^ (-1 : Int32))) &&& (63 : Int32)) < 0 ∨ 64 ≤ ((sa &&& (ei ^^^ (-1 : Int32))) &&& (63 : Int32)).toNatClampNeg) then none else (some (((2 : Int32) * (spread_f (ei &&& (63 : Int32)).toNatClampNeg)) + (spread_f ((sa &&& (ei ^^^ (-1 : Int32))) &&& (63 : Int32)).toNatClampNeg))))
theorem hdX5_vowOf : yX5_vowOf.cls ≠ "java/lang/invoke/MethodHandle" ∧ yX5_vowOf.cls ≠ "java/lang/invoke/VarHandle" ∧ (parseMethodDescriptor yX5_vowOf.desc).map (fun d => d.parameters.length) = some 2 := by decide +kernel
set_option maxHeartbeats 4000000 in
set_option maxRecDepth 100000 in
theorem c_X5_vowOf (G : xG) (t : Nat) (spread : Nat) (breakers : Nat) (fit : Nat) (counted : Nat) (fitting : Int32) (spread_f : Nat → Int32) (sa : Int32) (ei : Int32)  (u : Int32) (hF : F_X5_vowOf spread_f sa ei = some u) : Ki G .int yX5_vowOf (Cond.code yX5_vowOf cX5_vowOf 4 (some .int) :: TBL) { frames := 0, cells := 0, slots := 0, locals := 0 } [.ref t, .int sa, .int ei] [(t, .inr (5, [.ref spread, .ref breakers, .ref fit, .int fitting, .ref counted])), (spread, .inl (xI G, 64, .inl spread_f))] [(t, .inr (5, [.ref spread, .ref breakers, .ref fit, .int fitting, .ref counted])), (spread, .inl (xI G, 64, .inl spread_f))] u := by
  intro l sz
  refine Met.ofW (cc := cX5_vowOf) (maxL := 4) (ret := (some .int)) (by decide) rfl ?_
  intro p e s m args below meth c s₁ B hml hv
  obtain ⟨rfl, hsz, hP, hD0, hm⟩ := hv
  have hx := B.exec
  have hb := B.bytes
  have hr := B.returns
  have hts := atoms_spec (ws := Cond.code yX5_vowOf cX5_vowOf 4 (some .int) :: TBL) B.pre
  have hown : s.vm.findClass RX5 = some m.cls := findClass_of_methodNamed B.named
  have hlocks := B.notSynchronized
  subst hsz
  have hD := hD0.self (sz := s.heap.size)
  generalize hAe : va_A [(t, .inr (5, [.ref spread, .ref breakers, .ref fit, .int fitting, .ref counted])), (spread, .inl (xI G, 64, .inl spread_f))] s.heap.size = A at hD hm ⊢
  have hA : ∀ q : Nat, s.heap.size ≤ q → A q := fun q h => by rw [← hAe]; exact Or.inr h
  have hK := hm.1
  have hZ : xAnd p m c cX5_vowOf 4 s _ (Cond.code yX5_vowOf cX5_vowOf 4 (some .int) :: TBL) RX5 G A := ⟨⟨hx, hb, hml, hown, hts⟩, tcons, hA, hm⟩
  have hP : va_P G.1 vwCl [(t, .inr (5, [.ref spread, .ref breakers, .ref fit, .int fitting, .ref counted])), (spread, .inl (xI G, 64, .inl spread_f))] s.heap := hP
  have hl := lv_entry ([.ref t, .int sa, .int ei]) (n := 4) (Nat.le_of_ble_eq_true rfl)
  rw [lg_entry_eq]
  generalize (lg_sl ([.ref t, .int sa, .int ei]) ++ List.replicate (4 - (lg_sl ([.ref t, .int sa, .int ei])).length) Slot.unset).toArray = ls at hl ⊢
  have hl : lv_has ls 4 [(0, .ref t), (1, .int sa), (2, .int ei)] := hl
  generalize hQ : MQ below _ _ s _ _ _ = Q
  refine xGo (A := A) hP (fun H locs hP hS => ?_)
  unfold F_X5_vowOf at hF
  refine lv_iload_n hx hb dX5_vowOf_0 rfl (lv_at hl 1 rfl) ?_
  refine lv_iload_n hx hb dX5_vowOf_1 rfl (lv_at hl 2 rfl) ?_
  refine lv_iconst (v := -1) hx hb dX5_vowOf_2 (by decide) ?_
  refine lv_ixor hx hb dX5_vowOf_3 ?_
  refine lv_iand hx hb dX5_vowOf_4 ?_
  refine lv_bipush (v := 63) hx hb dX5_vowOf_5 (by decide) ?_
  refine lv_iand hx hb dX5_vowOf_7 ?_
  refine lv_istore_n (lv' := [(3, .int ((sa &&& (ei ^^^ (-1 : Int32))) &&& (63 : Int32))), (0, .ref t), (1, .int sa), (2, .int ei)]) hx hb dX5_vowOf_8 rfl hl (by decide) rfl (fun ls hl => ?_)
  refine lv_iconst (v := 2) hx hb dX5_vowOf_9 (by decide) ?_
  refine lv_aload_n hx hb dX5_vowOf_10 rfl (lv_at hl 1 rfl) ?_
  refine va_get (ci := 5) (v := .ref spread) (C := RX5) (T := TX5) (N := 5) hx hb hts (fun w h => tcons w (xin5 w h)) hown hK hP 0 rfl rfl 0 (by decide) (hts _ (tcons _ m76)) (fun _ h9 => h9) rfl dX5_vowOf_11 ?_
  refine lv_iload_n hx hb dX5_vowOf_14 rfl (lv_at hl 3 rfl) ?_
  refine lv_bipush (v := 63) hx hb dX5_vowOf_15 (by decide) ?_
  refine lv_iand hx hb dX5_vowOf_17 ?_
  obtain ⟨g18, hF⟩ := gdS hF
  refine va_iald hx hb hK hP 1 0 rfl rfl g18 dX5_vowOf_18 ?_
  refine lv_imul hx hb dX5_vowOf_19 ?_
  refine lv_aload_n hx hb dX5_vowOf_20 rfl (lv_at hl 1 rfl) ?_
  refine va_get (ci := 5) (v := .ref spread) (C := RX5) (T := TX5) (N := 5) hx hb hts (fun w h => tcons w (xin5 w h)) hown hK hP 0 rfl rfl 0 (by decide) (hts _ (tcons _ m76)) (fun _ h9 => h9) rfl dX5_vowOf_21 ?_
  refine lv_iload_n hx hb dX5_vowOf_24 rfl (lv_at hl 0 rfl) ?_
  obtain ⟨g25, hF⟩ := gdS hF
  refine va_iald hx hb hK hP 1 0 rfl rfl g25 dX5_vowOf_25 ?_
  refine lv_iadd hx hb dX5_vowOf_26 ?_
  obtain rfl := Option.some.inj hF
  rw [← hQ]
  exact W.iret (v := (((2 : Int32) * (spread_f (ei &&& (63 : Int32)).toNatClampNeg)) + (spread_f ((sa &&& (ei ^^^ (-1 : Int32))) &&& (63 : Int32)).toNatClampNeg))) hx hb hr (fun t ht hW => ⟨⟨_, (), rfl, ⟨rfl, rfl⟩, xLf hP ht⟩, hS.F ht⟩) hS.2.2 dX5_vowOf_27
def F_X5_breaks (breakers_f : Nat → Int64) (sa : Int32) (vo : Int32) : Option Int32 := bd (F_X7_isSaying sa) (fun (u1 : Int32) => if u1 = 0 then (some (0 : Int32)) else (bd (F_X7_within vo (0 : Int32) (728 : Int32)) (fun (u2 : Int32) => if u2 = 0 then (some (0 : Int32)) else (if (vo < 0 ∨ 729 ≤ vo.toNatClampNeg) then none else (if (lg_cmp ((((breakers_f vo.toNatClampNeg).toUInt64 >>> (sa.toInt64.toUInt64 &&& Int64.toUInt64 63)).toInt64) &&& (1 : Int64)) (0 : Int64)) = 0 then (some (0 : Int32)) else (some (1 : Int32)))))))
theorem hdX5_breaks : yX5_breaks.cls ≠ "java/lang/invoke/MethodHandle" ∧ yX5_breaks.cls ≠ "java/lang/invoke/VarHandle" ∧ (parseMethodDescriptor yX5_breaks.desc).map (fun d => d.parameters.length) = some 2 := by decide +kernel
set_option maxHeartbeats 4000000 in
set_option maxRecDepth 100000 in
theorem c_X5_breaks (G : xG) (t : Nat) (spread : Nat) (breakers : Nat) (fit : Nat) (counted : Nat) (fitting : Int32) (breakers_f : Nat → Int64) (sa : Int32) (vo : Int32)  (u : Int32) (hF : F_X5_breaks breakers_f sa vo = some u) : Ki G .boolean yX5_breaks (Cond.code yX5_breaks cX5_breaks 3 (some .boolean) :: TBL) { frames := 2, cells := 0, slots := 0, locals := 42 } [.ref t, .int sa, .int vo] [(t, .inr (5, [.ref spread, .ref breakers, .ref fit, .int fitting, .ref counted])), (breakers, .inl (xJ G, 729, .inr (.inl breakers_f)))] [(t, .inr (5, [.ref spread, .ref breakers, .ref fit, .int fitting, .ref counted])), (breakers, .inl (xJ G, 729, .inr (.inl breakers_f)))] u := by
  intro l sz
  refine Met.ofW (cc := cX5_breaks) (maxL := 3) (ret := (some .boolean)) (by decide) rfl ?_
  intro p e s m args below meth c s₁ B hml hv
  obtain ⟨rfl, hsz, hP, hD0, hm⟩ := hv
  have hx := B.exec
  have hb := B.bytes
  have hr := B.returns
  have hts := atoms_spec (ws := Cond.code yX5_breaks cX5_breaks 3 (some .boolean) :: TBL) B.pre
  have hown : s.vm.findClass RX5 = some m.cls := findClass_of_methodNamed B.named
  have hlocks := B.notSynchronized
  subst hsz
  have hD := hD0.self (sz := s.heap.size)
  generalize hAe : va_A [(t, .inr (5, [.ref spread, .ref breakers, .ref fit, .int fitting, .ref counted])), (breakers, .inl (xJ G, 729, .inr (.inl breakers_f)))] s.heap.size = A at hD hm ⊢
  have hA : ∀ q : Nat, s.heap.size ≤ q → A q := fun q h => by rw [← hAe]; exact Or.inr h
  have hK := hm.1
  have hZ : xAnd p m c cX5_breaks 3 s _ (Cond.code yX5_breaks cX5_breaks 3 (some .boolean) :: TBL) RX5 G A := ⟨⟨hx, hb, hml, hown, hts⟩, tcons, hA, hm⟩
  have hP : va_P G.1 vwCl [(t, .inr (5, [.ref spread, .ref breakers, .ref fit, .int fitting, .ref counted])), (breakers, .inl (xJ G, 729, .inr (.inl breakers_f)))] s.heap := hP
  have hl := lv_entry ([.ref t, .int sa, .int vo]) (n := 3) (Nat.le_of_ble_eq_true rfl)
  rw [lg_entry_eq]
  generalize (lg_sl ([.ref t, .int sa, .int vo]) ++ List.replicate (3 - (lg_sl ([.ref t, .int sa, .int vo])).length) Slot.unset).toArray = ls at hl ⊢
  have hl : lv_has ls 3 [(0, .ref t), (1, .int sa), (2, .int vo)] := hl
  generalize hQ : MQ below _ _ s _ _ _ = Q
  refine xGo (A := A) hP (fun H locs hP hS => ?_)
  unfold F_X5_breaks at hF
  refine lv_iload_n hx hb dX5_breaks_0 rfl (lv_at hl 1 rfl) ?_
  obtain ⟨u1, e1, hF⟩ := bdS hF
  refine xEndI (xRunN (As := [.int sa]) (rest := []) hZ (c_X7_isSaying G sa u1 e1 l H.size) hm.2.1.2.2.2.2.2.2.2.1 m228 m2 m229 1 hdX7_isSaying ⟨Nat.le_of_ble_eq_true rfl, Nat.le_of_ble_eq_true rfl⟩ ⟨rfl, rfl⟩ hP hD hS [] rfl rfl rfl hl.1 rfl (Nat.le_of_ble_eq_true rfl) dX5_breaks_1 ⟨Nat.zero_le _, Nat.zero_le _⟩) hP hD hS hA [] rfl rfl rfl (fun H locs n1 hP hD hS => ?_)
  have hP : va_P G.1 vwCl [(t, .inr (5, [.ref spread, .ref breakers, .ref fit, .int fitting, .ref counted])), (breakers, .inl (xJ G, 729, .inr (.inl breakers_f)))] H := hP
  have hD : va_D A [(t, .inr (5, [.ref spread, .ref breakers, .ref fit, .int fitting, .ref counted])), (breakers, .inl (xJ G, 729, .inr (.inl breakers_f)))] := hD
  refine lv_if_eq (tgt := 37) hx hb dX5_breaks_4 (by decide) (fun c4 => ?_) (fun c4 => ?_)
  · have hF := itP c4 hF
    refine lv_iconst (v := 0) hx hb dX5_breaks_37 (by decide) ?_
    obtain rfl := Option.some.inj hF
    rw [← hQ]
    exact W.zret (v := (0 : Int32)) hx hb hr (show narrow .boolean (.int (0 : Int32)) = .int (0 : Int32) from by decide) (fun t ht hW => ⟨⟨_, (), rfl, ⟨rfl, (show narrow .boolean (.int (0 : Int32)) = .int (0 : Int32) from by decide)⟩, xLf hP ht⟩, hS.F ht⟩) hS.2.2 dX5_breaks_38
  · have hF := itN c4 hF
    refine lv_iload_n hx hb dX5_breaks_7 rfl (lv_at hl 2 rfl) ?_
    refine lv_iconst (v := 0) hx hb dX5_breaks_8 (by decide) ?_
    refine lv_sipush (v := 728) hx hb dX5_breaks_9 (by decide) ?_
    obtain ⟨u2, e2, hF⟩ := bdS hF
    refine xEndI (xRunN (As := [.int vo, .int (0 : Int32), .int (728 : Int32)]) (rest := []) hZ (c_X7_within G vo (0 : Int32) (728 : Int32) u2 e2 l H.size) hm.2.1.2.2.2.2.2.2.2.2.1 m165 m2 m166 3 hdX7_within ⟨Nat.le_of_ble_eq_true rfl, Nat.le_of_ble_eq_true rfl⟩ ⟨rfl, rfl⟩ hP hD hS [] rfl rfl rfl hl.1 rfl (Nat.le_of_ble_eq_true rfl) dX5_breaks_12 ⟨Nat.zero_le _, Nat.zero_le _⟩) hP hD hS hA [] rfl rfl rfl (fun H locs n2 hP hD hS => ?_)
    have hP : va_P G.1 vwCl [(t, .inr (5, [.ref spread, .ref breakers, .ref fit, .int fitting, .ref counted])), (breakers, .inl (xJ G, 729, .inr (.inl breakers_f)))] H := hP
    have hD : va_D A [(t, .inr (5, [.ref spread, .ref breakers, .ref fit, .int fitting, .ref counted])), (breakers, .inl (xJ G, 729, .inr (.inl breakers_f)))] := hD
    refine lv_if_eq (tgt := 37) hx hb dX5_breaks_15 (by decide) (fun c15 => ?_) (fun c15 => ?_)
    · have hF := itP c15 hF
      refine lv_iconst (v := 0) hx hb dX5_breaks_37 (by decide) ?_
      obtain rfl := Option.some.inj hF
      rw [← hQ]
      exact W.zret (v := (0 : Int32)) hx hb hr (show narrow .boolean (.int (0 : Int32)) = .int (0 : Int32) from by decide) (fun t ht hW => ⟨⟨_, (), rfl, ⟨rfl, (show narrow .boolean (.int (0 : Int32)) = .int (0 : Int32) from by decide)⟩, xLf hP ht⟩, hS.F ht⟩) hS.2.2 dX5_breaks_38
    · have hF := itN c15 hF
      refine lv_aload_n hx hb dX5_breaks_18 rfl (lv_at hl 0 rfl) ?_
      refine va_get (ci := 5) (v := .ref breakers) (C := RX5) (T := TX5) (N := 5) hx hb hts (fun w h => tcons w (xin5 w h)) hown hK hP 0 rfl rfl 1 (by decide) (hts _ (tcons _ m78)) (fun _ h9 => h9) rfl dX5_breaks_19 ?_
      refine lv_iload_n hx hb dX5_breaks_22 rfl (lv_at hl 2 rfl) ?_
      obtain ⟨g23, hF⟩ := gdS hF
      refine va_lald hx hb hK hP 1 1 rfl rfl g23 dX5_breaks_23 ?_
      refine lv_iload_n hx hb dX5_breaks_24 rfl (lv_at hl 1 rfl) ?_
      refine lv_lushr hx hb dX5_breaks_25 rfl ?_
      refine lv_lconst (v := 1) hx hb dX5_breaks_26 (by decide) ?_
      refine lv_land hx hb dX5_breaks_27 ?_
      refine lv_lconst (v := 0) hx hb dX5_breaks_28 (by decide) ?_
      refine W.lcmp hx hb dX5_breaks_29 ?_
      refine lv_if_eq (tgt := 37) hx hb dX5_breaks_30 (by decide) (fun c30 => ?_) (fun c30 => ?_)
      · have hF := itP c30 hF
        refine lv_iconst (v := 0) hx hb dX5_breaks_37 (by decide) ?_
        obtain rfl := Option.some.inj hF
        rw [← hQ]
        exact W.zret (v := (0 : Int32)) hx hb hr (show narrow .boolean (.int (0 : Int32)) = .int (0 : Int32) from by decide) (fun t ht hW => ⟨⟨_, (), rfl, ⟨rfl, (show narrow .boolean (.int (0 : Int32)) = .int (0 : Int32) from by decide)⟩, xLf hP ht⟩, hS.F ht⟩) hS.2.2 dX5_breaks_38
      · have hF := itN c30 hF
        refine lv_iconst (v := 1) hx hb dX5_breaks_33 (by decide) ?_
        refine lv_goto (tgt := 38) hx hb dX5_breaks_34 (by decide) ?_
        obtain rfl := Option.some.inj hF
        rw [← hQ]
        exact W.zret (v := (1 : Int32)) hx hb hr (show narrow .boolean (.int (1 : Int32)) = .int (1 : Int32) from by decide) (fun t ht hW => ⟨⟨_, (), rfl, ⟨rfl, (show narrow .boolean (.int (1 : Int32)) = .int (1 : Int32) from by decide)⟩, xLf hP ht⟩, hS.F ht⟩) hS.2.2 dX5_breaks_38
def B_X5_refit_94 (breakers_f : Nat → Int64) (v8_0 : Int64) (v8_1 : Int64) (v65_1 : Nat → Int32) (k94 : (Int32 × Int32 × (Nat → Int32)) → Option (Int32 × (Nat → Int32) × (Nat → Int32))) (v94 : (Int32 × Int32 × (Nat → Int32))) : Option (Int32 × (Nat → Int32) × (Nat → Int32)) := if (729 : Int32) ≤ v94.1 then (some (v94.2.1, v94.2.2, v65_1)) else (if (v94.1 < 0 ∨ 729 ≤ v94.1.toNatClampNeg) then none else (if (lg_cmp ((breakers_f v94.1.toNatClampNeg) &&& v8_0) v8_0) = 0 then (if (v94.1 < 0 ∨ 729 ≤ v94.1.toNatClampNeg) then none else (if (lg_cmp ((breakers_f v94.1.toNatClampNeg) &&& v8_1) (0 : Int64)) = 0 then (if (v94.1 < 0 ∨ 729 ≤ v94.1.toNatClampNeg) then none else (if (v94.1 < 0 ∨ 729 ≤ v94.1.toNatClampNeg) then none else (if ((upd v94.2.2 v94.1.toNatClampNeg (vp_nar .boolean (1 : Int32))) v94.1.toNatClampNeg) = 0 then (k94 ((v94.1 + (1 : Int32)), (v94.2.1 + (0 : Int32)), (upd v94.2.2 v94.1.toNatClampNeg (vp_nar .boolean (1 : Int32))))) else (k94 ((v94.1 + (1 : Int32)), (v94.2.1 + (1 : Int32)), (upd v94.2.2 v94.1.toNatClampNeg (vp_nar .boolean (1 : Int32)))))))) else (if (v94.1 < 0 ∨ 729 ≤ v94.1.toNatClampNeg) then none else (if (v94.1 < 0 ∨ 729 ≤ v94.1.toNatClampNeg) then none else (if ((upd v94.2.2 v94.1.toNatClampNeg (vp_nar .boolean (0 : Int32))) v94.1.toNatClampNeg) = 0 then (k94 ((v94.1 + (1 : Int32)), (v94.2.1 + (0 : Int32)), (upd v94.2.2 v94.1.toNatClampNeg (vp_nar .boolean (0 : Int32))))) else (k94 ((v94.1 + (1 : Int32)), (v94.2.1 + (1 : Int32)), (upd v94.2.2 v94.1.toNatClampNeg (vp_nar .boolean (0 : Int32)))))))))) else (if (v94.1 < 0 ∨ 729 ≤ v94.1.toNatClampNeg) then none else (if (v94.1 < 0 ∨ 729 ≤ v94.1.toNatClampNeg) then none else (if ((upd v94.2.2 v94.1.toNatClampNeg (vp_nar .boolean (0 : Int32))) v94.1.toNatClampNeg) = 0 then (k94 ((v94.1 + (1 : Int32)), (v94.2.1 + (0 : Int32)), (upd v94.2.2 v94.1.toNatClampNeg (vp_nar .boolean (0 : Int32))))) else (k94 ((v94.1 + (1 : Int32)), (v94.2.1 + (1 : Int32)), (upd v94.2.2 v94.1.toNatClampNeg (vp_nar .boolean (0 : Int32))))))))))
def B_X5_refit_65 (breakers_f : Nat → Int64) (fit_f : Nat → Int32) (v8_0 : Int64) (v8_1 : Int64) (k65 : (Int32 × (Nat → Int32)) → Option (Int32 × (Nat → Int32) × (Nat → Int32))) (v65 : (Int32 × (Nat → Int32))) : Option (Int32 × (Nat → Int32) × (Nat → Int32)) := if (64 : Int32) ≤ v65.1 then (lp (B_X5_refit_94 breakers_f v8_0 v8_1 v65.2) fuelC ((0 : Int32), (0 : Int32), fit_f)) else (if (v65.1 < 0 ∨ 64 ≤ v65.1.toNatClampNeg) then none else (k65 ((v65.1 + (1 : Int32)), (upd v65.2 v65.1.toNatClampNeg (-1 : Int32)))))
def B_X5_refit_8 (on : Nat) (breakers_f : Nat → Int64) (fit_f : Nat → Int32) (counted_f : Nat → Int32) (o_m : Int32) (o_f : Nat → Int32) (k8 : (Int64 × Int64 × Int32) → Option (Int32 × (Nat → Int32) × (Nat → Int32))) (v8 : (Int64 × Int64 × Int32)) : Option (Int32 × (Nat → Int32) × (Nat → Int32)) := bd (F_X1_many o_m) (fun (u1 : Int32) => if u1 ≤ v8.2.2 then (lp (B_X5_refit_65 breakers_f fit_f v8.1 v8.2.1) fuelC ((0 : Int32), counted_f)) else (bd (F_X1_get on o_m o_f v8.2.2) (fun (u2 : Int32) => bd (F_X1_get on o_m o_f v8.2.2) (fun (u3 : Int32) => if (u3 - u3 / (2 : Int32) * (2 : Int32)) = (1 : Int32) then (k8 ((v8.1 ||| ((1 : Int64) <<< ((u2 / (2 : Int32)).toInt64 &&& 63))), v8.2.1, (v8.2.2 + (1 : Int32)))) else (k8 (v8.1, (v8.2.1 ||| ((1 : Int64) <<< ((u2 / (2 : Int32)).toInt64 &&& 63))), (v8.2.2 + (1 : Int32))))))))
def F_X5_refit (on : Nat) (breakers_f : Nat → Int64) (fit_f : Nat → Int32) (counted_f : Nat → Int32) (o_m : Int32) (o_f : Nat → Int32) : Option (Int32 × (Nat → Int32) × (Nat → Int32)) := lp (B_X5_refit_8 on breakers_f fit_f counted_f o_m o_f) fuelC ((0 : Int64), (0 : Int64), (0 : Int32))
theorem hdX5_refit : yX5_refit.cls ≠ "java/lang/invoke/MethodHandle" ∧ yX5_refit.cls ≠ "java/lang/invoke/VarHandle" ∧ (parseMethodDescriptor yX5_refit.desc).map (fun d => d.parameters.length) = some 1 := by decide +kernel
set_option maxHeartbeats 4000000 in
set_option maxRecDepth 100000 in
theorem c_X5_refit (G : xG) (t : Nat) (spread : Nat) (breakers : Nat) (fit : Nat) (counted : Nat) (o : Nat) (o_q : Nat) (on : Nat) (fitting : Int32) (breakers_f : Nat → Int64) (fit_f : Nat → Int32) (counted_f : Nat → Int32) (o_m : Int32) (o_f : Nat → Int32)  (u : (Int32 × (Nat → Int32) × (Nat → Int32))) (hF : F_X5_refit on breakers_f fit_f counted_f o_m o_f = some u) : Kv G yX5_refit (Cond.code yX5_refit cX5_refit 9 none :: TBL) { frames := 1, cells := 0, slots := 0, locals := 21 } [.ref t, .ref o] [(t, .inr (5, [.ref spread, .ref breakers, .ref fit, .int fitting, .ref counted])), (breakers, .inl (xJ G, 729, .inr (.inl breakers_f))), (fit, .inl (xZ G, 729, .inl fit_f)), (counted, .inl (xI G, 64, .inl counted_f)), (o, .inr (1, [.ref o_q, .int o_m])), (o_q, .inl (xI G, on, .inl o_f))] [(t, .inr (5, [.ref spread, .ref breakers, .ref fit, .int u.1, .ref counted])), (breakers, .inl (xJ G, 729, .inr (.inl breakers_f))), (fit, .inl (xZ G, 729, .inl u.2.1)), (counted, .inl (xI G, 64, .inl u.2.2)), (o, .inr (1, [.ref o_q, .int o_m])), (o_q, .inl (xI G, on, .inl o_f))] := by
  intro l sz
  refine Met.ofW (cc := cX5_refit) (maxL := 9) (ret := none) (by decide) rfl ?_
  intro p e s m args below meth c s₁ B hml hv
  obtain ⟨rfl, hsz, hP, hD0, hm⟩ := hv
  have hx := B.exec
  have hb := B.bytes
  have hr := B.returns
  have hts := atoms_spec (ws := Cond.code yX5_refit cX5_refit 9 none :: TBL) B.pre
  have hown : s.vm.findClass RX5 = some m.cls := findClass_of_methodNamed B.named
  have hlocks := B.notSynchronized
  subst hsz
  have hD := hD0.self (sz := s.heap.size)
  generalize hAe : va_A [(t, .inr (5, [.ref spread, .ref breakers, .ref fit, .int fitting, .ref counted])), (breakers, .inl (xJ G, 729, .inr (.inl breakers_f))), (fit, .inl (xZ G, 729, .inl fit_f)), (counted, .inl (xI G, 64, .inl counted_f)), (o, .inr (1, [.ref o_q, .int o_m])), (o_q, .inl (xI G, on, .inl o_f))] s.heap.size = A at hD hm ⊢
  have hA : ∀ q : Nat, s.heap.size ≤ q → A q := fun q h => by rw [← hAe]; exact Or.inr h
  have hK := hm.1
  have hZ : xAnd p m c cX5_refit 9 s _ (Cond.code yX5_refit cX5_refit 9 none :: TBL) RX5 G A := ⟨⟨hx, hb, hml, hown, hts⟩, tcons, hA, hm⟩
  have hP : va_P G.1 vwCl [(t, .inr (5, [.ref spread, .ref breakers, .ref fit, .int fitting, .ref counted])), (breakers, .inl (xJ G, 729, .inr (.inl breakers_f))), (fit, .inl (xZ G, 729, .inl fit_f)), (counted, .inl (xI G, 64, .inl counted_f)), (o, .inr (1, [.ref o_q, .int o_m])), (o_q, .inl (xI G, on, .inl o_f))] s.heap := hP
  have hl := lv_entry ([.ref t, .ref o]) (n := 9) (Nat.le_of_ble_eq_true rfl)
  rw [lg_entry_eq]
  generalize (lg_sl ([.ref t, .ref o]) ++ List.replicate (9 - (lg_sl ([.ref t, .ref o])).length) Slot.unset).toArray = ls at hl ⊢
  have hl : lv_has ls 9 [(0, .ref t), (1, .ref o)] := hl
  generalize hQ : MQ below _ _ s _ _ _ = Q
  refine xGo (A := A) hP (fun H locs hP hS => ?_)
  unfold F_X5_refit at hF
  refine lv_lconst (v := 0) hx hb dX5_refit_0 (by decide) ?_
  refine lv_lstore_n (lv' := [(2, .long (0 : Int64)), (0, .ref t), (1, .ref o)]) hx hb dX5_refit_1 rfl hl (by decide) rfl (fun ls hl => ?_)
  refine lv_lconst (v := 0) hx hb dX5_refit_2 (by decide) ?_
  refine lv_lstore (lv' := [(4, .long (0 : Int64)), (2, .long (0 : Int64)), (0, .ref t), (1, .ref o)]) hx hb dX5_refit_3 hl (by decide) rfl (fun ls hl => ?_)
  refine lv_iconst (v := 0) hx hb dX5_refit_5 (by decide) ?_
  refine lv_istore (lv' := [(6, .int (0 : Int32)), (4, .long (0 : Int64)), (2, .long (0 : Int64)), (0, .ref t), (1, .ref o)]) hx hb dX5_refit_6 hl (by decide) rfl (fun ls hl => ?_)
  refine xLoop3 (body := (B_X5_refit_8 on breakers_f fit_f counted_f o_m o_f)) (fun (v8_0 : Int64) (v8_1 : Int64) (v8_2 : Int32) H locs ls => va_P G.1 vwCl [(t, .inr (5, [.ref spread, .ref breakers, .ref fit, .int fitting, .ref counted])), (breakers, .inl (xJ G, 729, .inr (.inl breakers_f))), (fit, .inl (xZ G, 729, .inl fit_f)), (counted, .inl (xI G, 64, .inl counted_f)), (o, .inr (1, [.ref o_q, .int o_m])), (o_q, .inl (xI G, on, .inl o_f))] H ∧ va_D A [(t, .inr (5, [.ref spread, .ref breakers, .ref fit, .int fitting, .ref counted])), (breakers, .inl (xJ G, 729, .inr (.inl breakers_f))), (fit, .inl (xZ G, 729, .inl fit_f)), (counted, .inl (xI G, 64, .inl counted_f)), (o, .inr (1, [.ref o_q, .int o_m])), (o_q, .inl (xI G, on, .inl o_f))] ∧ va_S A s.heap H locs ∧ lv_has ls 9 [(0, .ref t), (1, .ref o), (2, .long v8_0), (4, .long v8_1), (6, .int v8_2)]) (fun N8 v8_0 v8_1 v8_2 ih8 H locs ls hI hF => ?_) fuelC (0 : Int64) (0 : Int64) (0 : Int32) H locs ls ⟨hP, hD, hS, lv_sub hl [3, 4, 2, 1, 0] rfl⟩ hF
  obtain ⟨hP, hD, hS, hl⟩ := hI
  unfold B_X5_refit_8 at hF
  refine lv_iload hx hb dX5_refit_8 (lv_at hl 4 rfl) ?_
  refine lv_aload_n hx hb dX5_refit_10 rfl (lv_at hl 1 rfl) ?_
  obtain ⟨u1, e1, hF⟩ := bdS hF
  refine xEndI (xRunV (As := []) (rest := [.int v8_2]) hZ (c_X1_many G o o_q o_m u1 e1 l H.size) m125 m126 m127 m49 m128 0 ⟨rfl, hdX1_many⟩ ⟨Nat.le_of_ble_eq_true rfl, Nat.le_of_ble_eq_true rfl⟩ ⟨rfl, rfl⟩ hP hD hS 4 1 rfl rfl rfl [4] rfl rfl rfl hl.1 rfl (Nat.le_of_ble_eq_true rfl) dX5_refit_11 ⟨Nat.zero_le _, Nat.zero_le _⟩) hP hD hS hA [4] rfl rfl rfl (fun H locs n1 hP hD hS => ?_)
  have hP : va_P G.1 vwCl [(t, .inr (5, [.ref spread, .ref breakers, .ref fit, .int fitting, .ref counted])), (breakers, .inl (xJ G, 729, .inr (.inl breakers_f))), (fit, .inl (xZ G, 729, .inl fit_f)), (counted, .inl (xI G, 64, .inl counted_f)), (o, .inr (1, [.ref o_q, .int o_m])), (o_q, .inl (xI G, on, .inl o_f))] H := hP
  have hD : va_D A [(t, .inr (5, [.ref spread, .ref breakers, .ref fit, .int fitting, .ref counted])), (breakers, .inl (xJ G, 729, .inr (.inl breakers_f))), (fit, .inl (xZ G, 729, .inl fit_f)), (counted, .inl (xI G, 64, .inl counted_f)), (o, .inr (1, [.ref o_q, .int o_m])), (o_q, .inl (xI G, on, .inl o_f))] := hD
  refine lv_icmp_ge (tgt := 62) hx hb dX5_refit_14 (by decide) (fun c14 => ?_) (fun c14 => ?_)
  · have hF := itP c14 hF
    refine lv_iconst (v := 0) hx hb dX5_refit_62 (by decide) ?_
    refine lv_istore (lv' := [(6, .int (0 : Int32)), (0, .ref t), (1, .ref o), (2, .long v8_0), (4, .long v8_1)]) hx hb dX5_refit_63 hl (by decide) rfl (fun ls hl => ?_)
    refine xLoop2 (body := (B_X5_refit_65 breakers_f fit_f v8_0 v8_1)) (fun (v65_0 : Int32) (v65_1 : Nat → Int32) H locs ls => va_P G.1 vwCl [(t, .inr (5, [.ref spread, .ref breakers, .ref fit, .int fitting, .ref counted])), (breakers, .inl (xJ G, 729, .inr (.inl breakers_f))), (fit, .inl (xZ G, 729, .inl fit_f)), (counted, .inl (xI G, 64, .inl v65_1)), (o, .inr (1, [.ref o_q, .int o_m])), (o_q, .inl (xI G, on, .inl o_f))] H ∧ va_D A [(t, .inr (5, [.ref spread, .ref breakers, .ref fit, .int fitting, .ref counted])), (breakers, .inl (xJ G, 729, .inr (.inl breakers_f))), (fit, .inl (xZ G, 729, .inl fit_f)), (counted, .inl (xI G, 64, .inl v65_1)), (o, .inr (1, [.ref o_q, .int o_m])), (o_q, .inl (xI G, on, .inl o_f))] ∧ va_S A s.heap H locs ∧ lv_has ls 9 [(0, .ref t), (1, .ref o), (2, .long v8_0), (4, .long v8_1), (6, .int v65_0)]) (fun N65 v65_0 v65_1 ih65 H locs ls hI hF => ?_) fuelC (0 : Int32) counted_f H locs ls ⟨hP, hD, hS, lv_sub hl [1, 2, 3, 4, 0] rfl⟩ hF
    obtain ⟨hP, hD, hS, hl⟩ := hI
    unfold B_X5_refit_65 at hF
    refine lv_iload hx hb dX5_refit_65 (lv_at hl 4 rfl) ?_
    refine lv_bipush (v := 64) hx hb dX5_refit_67 (by decide) ?_
    refine lv_icmp_ge (tgt := 86) hx hb dX5_refit_69 (by decide) (fun c69 => ?_) (fun c69 => ?_)
    · have hF := itP c69 hF
      refine lv_aload_n hx hb dX5_refit_86 rfl (lv_at hl 0 rfl) ?_
      refine lv_iconst (v := 0) hx hb dX5_refit_87 (by decide) ?_
      refine va_put (ci := 5) (v := .int (0 : Int32)) (ty := .int) (C := RX5) (T := TX5) (N := 5) hx hb hts (fun w h => tcons w (xin5 w h)) tyX5 tyX5_ok nmX5 hown hK hP hD hS 0 rfl rfl 3 (by decide) (hts _ (tcons _ m81)) (fun _ h9 => h9) rfl (by decide +kernel) rfl rfl (Nat.le_of_ble_eq_true rfl) dX5_refit_88 (fun H locs hP hD hS => ?_)
      have hP : va_P G.1 vwCl [(t, .inr (5, [.ref spread, .ref breakers, .ref fit, .int (0 : Int32), .ref counted])), (breakers, .inl (xJ G, 729, .inr (.inl breakers_f))), (fit, .inl (xZ G, 729, .inl fit_f)), (counted, .inl (xI G, 64, .inl v65_1)), (o, .inr (1, [.ref o_q, .int o_m])), (o_q, .inl (xI G, on, .inl o_f))] H := hP
      have hD : va_D A [(t, .inr (5, [.ref spread, .ref breakers, .ref fit, .int (0 : Int32), .ref counted])), (breakers, .inl (xJ G, 729, .inr (.inl breakers_f))), (fit, .inl (xZ G, 729, .inl fit_f)), (counted, .inl (xI G, 64, .inl v65_1)), (o, .inr (1, [.ref o_q, .int o_m])), (o_q, .inl (xI G, on, .inl o_f))] := hD
      refine lv_iconst (v := 0) hx hb dX5_refit_91 (by decide) ?_
      refine lv_istore (lv' := [(6, .int (0 : Int32)), (0, .ref t), (1, .ref o), (2, .long v8_0), (4, .long v8_1)]) hx hb dX5_refit_92 hl (by decide) rfl (fun ls hl => ?_)
      refine xLoop3 (body := (B_X5_refit_94 breakers_f v8_0 v8_1 v65_1)) (fun (v94_0 : Int32) (v94_1 : Int32) (v94_2 : Nat → Int32) H locs ls => va_P G.1 vwCl [(t, .inr (5, [.ref spread, .ref breakers, .ref fit, .int v94_1, .ref counted])), (breakers, .inl (xJ G, 729, .inr (.inl breakers_f))), (fit, .inl (xZ G, 729, .inl v94_2)), (counted, .inl (xI G, 64, .inl v65_1)), (o, .inr (1, [.ref o_q, .int o_m])), (o_q, .inl (xI G, on, .inl o_f))] H ∧ va_D A [(t, .inr (5, [.ref spread, .ref breakers, .ref fit, .int v94_1, .ref counted])), (breakers, .inl (xJ G, 729, .inr (.inl breakers_f))), (fit, .inl (xZ G, 729, .inl v94_2)), (counted, .inl (xI G, 64, .inl v65_1)), (o, .inr (1, [.ref o_q, .int o_m])), (o_q, .inl (xI G, on, .inl o_f))] ∧ va_S A s.heap H locs ∧ lv_has ls 9 [(0, .ref t), (1, .ref o), (2, .long v8_0), (4, .long v8_1), (6, .int v94_0)]) (fun N94 v94_0 v94_1 v94_2 ih94 H locs ls hI hF => ?_) fuelC (0 : Int32) (0 : Int32) fit_f H locs ls ⟨hP, hD, hS, lv_sub hl [1, 2, 3, 4, 0] rfl⟩ hF
      obtain ⟨hP, hD, hS, hl⟩ := hI
      unfold B_X5_refit_94 at hF
      refine lv_iload hx hb dX5_refit_94 (lv_at hl 4 rfl) ?_
      refine lv_sipush (v := 729) hx hb dX5_refit_96 (by decide) ?_
      refine lv_icmp_ge (tgt := 173) hx hb dX5_refit_99 (by decide) (fun c99 => ?_) (fun c99 => ?_)
      · have hF := itP c99 hF
        obtain rfl := Option.some.inj hF
        rw [← hQ]
        exact W.vret hx hb hr (fun t ht hW => ⟨⟨(), rfl, trivial, xLf hP ht⟩, hS.F ht⟩) hS.2.2 dX5_refit_173
      · have hF := itN c99 hF
        refine lv_aload_n hx hb dX5_refit_102 rfl (lv_at hl 0 rfl) ?_
        refine va_get (ci := 5) (v := .ref fit) (C := RX5) (T := TX5) (N := 5) hx hb hts (fun w h => tcons w (xin5 w h)) hown hK hP 0 rfl rfl 2 (by decide) (hts _ (tcons _ m80)) (fun _ h9 => h9) rfl dX5_refit_103 ?_
        refine lv_iload hx hb dX5_refit_106 (lv_at hl 4 rfl) ?_
        refine lv_aload_n hx hb dX5_refit_108 rfl (lv_at hl 0 rfl) ?_
        refine va_get (ci := 5) (v := .ref breakers) (C := RX5) (T := TX5) (N := 5) hx hb hts (fun w h => tcons w (xin5 w h)) hown hK hP 0 rfl rfl 1 (by decide) (hts _ (tcons _ m78)) (fun _ h9 => h9) rfl dX5_refit_109 ?_
        refine lv_iload hx hb dX5_refit_112 (lv_at hl 4 rfl) ?_
        obtain ⟨g114, hF⟩ := gdS hF
        refine va_lald hx hb hK hP 1 1 rfl rfl g114 dX5_refit_114 ?_
        refine lv_lload_n hx hb dX5_refit_115 rfl (lv_at hl 2 rfl) ?_
        refine lv_land hx hb dX5_refit_116 ?_
        refine lv_lload_n hx hb dX5_refit_117 rfl (lv_at hl 2 rfl) ?_
        refine W.lcmp hx hb dX5_refit_118 ?_
        refine lv_if_ne (tgt := 141) hx hb dX5_refit_119 (by decide) (fun c119 => ?_) (fun c119 => ?_)
        · have hF := itN c119 hF
          refine lv_iconst (v := 0) hx hb dX5_refit_141 (by decide) ?_
          obtain ⟨g142, hF⟩ := gdS hF
          refine va_zast hx hb hK hP hD hS 2 2 rfl rfl g142 dX5_refit_142 (fun H locs hP hD hS => ?_)
          have hP : va_P G.1 vwCl [(t, .inr (5, [.ref spread, .ref breakers, .ref fit, .int v94_1, .ref counted])), (breakers, .inl (xJ G, 729, .inr (.inl breakers_f))), (fit, .inl (xZ G, 729, .inl (upd v94_2 v94_0.toNatClampNeg (vp_nar .boolean (0 : Int32))))), (counted, .inl (xI G, 64, .inl v65_1)), (o, .inr (1, [.ref o_q, .int o_m])), (o_q, .inl (xI G, on, .inl o_f))] H := hP
          have hD : va_D A [(t, .inr (5, [.ref spread, .ref breakers, .ref fit, .int v94_1, .ref counted])), (breakers, .inl (xJ G, 729, .inr (.inl breakers_f))), (fit, .inl (xZ G, 729, .inl (upd v94_2 v94_0.toNatClampNeg (vp_nar .boolean (0 : Int32))))), (counted, .inl (xI G, 64, .inl v65_1)), (o, .inr (1, [.ref o_q, .int o_m])), (o_q, .inl (xI G, on, .inl o_f))] := hD
          refine lv_aload_n hx hb dX5_refit_143 rfl (lv_at hl 0 rfl) ?_
          refine lv_dup hx hb dX5_refit_144 rfl ?_
          refine va_get (ci := 5) (v := .int v94_1) (C := RX5) (T := TX5) (N := 5) hx hb hts (fun w h => tcons w (xin5 w h)) hown hK hP 0 rfl rfl 3 (by decide) (hts _ (tcons _ m81)) (fun _ h9 => h9) rfl dX5_refit_145 ?_
          refine lv_aload_n hx hb dX5_refit_148 rfl (lv_at hl 0 rfl) ?_
          refine va_get (ci := 5) (v := .ref fit) (C := RX5) (T := TX5) (N := 5) hx hb hts (fun w h => tcons w (xin5 w h)) hown hK hP 0 rfl rfl 2 (by decide) (hts _ (tcons _ m80)) (fun _ h9 => h9) rfl dX5_refit_149 ?_
          refine lv_iload hx hb dX5_refit_152 (lv_at hl 4 rfl) ?_
          obtain ⟨g154, hF⟩ := gdS hF
          refine va_zald hx hb hK hP 2 2 rfl rfl g154 dX5_refit_154 ?_
          refine lv_if_eq (tgt := 162) hx hb dX5_refit_155 (by decide) (fun c155 => ?_) (fun c155 => ?_)
          · have hF := itP c155 hF
            refine lv_iconst (v := 0) hx hb dX5_refit_162 (by decide) ?_
            refine lv_iadd hx hb dX5_refit_163 ?_
            refine va_put (ci := 5) (v := .int (v94_1 + (0 : Int32))) (ty := .int) (C := RX5) (T := TX5) (N := 5) hx hb hts (fun w h => tcons w (xin5 w h)) tyX5 tyX5_ok nmX5 hown hK hP hD hS 0 rfl rfl 3 (by decide) (hts _ (tcons _ m81)) (fun _ h9 => h9) rfl (by decide +kernel) rfl rfl (Nat.le_of_ble_eq_true rfl) dX5_refit_164 (fun H locs hP hD hS => ?_)
            have hP : va_P G.1 vwCl [(t, .inr (5, [.ref spread, .ref breakers, .ref fit, .int (v94_1 + (0 : Int32)), .ref counted])), (breakers, .inl (xJ G, 729, .inr (.inl breakers_f))), (fit, .inl (xZ G, 729, .inl (upd v94_2 v94_0.toNatClampNeg (vp_nar .boolean (0 : Int32))))), (counted, .inl (xI G, 64, .inl v65_1)), (o, .inr (1, [.ref o_q, .int o_m])), (o_q, .inl (xI G, on, .inl o_f))] H := hP
            have hD : va_D A [(t, .inr (5, [.ref spread, .ref breakers, .ref fit, .int (v94_1 + (0 : Int32)), .ref counted])), (breakers, .inl (xJ G, 729, .inr (.inl breakers_f))), (fit, .inl (xZ G, 729, .inl (upd v94_2 v94_0.toNatClampNeg (vp_nar .boolean (0 : Int32))))), (counted, .inl (xI G, 64, .inl v65_1)), (o, .inr (1, [.ref o_q, .int o_m])), (o_q, .inl (xI G, on, .inl o_f))] := hD
            refine lv_iinc (v := (v94_0 + (1 : Int32))) (lv' := [(6, .int (v94_0 + (1 : Int32))), (0, .ref t), (1, .ref o), (2, .long v8_0), (4, .long v8_1)]) hx hb dX5_refit_167 hl (k := 4) rfl (xInc_1 _) (by decide) rfl (fun ls hl => ?_)
            refine lv_goto (tgt := 94) hx hb dX5_refit_170 (by decide) ?_
            exact ih94 (v94_0 + (1 : Int32)) (v94_1 + (0 : Int32)) (upd v94_2 v94_0.toNatClampNeg (vp_nar .boolean (0 : Int32))) H locs ls ⟨hP, hD, hS, lv_sub hl [1, 2, 3, 4, 0] rfl⟩ hF
          · have hF := itN c155 hF
            refine lv_iconst (v := 1) hx hb dX5_refit_158 (by decide) ?_
            refine lv_goto (tgt := 163) hx hb dX5_refit_159 (by decide) ?_
            refine lv_iadd hx hb dX5_refit_163 ?_
            refine va_put (ci := 5) (v := .int (v94_1 + (1 : Int32))) (ty := .int) (C := RX5) (T := TX5) (N := 5) hx hb hts (fun w h => tcons w (xin5 w h)) tyX5 tyX5_ok nmX5 hown hK hP hD hS 0 rfl rfl 3 (by decide) (hts _ (tcons _ m81)) (fun _ h9 => h9) rfl (by decide +kernel) rfl rfl (Nat.le_of_ble_eq_true rfl) dX5_refit_164 (fun H locs hP hD hS => ?_)
            have hP : va_P G.1 vwCl [(t, .inr (5, [.ref spread, .ref breakers, .ref fit, .int (v94_1 + (1 : Int32)), .ref counted])), (breakers, .inl (xJ G, 729, .inr (.inl breakers_f))), (fit, .inl (xZ G, 729, .inl (upd v94_2 v94_0.toNatClampNeg (vp_nar .boolean (0 : Int32))))), (counted, .inl (xI G, 64, .inl v65_1)), (o, .inr (1, [.ref o_q, .int o_m])), (o_q, .inl (xI G, on, .inl o_f))] H := hP
            have hD : va_D A [(t, .inr (5, [.ref spread, .ref breakers, .ref fit, .int (v94_1 + (1 : Int32)), .ref counted])), (breakers, .inl (xJ G, 729, .inr (.inl breakers_f))), (fit, .inl (xZ G, 729, .inl (upd v94_2 v94_0.toNatClampNeg (vp_nar .boolean (0 : Int32))))), (counted, .inl (xI G, 64, .inl v65_1)), (o, .inr (1, [.ref o_q, .int o_m])), (o_q, .inl (xI G, on, .inl o_f))] := hD
            refine lv_iinc (v := (v94_0 + (1 : Int32))) (lv' := [(6, .int (v94_0 + (1 : Int32))), (0, .ref t), (1, .ref o), (2, .long v8_0), (4, .long v8_1)]) hx hb dX5_refit_167 hl (k := 4) rfl (xInc_1 _) (by decide) rfl (fun ls hl => ?_)
            refine lv_goto (tgt := 94) hx hb dX5_refit_170 (by decide) ?_
            exact ih94 (v94_0 + (1 : Int32)) (v94_1 + (1 : Int32)) (upd v94_2 v94_0.toNatClampNeg (vp_nar .boolean (0 : Int32))) H locs ls ⟨hP, hD, hS, lv_sub hl [1, 2, 3, 4, 0] rfl⟩ hF
        · have hF := itP c119 hF
          refine lv_aload_n hx hb dX5_refit_122 rfl (lv_at hl 0 rfl) ?_
          refine va_get (ci := 5) (v := .ref breakers) (C := RX5) (T := TX5) (N := 5) hx hb hts (fun w h => tcons w (xin5 w h)) hown hK hP 0 rfl rfl 1 (by decide) (hts _ (tcons _ m78)) (fun _ h9 => h9) rfl dX5_refit_123 ?_
          refine lv_iload hx hb dX5_refit_126 (lv_at hl 4 rfl) ?_
          obtain ⟨g128, hF⟩ := gdS hF
          refine va_lald hx hb hK hP 1 1 rfl rfl g128 dX5_refit_128 ?_
          refine lv_lload hx hb dX5_refit_129 (lv_at hl 3 rfl) ?_
          refine lv_land hx hb dX5_refit_131 ?_
          refine lv_lconst (v := 0) hx hb dX5_refit_132 (by decide) ?_
          refine W.lcmp hx hb dX5_refit_133 ?_
          refine lv_if_ne (tgt := 141) hx hb dX5_refit_134 (by decide) (fun c134 => ?_) (fun c134 => ?_)
          · have hF := itN c134 hF
            refine lv_iconst (v := 0) hx hb dX5_refit_141 (by decide) ?_
            obtain ⟨g142, hF⟩ := gdS hF
            refine va_zast hx hb hK hP hD hS 2 2 rfl rfl g142 dX5_refit_142 (fun H locs hP hD hS => ?_)
            have hP : va_P G.1 vwCl [(t, .inr (5, [.ref spread, .ref breakers, .ref fit, .int v94_1, .ref counted])), (breakers, .inl (xJ G, 729, .inr (.inl breakers_f))), (fit, .inl (xZ G, 729, .inl (upd v94_2 v94_0.toNatClampNeg (vp_nar .boolean (0 : Int32))))), (counted, .inl (xI G, 64, .inl v65_1)), (o, .inr (1, [.ref o_q, .int o_m])), (o_q, .inl (xI G, on, .inl o_f))] H := hP
            have hD : va_D A [(t, .inr (5, [.ref spread, .ref breakers, .ref fit, .int v94_1, .ref counted])), (breakers, .inl (xJ G, 729, .inr (.inl breakers_f))), (fit, .inl (xZ G, 729, .inl (upd v94_2 v94_0.toNatClampNeg (vp_nar .boolean (0 : Int32))))), (counted, .inl (xI G, 64, .inl v65_1)), (o, .inr (1, [.ref o_q, .int o_m])), (o_q, .inl (xI G, on, .inl o_f))] := hD
            refine lv_aload_n hx hb dX5_refit_143 rfl (lv_at hl 0 rfl) ?_
            refine lv_dup hx hb dX5_refit_144 rfl ?_
            refine va_get (ci := 5) (v := .int v94_1) (C := RX5) (T := TX5) (N := 5) hx hb hts (fun w h => tcons w (xin5 w h)) hown hK hP 0 rfl rfl 3 (by decide) (hts _ (tcons _ m81)) (fun _ h9 => h9) rfl dX5_refit_145 ?_
            refine lv_aload_n hx hb dX5_refit_148 rfl (lv_at hl 0 rfl) ?_
            refine va_get (ci := 5) (v := .ref fit) (C := RX5) (T := TX5) (N := 5) hx hb hts (fun w h => tcons w (xin5 w h)) hown hK hP 0 rfl rfl 2 (by decide) (hts _ (tcons _ m80)) (fun _ h9 => h9) rfl dX5_refit_149 ?_
            refine lv_iload hx hb dX5_refit_152 (lv_at hl 4 rfl) ?_
            obtain ⟨g154, hF⟩ := gdS hF
            refine va_zald hx hb hK hP 2 2 rfl rfl g154 dX5_refit_154 ?_
            refine lv_if_eq (tgt := 162) hx hb dX5_refit_155 (by decide) (fun c155 => ?_) (fun c155 => ?_)
            · have hF := itP c155 hF
              refine lv_iconst (v := 0) hx hb dX5_refit_162 (by decide) ?_
              refine lv_iadd hx hb dX5_refit_163 ?_
              refine va_put (ci := 5) (v := .int (v94_1 + (0 : Int32))) (ty := .int) (C := RX5) (T := TX5) (N := 5) hx hb hts (fun w h => tcons w (xin5 w h)) tyX5 tyX5_ok nmX5 hown hK hP hD hS 0 rfl rfl 3 (by decide) (hts _ (tcons _ m81)) (fun _ h9 => h9) rfl (by decide +kernel) rfl rfl (Nat.le_of_ble_eq_true rfl) dX5_refit_164 (fun H locs hP hD hS => ?_)
              have hP : va_P G.1 vwCl [(t, .inr (5, [.ref spread, .ref breakers, .ref fit, .int (v94_1 + (0 : Int32)), .ref counted])), (breakers, .inl (xJ G, 729, .inr (.inl breakers_f))), (fit, .inl (xZ G, 729, .inl (upd v94_2 v94_0.toNatClampNeg (vp_nar .boolean (0 : Int32))))), (counted, .inl (xI G, 64, .inl v65_1)), (o, .inr (1, [.ref o_q, .int o_m])), (o_q, .inl (xI G, on, .inl o_f))] H := hP
              have hD : va_D A [(t, .inr (5, [.ref spread, .ref breakers, .ref fit, .int (v94_1 + (0 : Int32)), .ref counted])), (breakers, .inl (xJ G, 729, .inr (.inl breakers_f))), (fit, .inl (xZ G, 729, .inl (upd v94_2 v94_0.toNatClampNeg (vp_nar .boolean (0 : Int32))))), (counted, .inl (xI G, 64, .inl v65_1)), (o, .inr (1, [.ref o_q, .int o_m])), (o_q, .inl (xI G, on, .inl o_f))] := hD
              refine lv_iinc (v := (v94_0 + (1 : Int32))) (lv' := [(6, .int (v94_0 + (1 : Int32))), (0, .ref t), (1, .ref o), (2, .long v8_0), (4, .long v8_1)]) hx hb dX5_refit_167 hl (k := 4) rfl (xInc_1 _) (by decide) rfl (fun ls hl => ?_)
              refine lv_goto (tgt := 94) hx hb dX5_refit_170 (by decide) ?_
              exact ih94 (v94_0 + (1 : Int32)) (v94_1 + (0 : Int32)) (upd v94_2 v94_0.toNatClampNeg (vp_nar .boolean (0 : Int32))) H locs ls ⟨hP, hD, hS, lv_sub hl [1, 2, 3, 4, 0] rfl⟩ hF
            · have hF := itN c155 hF
              refine lv_iconst (v := 1) hx hb dX5_refit_158 (by decide) ?_
              refine lv_goto (tgt := 163) hx hb dX5_refit_159 (by decide) ?_
              refine lv_iadd hx hb dX5_refit_163 ?_
              refine va_put (ci := 5) (v := .int (v94_1 + (1 : Int32))) (ty := .int) (C := RX5) (T := TX5) (N := 5) hx hb hts (fun w h => tcons w (xin5 w h)) tyX5 tyX5_ok nmX5 hown hK hP hD hS 0 rfl rfl 3 (by decide) (hts _ (tcons _ m81)) (fun _ h9 => h9) rfl (by decide +kernel) rfl rfl (Nat.le_of_ble_eq_true rfl) dX5_refit_164 (fun H locs hP hD hS => ?_)
              have hP : va_P G.1 vwCl [(t, .inr (5, [.ref spread, .ref breakers, .ref fit, .int (v94_1 + (1 : Int32)), .ref counted])), (breakers, .inl (xJ G, 729, .inr (.inl breakers_f))), (fit, .inl (xZ G, 729, .inl (upd v94_2 v94_0.toNatClampNeg (vp_nar .boolean (0 : Int32))))), (counted, .inl (xI G, 64, .inl v65_1)), (o, .inr (1, [.ref o_q, .int o_m])), (o_q, .inl (xI G, on, .inl o_f))] H := hP
              have hD : va_D A [(t, .inr (5, [.ref spread, .ref breakers, .ref fit, .int (v94_1 + (1 : Int32)), .ref counted])), (breakers, .inl (xJ G, 729, .inr (.inl breakers_f))), (fit, .inl (xZ G, 729, .inl (upd v94_2 v94_0.toNatClampNeg (vp_nar .boolean (0 : Int32))))), (counted, .inl (xI G, 64, .inl v65_1)), (o, .inr (1, [.ref o_q, .int o_m])), (o_q, .inl (xI G, on, .inl o_f))] := hD
              refine lv_iinc (v := (v94_0 + (1 : Int32))) (lv' := [(6, .int (v94_0 + (1 : Int32))), (0, .ref t), (1, .ref o), (2, .long v8_0), (4, .long v8_1)]) hx hb dX5_refit_167 hl (k := 4) rfl (xInc_1 _) (by decide) rfl (fun ls hl => ?_)
              refine lv_goto (tgt := 94) hx hb dX5_refit_170 (by decide) ?_
              exact ih94 (v94_0 + (1 : Int32)) (v94_1 + (1 : Int32)) (upd v94_2 v94_0.toNatClampNeg (vp_nar .boolean (0 : Int32))) H locs ls ⟨hP, hD, hS, lv_sub hl [1, 2, 3, 4, 0] rfl⟩ hF
          · have hF := itP c134 hF
            refine lv_iconst (v := 1) hx hb dX5_refit_137 (by decide) ?_
            refine lv_goto (tgt := 142) hx hb dX5_refit_138 (by decide) ?_
            obtain ⟨g142, hF⟩ := gdS hF
            refine va_zast hx hb hK hP hD hS 2 2 rfl rfl g142 dX5_refit_142 (fun H locs hP hD hS => ?_)
            have hP : va_P G.1 vwCl [(t, .inr (5, [.ref spread, .ref breakers, .ref fit, .int v94_1, .ref counted])), (breakers, .inl (xJ G, 729, .inr (.inl breakers_f))), (fit, .inl (xZ G, 729, .inl (upd v94_2 v94_0.toNatClampNeg (vp_nar .boolean (1 : Int32))))), (counted, .inl (xI G, 64, .inl v65_1)), (o, .inr (1, [.ref o_q, .int o_m])), (o_q, .inl (xI G, on, .inl o_f))] H := hP
            have hD : va_D A [(t, .inr (5, [.ref spread, .ref breakers, .ref fit, .int v94_1, .ref counted])), (breakers, .inl (xJ G, 729, .inr (.inl breakers_f))), (fit, .inl (xZ G, 729, .inl (upd v94_2 v94_0.toNatClampNeg (vp_nar .boolean (1 : Int32))))), (counted, .inl (xI G, 64, .inl v65_1)), (o, .inr (1, [.ref o_q, .int o_m])), (o_q, .inl (xI G, on, .inl o_f))] := hD
            refine lv_aload_n hx hb dX5_refit_143 rfl (lv_at hl 0 rfl) ?_
            refine lv_dup hx hb dX5_refit_144 rfl ?_
            refine va_get (ci := 5) (v := .int v94_1) (C := RX5) (T := TX5) (N := 5) hx hb hts (fun w h => tcons w (xin5 w h)) hown hK hP 0 rfl rfl 3 (by decide) (hts _ (tcons _ m81)) (fun _ h9 => h9) rfl dX5_refit_145 ?_
            refine lv_aload_n hx hb dX5_refit_148 rfl (lv_at hl 0 rfl) ?_
            refine va_get (ci := 5) (v := .ref fit) (C := RX5) (T := TX5) (N := 5) hx hb hts (fun w h => tcons w (xin5 w h)) hown hK hP 0 rfl rfl 2 (by decide) (hts _ (tcons _ m80)) (fun _ h9 => h9) rfl dX5_refit_149 ?_
            refine lv_iload hx hb dX5_refit_152 (lv_at hl 4 rfl) ?_
            obtain ⟨g154, hF⟩ := gdS hF
            refine va_zald hx hb hK hP 2 2 rfl rfl g154 dX5_refit_154 ?_
            refine lv_if_eq (tgt := 162) hx hb dX5_refit_155 (by decide) (fun c155 => ?_) (fun c155 => ?_)
            · have hF := itP c155 hF
              refine lv_iconst (v := 0) hx hb dX5_refit_162 (by decide) ?_
              refine lv_iadd hx hb dX5_refit_163 ?_
              refine va_put (ci := 5) (v := .int (v94_1 + (0 : Int32))) (ty := .int) (C := RX5) (T := TX5) (N := 5) hx hb hts (fun w h => tcons w (xin5 w h)) tyX5 tyX5_ok nmX5 hown hK hP hD hS 0 rfl rfl 3 (by decide) (hts _ (tcons _ m81)) (fun _ h9 => h9) rfl (by decide +kernel) rfl rfl (Nat.le_of_ble_eq_true rfl) dX5_refit_164 (fun H locs hP hD hS => ?_)
              have hP : va_P G.1 vwCl [(t, .inr (5, [.ref spread, .ref breakers, .ref fit, .int (v94_1 + (0 : Int32)), .ref counted])), (breakers, .inl (xJ G, 729, .inr (.inl breakers_f))), (fit, .inl (xZ G, 729, .inl (upd v94_2 v94_0.toNatClampNeg (vp_nar .boolean (1 : Int32))))), (counted, .inl (xI G, 64, .inl v65_1)), (o, .inr (1, [.ref o_q, .int o_m])), (o_q, .inl (xI G, on, .inl o_f))] H := hP
              have hD : va_D A [(t, .inr (5, [.ref spread, .ref breakers, .ref fit, .int (v94_1 + (0 : Int32)), .ref counted])), (breakers, .inl (xJ G, 729, .inr (.inl breakers_f))), (fit, .inl (xZ G, 729, .inl (upd v94_2 v94_0.toNatClampNeg (vp_nar .boolean (1 : Int32))))), (counted, .inl (xI G, 64, .inl v65_1)), (o, .inr (1, [.ref o_q, .int o_m])), (o_q, .inl (xI G, on, .inl o_f))] := hD
              refine lv_iinc (v := (v94_0 + (1 : Int32))) (lv' := [(6, .int (v94_0 + (1 : Int32))), (0, .ref t), (1, .ref o), (2, .long v8_0), (4, .long v8_1)]) hx hb dX5_refit_167 hl (k := 4) rfl (xInc_1 _) (by decide) rfl (fun ls hl => ?_)
              refine lv_goto (tgt := 94) hx hb dX5_refit_170 (by decide) ?_
              exact ih94 (v94_0 + (1 : Int32)) (v94_1 + (0 : Int32)) (upd v94_2 v94_0.toNatClampNeg (vp_nar .boolean (1 : Int32))) H locs ls ⟨hP, hD, hS, lv_sub hl [1, 2, 3, 4, 0] rfl⟩ hF
            · have hF := itN c155 hF
              refine lv_iconst (v := 1) hx hb dX5_refit_158 (by decide) ?_
              refine lv_goto (tgt := 163) hx hb dX5_refit_159 (by decide) ?_
              refine lv_iadd hx hb dX5_refit_163 ?_
              refine va_put (ci := 5) (v := .int (v94_1 + (1 : Int32))) (ty := .int) (C := RX5) (T := TX5) (N := 5) hx hb hts (fun w h => tcons w (xin5 w h)) tyX5 tyX5_ok nmX5 hown hK hP hD hS 0 rfl rfl 3 (by decide) (hts _ (tcons _ m81)) (fun _ h9 => h9) rfl (by decide +kernel) rfl rfl (Nat.le_of_ble_eq_true rfl) dX5_refit_164 (fun H locs hP hD hS => ?_)
              have hP : va_P G.1 vwCl [(t, .inr (5, [.ref spread, .ref breakers, .ref fit, .int (v94_1 + (1 : Int32)), .ref counted])), (breakers, .inl (xJ G, 729, .inr (.inl breakers_f))), (fit, .inl (xZ G, 729, .inl (upd v94_2 v94_0.toNatClampNeg (vp_nar .boolean (1 : Int32))))), (counted, .inl (xI G, 64, .inl v65_1)), (o, .inr (1, [.ref o_q, .int o_m])), (o_q, .inl (xI G, on, .inl o_f))] H := hP
              have hD : va_D A [(t, .inr (5, [.ref spread, .ref breakers, .ref fit, .int (v94_1 + (1 : Int32)), .ref counted])), (breakers, .inl (xJ G, 729, .inr (.inl breakers_f))), (fit, .inl (xZ G, 729, .inl (upd v94_2 v94_0.toNatClampNeg (vp_nar .boolean (1 : Int32))))), (counted, .inl (xI G, 64, .inl v65_1)), (o, .inr (1, [.ref o_q, .int o_m])), (o_q, .inl (xI G, on, .inl o_f))] := hD
              refine lv_iinc (v := (v94_0 + (1 : Int32))) (lv' := [(6, .int (v94_0 + (1 : Int32))), (0, .ref t), (1, .ref o), (2, .long v8_0), (4, .long v8_1)]) hx hb dX5_refit_167 hl (k := 4) rfl (xInc_1 _) (by decide) rfl (fun ls hl => ?_)
              refine lv_goto (tgt := 94) hx hb dX5_refit_170 (by decide) ?_
              exact ih94 (v94_0 + (1 : Int32)) (v94_1 + (1 : Int32)) (upd v94_2 v94_0.toNatClampNeg (vp_nar .boolean (1 : Int32))) H locs ls ⟨hP, hD, hS, lv_sub hl [1, 2, 3, 4, 0] rfl⟩ hF
    · have hF := itN c69 hF
      refine lv_aload_n hx hb dX5_refit_72 rfl (lv_at hl 0 rfl) ?_
      refine va_get (ci := 5) (v := .ref counted) (C := RX5) (T := TX5) (N := 5) hx hb hts (fun w h => tcons w (xin5 w h)) hown hK hP 0 rfl rfl 4 (by decide) (hts _ (tcons _ m82)) (fun _ h9 => h9) rfl dX5_refit_73 ?_
      refine lv_iload hx hb dX5_refit_76 (lv_at hl 4 rfl) ?_
      refine lv_iconst (v := -1) hx hb dX5_refit_78 (by decide) ?_
      obtain ⟨g79, hF⟩ := gdS hF
      refine va_iast hx hb hK hP hD hS 3 0 rfl rfl g79 dX5_refit_79 (fun H locs hP hD hS => ?_)
      have hP : va_P G.1 vwCl [(t, .inr (5, [.ref spread, .ref breakers, .ref fit, .int fitting, .ref counted])), (breakers, .inl (xJ G, 729, .inr (.inl breakers_f))), (fit, .inl (xZ G, 729, .inl fit_f)), (counted, .inl (xI G, 64, .inl (upd v65_1 v65_0.toNatClampNeg (-1 : Int32)))), (o, .inr (1, [.ref o_q, .int o_m])), (o_q, .inl (xI G, on, .inl o_f))] H := hP
      have hD : va_D A [(t, .inr (5, [.ref spread, .ref breakers, .ref fit, .int fitting, .ref counted])), (breakers, .inl (xJ G, 729, .inr (.inl breakers_f))), (fit, .inl (xZ G, 729, .inl fit_f)), (counted, .inl (xI G, 64, .inl (upd v65_1 v65_0.toNatClampNeg (-1 : Int32)))), (o, .inr (1, [.ref o_q, .int o_m])), (o_q, .inl (xI G, on, .inl o_f))] := hD
      refine lv_iinc (v := (v65_0 + (1 : Int32))) (lv' := [(6, .int (v65_0 + (1 : Int32))), (0, .ref t), (1, .ref o), (2, .long v8_0), (4, .long v8_1)]) hx hb dX5_refit_80 hl (k := 4) rfl (xInc_1 _) (by decide) rfl (fun ls hl => ?_)
      refine lv_goto (tgt := 65) hx hb dX5_refit_83 (by decide) ?_
      exact ih65 (v65_0 + (1 : Int32)) (upd v65_1 v65_0.toNatClampNeg (-1 : Int32)) H locs ls ⟨hP, hD, hS, lv_sub hl [1, 2, 3, 4, 0] rfl⟩ hF
  · have hF := itN c14 hF
    refine lv_lconst (v := 1) hx hb dX5_refit_17 (by decide) ?_
    refine lv_aload_n hx hb dX5_refit_18 rfl (lv_at hl 1 rfl) ?_
    refine lv_iload hx hb dX5_refit_19 (lv_at hl 4 rfl) ?_
    obtain ⟨u2, e2, hF⟩ := bdS hF
    refine xEndI (xRunV (As := [.int v8_2]) (rest := [.long (1 : Int64)]) hZ (c_X1_get G o o_q on o_m o_f v8_2 u2 e2 l H.size) m129 m130 m131 m49 m132 1 ⟨rfl, hdX1_get⟩ ⟨Nat.le_of_ble_eq_true rfl, Nat.le_of_ble_eq_true rfl⟩ ⟨rfl, rfl⟩ hP hD hS 4 1 rfl rfl rfl [4, 5] rfl rfl rfl hl.1 rfl (Nat.le_of_ble_eq_true rfl) dX5_refit_21 ⟨Nat.zero_le _, Nat.zero_le _⟩) hP hD hS hA [4, 5] rfl rfl rfl (fun H locs n2 hP hD hS => ?_)
    have hP : va_P G.1 vwCl [(t, .inr (5, [.ref spread, .ref breakers, .ref fit, .int fitting, .ref counted])), (breakers, .inl (xJ G, 729, .inr (.inl breakers_f))), (fit, .inl (xZ G, 729, .inl fit_f)), (counted, .inl (xI G, 64, .inl counted_f)), (o, .inr (1, [.ref o_q, .int o_m])), (o_q, .inl (xI G, on, .inl o_f))] H := hP
    have hD : va_D A [(t, .inr (5, [.ref spread, .ref breakers, .ref fit, .int fitting, .ref counted])), (breakers, .inl (xJ G, 729, .inr (.inl breakers_f))), (fit, .inl (xZ G, 729, .inl fit_f)), (counted, .inl (xI G, 64, .inl counted_f)), (o, .inr (1, [.ref o_q, .int o_m])), (o_q, .inl (xI G, on, .inl o_f))] := hD
    refine lv_iconst (v := 2) hx hb dX5_refit_24 (by decide) ?_
    refine lv_idiv hx hb dX5_refit_25 (by decide) ?_
    refine lv_lshl hx hb dX5_refit_26 rfl ?_
    refine lv_lstore (lv' := [(7, .long ((1 : Int64) <<< ((u2 / (2 : Int32)).toInt64 &&& 63))), (0, .ref t), (1, .ref o), (2, .long v8_0), (4, .long v8_1), (6, .int v8_2)]) hx hb dX5_refit_27 hl (by decide) rfl (fun ls hl => ?_)
    refine lv_aload_n hx hb dX5_refit_29 rfl (lv_at hl 2 rfl) ?_
    refine lv_iload hx hb dX5_refit_30 (lv_at hl 5 rfl) ?_
    obtain ⟨u3, e3, hF⟩ := bdS hF
    refine xEndI (xRunV (As := [.int v8_2]) (rest := []) hZ (c_X1_get G o o_q on o_m o_f v8_2 u3 e3 l H.size) m129 m130 m131 m49 m132 1 ⟨rfl, hdX1_get⟩ ⟨Nat.le_of_ble_eq_true rfl, Nat.le_of_ble_eq_true rfl⟩ ⟨rfl, rfl⟩ hP hD hS 4 1 rfl rfl rfl [4, 5] rfl rfl rfl hl.1 rfl (Nat.le_of_ble_eq_true rfl) dX5_refit_32 ⟨Nat.zero_le _, Nat.zero_le _⟩) hP hD hS hA [4, 5] rfl rfl rfl (fun H locs n3 hP hD hS => ?_)
    have hP : va_P G.1 vwCl [(t, .inr (5, [.ref spread, .ref breakers, .ref fit, .int fitting, .ref counted])), (breakers, .inl (xJ G, 729, .inr (.inl breakers_f))), (fit, .inl (xZ G, 729, .inl fit_f)), (counted, .inl (xI G, 64, .inl counted_f)), (o, .inr (1, [.ref o_q, .int o_m])), (o_q, .inl (xI G, on, .inl o_f))] H := hP
    have hD : va_D A [(t, .inr (5, [.ref spread, .ref breakers, .ref fit, .int fitting, .ref counted])), (breakers, .inl (xJ G, 729, .inr (.inl breakers_f))), (fit, .inl (xZ G, 729, .inl fit_f)), (counted, .inl (xI G, 64, .inl counted_f)), (o, .inr (1, [.ref o_q, .int o_m])), (o_q, .inl (xI G, on, .inl o_f))] := hD
    refine lv_iconst (v := 2) hx hb dX5_refit_35 (by decide) ?_
    refine lv_irem hx hb dX5_refit_36 (by decide) ?_
    refine lv_iconst (v := 1) hx hb dX5_refit_37 (by decide) ?_
    refine lv_icmp_ne (tgt := 49) hx hb dX5_refit_38 (by decide) (fun c38 => ?_) (fun c38 => ?_)
    · have hF := itN c38 hF
      refine lv_lload hx hb dX5_refit_49 (lv_at hl 4 rfl) ?_
      refine lv_lload hx hb dX5_refit_51 (lv_at hl 0 rfl) ?_
      refine lv_lor hx hb dX5_refit_53 ?_
      refine lv_lstore (lv' := [(4, .long (v8_1 ||| ((1 : Int64) <<< ((u2 / (2 : Int32)).toInt64 &&& 63)))), (7, .long ((1 : Int64) <<< ((u2 / (2 : Int32)).toInt64 &&& 63))), (0, .ref t), (1, .ref o), (2, .long v8_0), (6, .int v8_2)]) hx hb dX5_refit_54 hl (by decide) rfl (fun ls hl => ?_)
      refine lv_iinc (v := (v8_2 + (1 : Int32))) (lv' := [(6, .int (v8_2 + (1 : Int32))), (4, .long (v8_1 ||| ((1 : Int64) <<< ((u2 / (2 : Int32)).toInt64 &&& 63)))), (7, .long ((1 : Int64) <<< ((u2 / (2 : Int32)).toInt64 &&& 63))), (0, .ref t), (1, .ref o), (2, .long v8_0)]) hx hb dX5_refit_56 hl (k := 5) rfl (xInc_1 _) (by decide) rfl (fun ls hl => ?_)
      refine lv_goto (tgt := 8) hx hb dX5_refit_59 (by decide) ?_
      exact ih8 v8_0 (v8_1 ||| ((1 : Int64) <<< ((u2 / (2 : Int32)).toInt64 &&& 63))) (v8_2 + (1 : Int32)) H locs ls ⟨hP, hD, hS, lv_sub hl [3, 4, 5, 1, 0] rfl⟩ hF
    · have hF := itP c38 hF
      refine lv_lload_n hx hb dX5_refit_41 rfl (lv_at hl 3 rfl) ?_
      refine lv_lload hx hb dX5_refit_42 (lv_at hl 0 rfl) ?_
      refine lv_lor hx hb dX5_refit_44 ?_
      refine lv_lstore_n (lv' := [(2, .long (v8_0 ||| ((1 : Int64) <<< ((u2 / (2 : Int32)).toInt64 &&& 63)))), (7, .long ((1 : Int64) <<< ((u2 / (2 : Int32)).toInt64 &&& 63))), (0, .ref t), (1, .ref o), (4, .long v8_1), (6, .int v8_2)]) hx hb dX5_refit_45 rfl hl (by decide) rfl (fun ls hl => ?_)
      refine lv_goto (tgt := 56) hx hb dX5_refit_46 (by decide) ?_
      refine lv_iinc (v := (v8_2 + (1 : Int32))) (lv' := [(6, .int (v8_2 + (1 : Int32))), (2, .long (v8_0 ||| ((1 : Int64) <<< ((u2 / (2 : Int32)).toInt64 &&& 63)))), (7, .long ((1 : Int64) <<< ((u2 / (2 : Int32)).toInt64 &&& 63))), (0, .ref t), (1, .ref o), (4, .long v8_1)]) hx hb dX5_refit_56 hl (k := 5) rfl (xInc_1 _) (by decide) rfl (fun ls hl => ?_)
      refine lv_goto (tgt := 8) hx hb dX5_refit_59 (by decide) ?_
      exact ih8 (v8_0 ||| ((1 : Int64) <<< ((u2 / (2 : Int32)).toInt64 &&& 63))) v8_1 (v8_2 + (1 : Int32)) H locs ls ⟨hP, hD, hS, lv_sub hl [3, 4, 1, 5, 0] rfl⟩ hF
def F_X5_fitting (fitting : Int32) : Option Int32 := some fitting
theorem hdX5_fitting : yX5_fitting.cls ≠ "java/lang/invoke/MethodHandle" ∧ yX5_fitting.cls ≠ "java/lang/invoke/VarHandle" ∧ (parseMethodDescriptor yX5_fitting.desc).map (fun d => d.parameters.length) = some 0 := by decide +kernel
set_option maxHeartbeats 4000000 in
set_option maxRecDepth 100000 in
theorem c_X5_fitting (G : xG) (t : Nat) (spread : Nat) (breakers : Nat) (fit : Nat) (counted : Nat) (fitting : Int32)  (u : Int32) (hF : F_X5_fitting fitting = some u) : Ki G .int yX5_fitting (Cond.code yX5_fitting cX5_fitting 1 (some .int) :: TBL) { frames := 0, cells := 0, slots := 0, locals := 0 } [.ref t] [(t, .inr (5, [.ref spread, .ref breakers, .ref fit, .int fitting, .ref counted]))] [(t, .inr (5, [.ref spread, .ref breakers, .ref fit, .int fitting, .ref counted]))] u := by
  intro l sz
  refine Met.ofW (cc := cX5_fitting) (maxL := 1) (ret := (some .int)) (by decide) rfl ?_
  intro p e s m args below meth c s₁ B hml hv
  obtain ⟨rfl, hsz, hP, hD0, hm⟩ := hv
  have hx := B.exec
  have hb := B.bytes
  have hr := B.returns
  have hts := atoms_spec (ws := Cond.code yX5_fitting cX5_fitting 1 (some .int) :: TBL) B.pre
  have hown : s.vm.findClass RX5 = some m.cls := findClass_of_methodNamed B.named
  have hlocks := B.notSynchronized
  subst hsz
  have hD := hD0.self (sz := s.heap.size)
  generalize hAe : va_A [(t, .inr (5, [.ref spread, .ref breakers, .ref fit, .int fitting, .ref counted]))] s.heap.size = A at hD hm ⊢
  have hA : ∀ q : Nat, s.heap.size ≤ q → A q := fun q h => by rw [← hAe]; exact Or.inr h
  have hK := hm.1
  have hZ : xAnd p m c cX5_fitting 1 s _ (Cond.code yX5_fitting cX5_fitting 1 (some .int) :: TBL) RX5 G A := ⟨⟨hx, hb, hml, hown, hts⟩, tcons, hA, hm⟩
  have hP : va_P G.1 vwCl [(t, .inr (5, [.ref spread, .ref breakers, .ref fit, .int fitting, .ref counted]))] s.heap := hP
  have hl := lv_entry ([.ref t]) (n := 1) (Nat.le_of_ble_eq_true rfl)
  rw [lg_entry_eq]
  generalize (lg_sl ([.ref t]) ++ List.replicate (1 - (lg_sl ([.ref t])).length) Slot.unset).toArray = ls at hl ⊢
  have hl : lv_has ls 1 [(0, .ref t)] := hl
  generalize hQ : MQ below _ _ s _ _ _ = Q
  refine xGo (A := A) hP (fun H locs hP hS => ?_)
  unfold F_X5_fitting at hF
  refine lv_aload_n hx hb dX5_fitting_0 rfl (lv_at hl 0 rfl) ?_
  refine va_get (ci := 5) (v := .int fitting) (C := RX5) (T := TX5) (N := 5) hx hb hts (fun w h => tcons w (xin5 w h)) hown hK hP 0 rfl rfl 3 (by decide) (hts _ (tcons _ m81)) (fun _ h9 => h9) rfl dX5_fitting_1 ?_
  obtain rfl := Option.some.inj hF
  rw [← hQ]
  exact W.iret (v := fitting) hx hb hr (fun t ht hW => ⟨⟨_, (), rfl, ⟨rfl, rfl⟩, xLf hP ht⟩, hS.F ht⟩) hS.2.2 dX5_fitting_4
def B_X5_countBroken_4 (spread_f : Nat → Int32) (fit_f : Nat → Int32) (sa : Int32) (k4 : (Int32 × Int32) → Option Int32) (v4 : (Int32 × Int32)) : Option Int32 := if (64 : Int32) ≤ v4.2 then (some v4.1) else (bd (F_X5_vowOf spread_f sa v4.2) (fun (u1 : Int32) => if u1 < 0 then (k4 (v4.1, (v4.2 + (1 : Int32)))) else (if (729 : Int32) ≤ u1 then (k4 (v4.1, (v4.2 + (1 : Int32)))) else (if (u1 < 0 ∨ 729 ≤ u1.toNatClampNeg) then none else (if (fit_f u1.toNatClampNeg) = 0 then (k4 (v4.1, (v4.2 + (1 : Int32)))) else (k4 ((v4.1 + (1 : Int32)), (v4.2 + (1 : Int32)))))))))
def F_X5_countBroken (spread_f : Nat → Int32) (fit_f : Nat → Int32) (sa : Int32) : Option Int32 := lp (B_X5_countBroken_4 spread_f fit_f sa) fuelC ((0 : Int32), (0 : Int32))
theorem hdX5_countBroken : yX5_countBroken.cls ≠ "java/lang/invoke/MethodHandle" ∧ yX5_countBroken.cls ≠ "java/lang/invoke/VarHandle" ∧ (parseMethodDescriptor yX5_countBroken.desc).map (fun d => d.parameters.length) = some 1 := by decide +kernel
set_option maxHeartbeats 4000000 in
set_option maxRecDepth 100000 in
theorem c_X5_countBroken (G : xG) (t : Nat) (spread : Nat) (breakers : Nat) (fit : Nat) (counted : Nat) (fitting : Int32) (spread_f : Nat → Int32) (fit_f : Nat → Int32) (sa : Int32)  (u : Int32) (hF : F_X5_countBroken spread_f fit_f sa = some u) : Ki G .int yX5_countBroken (Cond.code yX5_countBroken cX5_countBroken 5 (some .int) :: TBL) { frames := 1, cells := 0, slots := 0, locals := 23 } [.ref t, .int sa] [(t, .inr (5, [.ref spread, .ref breakers, .ref fit, .int fitting, .ref counted])), (spread, .inl (xI G, 64, .inl spread_f)), (fit, .inl (xZ G, 729, .inl fit_f))] [(t, .inr (5, [.ref spread, .ref breakers, .ref fit, .int fitting, .ref counted])), (spread, .inl (xI G, 64, .inl spread_f)), (fit, .inl (xZ G, 729, .inl fit_f))] u := by
  intro l sz
  refine Met.ofW (cc := cX5_countBroken) (maxL := 5) (ret := (some .int)) (by decide) rfl ?_
  intro p e s m args below meth c s₁ B hml hv
  obtain ⟨rfl, hsz, hP, hD0, hm⟩ := hv
  have hx := B.exec
  have hb := B.bytes
  have hr := B.returns
  have hts := atoms_spec (ws := Cond.code yX5_countBroken cX5_countBroken 5 (some .int) :: TBL) B.pre
  have hown : s.vm.findClass RX5 = some m.cls := findClass_of_methodNamed B.named
  have hlocks := B.notSynchronized
  subst hsz
  have hD := hD0.self (sz := s.heap.size)
  generalize hAe : va_A [(t, .inr (5, [.ref spread, .ref breakers, .ref fit, .int fitting, .ref counted])), (spread, .inl (xI G, 64, .inl spread_f)), (fit, .inl (xZ G, 729, .inl fit_f))] s.heap.size = A at hD hm ⊢
  have hA : ∀ q : Nat, s.heap.size ≤ q → A q := fun q h => by rw [← hAe]; exact Or.inr h
  have hK := hm.1
  have hZ : xAnd p m c cX5_countBroken 5 s _ (Cond.code yX5_countBroken cX5_countBroken 5 (some .int) :: TBL) RX5 G A := ⟨⟨hx, hb, hml, hown, hts⟩, tcons, hA, hm⟩
  have hP : va_P G.1 vwCl [(t, .inr (5, [.ref spread, .ref breakers, .ref fit, .int fitting, .ref counted])), (spread, .inl (xI G, 64, .inl spread_f)), (fit, .inl (xZ G, 729, .inl fit_f))] s.heap := hP
  have hl := lv_entry ([.ref t, .int sa]) (n := 5) (Nat.le_of_ble_eq_true rfl)
  rw [lg_entry_eq]
  generalize (lg_sl ([.ref t, .int sa]) ++ List.replicate (5 - (lg_sl ([.ref t, .int sa])).length) Slot.unset).toArray = ls at hl ⊢
  have hl : lv_has ls 5 [(0, .ref t), (1, .int sa)] := hl
  generalize hQ : MQ below _ _ s _ _ _ = Q
  refine xGo (A := A) hP (fun H locs hP hS => ?_)
  unfold F_X5_countBroken at hF
  refine lv_iconst (v := 0) hx hb dX5_countBroken_0 (by decide) ?_
  refine lv_istore_n (lv' := [(2, .int (0 : Int32)), (0, .ref t), (1, .int sa)]) hx hb dX5_countBroken_1 rfl hl (by decide) rfl (fun ls hl => ?_)
  refine lv_iconst (v := 0) hx hb dX5_countBroken_2 (by decide) ?_
  refine lv_istore_n (lv' := [(3, .int (0 : Int32)), (2, .int (0 : Int32)), (0, .ref t), (1, .int sa)]) hx hb dX5_countBroken_3 rfl hl (by decide) rfl (fun ls hl => ?_)
  refine xLoop2 (body := (B_X5_countBroken_4 spread_f fit_f sa)) (fun (v4_0 : Int32) (v4_1 : Int32) H locs ls => va_P G.1 vwCl [(t, .inr (5, [.ref spread, .ref breakers, .ref fit, .int fitting, .ref counted])), (spread, .inl (xI G, 64, .inl spread_f)), (fit, .inl (xZ G, 729, .inl fit_f))] H ∧ va_D A [(t, .inr (5, [.ref spread, .ref breakers, .ref fit, .int fitting, .ref counted])), (spread, .inl (xI G, 64, .inl spread_f)), (fit, .inl (xZ G, 729, .inl fit_f))] ∧ va_S A s.heap H locs ∧ lv_has ls 5 [(0, .ref t), (1, .int sa), (2, .int v4_0), (3, .int v4_1)]) (fun N4 v4_0 v4_1 ih4 H locs ls hI hF => ?_) fuelC (0 : Int32) (0 : Int32) H locs ls ⟨hP, hD, hS, lv_sub hl [2, 3, 1, 0] rfl⟩ hF
  obtain ⟨hP, hD, hS, hl⟩ := hI
  unfold B_X5_countBroken_4 at hF
  refine lv_iload_n hx hb dX5_countBroken_4 rfl (lv_at hl 3 rfl) ?_
  refine lv_bipush (v := 64) hx hb dX5_countBroken_5 (by decide) ?_
  refine lv_icmp_ge (tgt := 50) hx hb dX5_countBroken_7 (by decide) (fun c7 => ?_) (fun c7 => ?_)
  · have hF := itP c7 hF
    refine lv_iload_n hx hb dX5_countBroken_50 rfl (lv_at hl 2 rfl) ?_
    obtain rfl := Option.some.inj hF
    rw [← hQ]
    exact W.iret (v := v4_0) hx hb hr (fun t ht hW => ⟨⟨_, (), rfl, ⟨rfl, rfl⟩, xLf hP ht⟩, hS.F ht⟩) hS.2.2 dX5_countBroken_51
  · have hF := itN c7 hF
    refine lv_aload_n hx hb dX5_countBroken_10 rfl (lv_at hl 0 rfl) ?_
    refine lv_iload_n hx hb dX5_countBroken_11 rfl (lv_at hl 1 rfl) ?_
    refine lv_iload_n hx hb dX5_countBroken_12 rfl (lv_at hl 3 rfl) ?_
    obtain ⟨u1, e1, hF⟩ := bdS hF
    refine xEndI (xRunV (As := [.int sa, .int v4_1]) (rest := []) hZ (c_X5_vowOf G t spread breakers fit counted fitting spread_f sa v4_1 u1 e1 l H.size) m83 m84 m85 m22 m86 2 ⟨rfl, hdX5_vowOf⟩ ⟨Nat.le_of_ble_eq_true rfl, Nat.le_of_ble_eq_true rfl⟩ ⟨rfl, rfl⟩ hP hD hS 0 5 rfl rfl rfl [0, 1] rfl rfl rfl hl.1 rfl (Nat.le_of_ble_eq_true rfl) dX5_countBroken_13 ⟨Nat.zero_le _, Nat.zero_le _⟩) hP hD hS hA [0, 1] rfl rfl rfl (fun H locs n1 hP hD hS => ?_)
    have hP : va_P G.1 vwCl [(t, .inr (5, [.ref spread, .ref breakers, .ref fit, .int fitting, .ref counted])), (spread, .inl (xI G, 64, .inl spread_f)), (fit, .inl (xZ G, 729, .inl fit_f))] H := hP
    have hD : va_D A [(t, .inr (5, [.ref spread, .ref breakers, .ref fit, .int fitting, .ref counted])), (spread, .inl (xI G, 64, .inl spread_f)), (fit, .inl (xZ G, 729, .inl fit_f))] := hD
    refine lv_istore (lv' := [(4, .int u1), (0, .ref t), (1, .int sa), (2, .int v4_0), (3, .int v4_1)]) hx hb dX5_countBroken_16 hl (by decide) rfl (fun ls hl => ?_)
    refine lv_iload hx hb dX5_countBroken_18 (lv_at hl 0 rfl) ?_
    refine lv_if_lt (tgt := 44) hx hb dX5_countBroken_20 (by decide) (fun c20 => ?_) (fun c20 => ?_)
    · have hF := itP c20 hF
      refine lv_iinc (v := (v4_1 + (1 : Int32))) (lv' := [(3, .int (v4_1 + (1 : Int32))), (4, .int u1), (0, .ref t), (1, .int sa), (2, .int v4_0)]) hx hb dX5_countBroken_44 hl (k := 4) rfl (xInc_1 _) (by decide) rfl (fun ls hl => ?_)
      refine lv_goto (tgt := 4) hx hb dX5_countBroken_47 (by decide) ?_
      exact ih4 v4_0 (v4_1 + (1 : Int32)) H locs ls ⟨hP, hD, hS, lv_sub hl [2, 3, 4, 0] rfl⟩ hF
    · have hF := itN c20 hF
      refine lv_iload hx hb dX5_countBroken_23 (lv_at hl 0 rfl) ?_
      refine lv_sipush (v := 729) hx hb dX5_countBroken_25 (by decide) ?_
      refine lv_icmp_ge (tgt := 44) hx hb dX5_countBroken_28 (by decide) (fun c28 => ?_) (fun c28 => ?_)
      · have hF := itP c28 hF
        refine lv_iinc (v := (v4_1 + (1 : Int32))) (lv' := [(3, .int (v4_1 + (1 : Int32))), (4, .int u1), (0, .ref t), (1, .int sa), (2, .int v4_0)]) hx hb dX5_countBroken_44 hl (k := 4) rfl (xInc_1 _) (by decide) rfl (fun ls hl => ?_)
        refine lv_goto (tgt := 4) hx hb dX5_countBroken_47 (by decide) ?_
        exact ih4 v4_0 (v4_1 + (1 : Int32)) H locs ls ⟨hP, hD, hS, lv_sub hl [2, 3, 4, 0] rfl⟩ hF
      · have hF := itN c28 hF
        refine lv_aload_n hx hb dX5_countBroken_31 rfl (lv_at hl 1 rfl) ?_
        refine va_get (ci := 5) (v := .ref fit) (C := RX5) (T := TX5) (N := 5) hx hb hts (fun w h => tcons w (xin5 w h)) hown hK hP 0 rfl rfl 2 (by decide) (hts _ (tcons _ m80)) (fun _ h9 => h9) rfl dX5_countBroken_32 ?_
        refine lv_iload hx hb dX5_countBroken_35 (lv_at hl 0 rfl) ?_
        obtain ⟨g37, hF⟩ := gdS hF
        refine va_zald hx hb hK hP 2 2 rfl rfl g37 dX5_countBroken_37 ?_
        refine lv_if_eq (tgt := 44) hx hb dX5_countBroken_38 (by decide) (fun c38 => ?_) (fun c38 => ?_)
        · have hF := itP c38 hF
          refine lv_iinc (v := (v4_1 + (1 : Int32))) (lv' := [(3, .int (v4_1 + (1 : Int32))), (4, .int u1), (0, .ref t), (1, .int sa), (2, .int v4_0)]) hx hb dX5_countBroken_44 hl (k := 4) rfl (xInc_1 _) (by decide) rfl (fun ls hl => ?_)
          refine lv_goto (tgt := 4) hx hb dX5_countBroken_47 (by decide) ?_
          exact ih4 v4_0 (v4_1 + (1 : Int32)) H locs ls ⟨hP, hD, hS, lv_sub hl [2, 3, 4, 0] rfl⟩ hF
        · have hF := itN c38 hF
          refine lv_iinc (v := (v4_0 + (1 : Int32))) (lv' := [(2, .int (v4_0 + (1 : Int32))), (4, .int u1), (0, .ref t), (1, .int sa), (3, .int v4_1)]) hx hb dX5_countBroken_41 hl (k := 3) rfl (xInc_1 _) (by decide) rfl (fun ls hl => ?_)
          refine lv_iinc (v := (v4_1 + (1 : Int32))) (lv' := [(3, .int (v4_1 + (1 : Int32))), (2, .int (v4_0 + (1 : Int32))), (4, .int u1), (0, .ref t), (1, .int sa)]) hx hb dX5_countBroken_44 hl (k := 4) rfl (xInc_1 _) (by decide) rfl (fun ls hl => ?_)
          refine lv_goto (tgt := 4) hx hb dX5_countBroken_47 (by decide) ?_
          exact ih4 (v4_0 + (1 : Int32)) (v4_1 + (1 : Int32)) H locs ls ⟨hP, hD, hS, lv_sub hl [3, 4, 1, 0] rfl⟩ hF
def F_X5_broken (spread_f : Nat → Int32) (fit_f : Nat → Int32) (counted_f : Nat → Int32) (sa : Int32) : Option (Int32 × (Nat → Int32)) := bd (F_X7_isSaying sa) (fun (u1 : Int32) => if u1 = 0 then (some ((0 : Int32), counted_f)) else (if (sa < 0 ∨ 64 ≤ sa.toNatClampNeg) then none else (if 0 ≤ (counted_f sa.toNatClampNeg) then (if (sa < 0 ∨ 64 ≤ sa.toNatClampNeg) then none else (some ((counted_f sa.toNatClampNeg), counted_f))) else (bd (F_X5_countBroken spread_f fit_f sa) (fun (u2 : Int32) => if (sa < 0 ∨ 64 ≤ sa.toNatClampNeg) then none else (if (sa < 0 ∨ 64 ≤ sa.toNatClampNeg) then none else (some (((upd counted_f sa.toNatClampNeg u2) sa.toNatClampNeg), (upd counted_f sa.toNatClampNeg u2)))))))))
theorem hdX5_broken : yX5_broken.cls ≠ "java/lang/invoke/MethodHandle" ∧ yX5_broken.cls ≠ "java/lang/invoke/VarHandle" ∧ (parseMethodDescriptor yX5_broken.desc).map (fun d => d.parameters.length) = some 1 := by decide +kernel
set_option maxHeartbeats 4000000 in
set_option maxRecDepth 100000 in
theorem c_X5_broken (G : xG) (t : Nat) (spread : Nat) (breakers : Nat) (fit : Nat) (counted : Nat) (fitting : Int32) (spread_f : Nat → Int32) (fit_f : Nat → Int32) (counted_f : Nat → Int32) (sa : Int32)  (u : (Int32 × (Nat → Int32))) (hF : F_X5_broken spread_f fit_f counted_f sa = some u) : Ki G .int yX5_broken (Cond.code yX5_broken cX5_broken 2 (some .int) :: TBL) { frames := 2, cells := 0, slots := 0, locals := 47 } [.ref t, .int sa] [(t, .inr (5, [.ref spread, .ref breakers, .ref fit, .int fitting, .ref counted])), (spread, .inl (xI G, 64, .inl spread_f)), (fit, .inl (xZ G, 729, .inl fit_f)), (counted, .inl (xI G, 64, .inl counted_f))] [(t, .inr (5, [.ref spread, .ref breakers, .ref fit, .int fitting, .ref counted])), (spread, .inl (xI G, 64, .inl spread_f)), (fit, .inl (xZ G, 729, .inl fit_f)), (counted, .inl (xI G, 64, .inl u.2))] u.1 := by
  intro l sz
  refine Met.ofW (cc := cX5_broken) (maxL := 2) (ret := (some .int)) (by decide) rfl ?_
  intro p e s m args below meth c s₁ B hml hv
  obtain ⟨rfl, hsz, hP, hD0, hm⟩ := hv
  have hx := B.exec
  have hb := B.bytes
  have hr := B.returns
  have hts := atoms_spec (ws := Cond.code yX5_broken cX5_broken 2 (some .int) :: TBL) B.pre
  have hown : s.vm.findClass RX5 = some m.cls := findClass_of_methodNamed B.named
  have hlocks := B.notSynchronized
  subst hsz
  have hD := hD0.self (sz := s.heap.size)
  generalize hAe : va_A [(t, .inr (5, [.ref spread, .ref breakers, .ref fit, .int fitting, .ref counted])), (spread, .inl (xI G, 64, .inl spread_f)), (fit, .inl (xZ G, 729, .inl fit_f)), (counted, .inl (xI G, 64, .inl counted_f))] s.heap.size = A at hD hm ⊢
  have hA : ∀ q : Nat, s.heap.size ≤ q → A q := fun q h => by rw [← hAe]; exact Or.inr h
  have hK := hm.1
  have hZ : xAnd p m c cX5_broken 2 s _ (Cond.code yX5_broken cX5_broken 2 (some .int) :: TBL) RX5 G A := ⟨⟨hx, hb, hml, hown, hts⟩, tcons, hA, hm⟩
  have hP : va_P G.1 vwCl [(t, .inr (5, [.ref spread, .ref breakers, .ref fit, .int fitting, .ref counted])), (spread, .inl (xI G, 64, .inl spread_f)), (fit, .inl (xZ G, 729, .inl fit_f)), (counted, .inl (xI G, 64, .inl counted_f))] s.heap := hP
  have hl := lv_entry ([.ref t, .int sa]) (n := 2) (Nat.le_of_ble_eq_true rfl)
  rw [lg_entry_eq]
  generalize (lg_sl ([.ref t, .int sa]) ++ List.replicate (2 - (lg_sl ([.ref t, .int sa])).length) Slot.unset).toArray = ls at hl ⊢
  have hl : lv_has ls 2 [(0, .ref t), (1, .int sa)] := hl
  generalize hQ : MQ below _ _ s _ _ _ = Q
  refine xGo (A := A) hP (fun H locs hP hS => ?_)
  unfold F_X5_broken at hF
  refine lv_iload_n hx hb dX5_broken_0 rfl (lv_at hl 1 rfl) ?_
  obtain ⟨u1, e1, hF⟩ := bdS hF
  refine xEndI (xRunN (As := [.int sa]) (rest := []) hZ (c_X7_isSaying G sa u1 e1 l H.size) hm.2.1.2.2.2.2.2.2.2.1 m228 m2 m229 1 hdX7_isSaying ⟨Nat.le_of_ble_eq_true rfl, Nat.le_of_ble_eq_true rfl⟩ ⟨rfl, rfl⟩ hP hD hS [] rfl rfl rfl hl.1 rfl (Nat.le_of_ble_eq_true rfl) dX5_broken_1 ⟨Nat.zero_le _, Nat.zero_le _⟩) hP hD hS hA [] rfl rfl rfl (fun H locs n1 hP hD hS => ?_)
  have hP : va_P G.1 vwCl [(t, .inr (5, [.ref spread, .ref breakers, .ref fit, .int fitting, .ref counted])), (spread, .inl (xI G, 64, .inl spread_f)), (fit, .inl (xZ G, 729, .inl fit_f)), (counted, .inl (xI G, 64, .inl counted_f))] H := hP
  have hD : va_D A [(t, .inr (5, [.ref spread, .ref breakers, .ref fit, .int fitting, .ref counted])), (spread, .inl (xI G, 64, .inl spread_f)), (fit, .inl (xZ G, 729, .inl fit_f)), (counted, .inl (xI G, 64, .inl counted_f))] := hD
  refine lv_if_ne (tgt := 9) hx hb dX5_broken_4 (by decide) (fun c4 => ?_) (fun c4 => ?_)
  · have hF := itN c4 hF
    refine lv_aload_n hx hb dX5_broken_9 rfl (lv_at hl 0 rfl) ?_
    refine va_get (ci := 5) (v := .ref counted) (C := RX5) (T := TX5) (N := 5) hx hb hts (fun w h => tcons w (xin5 w h)) hown hK hP 0 rfl rfl 4 (by decide) (hts _ (tcons _ m82)) (fun _ h9 => h9) rfl dX5_broken_10 ?_
    refine lv_iload_n hx hb dX5_broken_13 rfl (lv_at hl 1 rfl) ?_
    obtain ⟨g14, hF⟩ := gdS hF
    refine va_iald hx hb hK hP 3 0 rfl rfl g14 dX5_broken_14 ?_
    refine lv_if_ge (tgt := 29) hx hb dX5_broken_15 (by decide) (fun c15 => ?_) (fun c15 => ?_)
    · have hF := itP c15 hF
      refine lv_aload_n hx hb dX5_broken_29 rfl (lv_at hl 0 rfl) ?_
      refine va_get (ci := 5) (v := .ref counted) (C := RX5) (T := TX5) (N := 5) hx hb hts (fun w h => tcons w (xin5 w h)) hown hK hP 0 rfl rfl 4 (by decide) (hts _ (tcons _ m82)) (fun _ h9 => h9) rfl dX5_broken_30 ?_
      refine lv_iload_n hx hb dX5_broken_33 rfl (lv_at hl 1 rfl) ?_
      obtain ⟨g34, hF⟩ := gdS hF
      refine va_iald hx hb hK hP 3 0 rfl rfl g34 dX5_broken_34 ?_
      obtain rfl := Option.some.inj hF
      rw [← hQ]
      exact W.iret (v := (counted_f sa.toNatClampNeg)) hx hb hr (fun t ht hW => ⟨⟨_, (), rfl, ⟨rfl, rfl⟩, xLf hP ht⟩, hS.F ht⟩) hS.2.2 dX5_broken_35
    · have hF := itN c15 hF
      refine lv_aload_n hx hb dX5_broken_18 rfl (lv_at hl 0 rfl) ?_
      refine va_get (ci := 5) (v := .ref counted) (C := RX5) (T := TX5) (N := 5) hx hb hts (fun w h => tcons w (xin5 w h)) hown hK hP 0 rfl rfl 4 (by decide) (hts _ (tcons _ m82)) (fun _ h9 => h9) rfl dX5_broken_19 ?_
      refine lv_iload_n hx hb dX5_broken_22 rfl (lv_at hl 1 rfl) ?_
      refine lv_aload_n hx hb dX5_broken_23 rfl (lv_at hl 0 rfl) ?_
      refine lv_iload_n hx hb dX5_broken_24 rfl (lv_at hl 1 rfl) ?_
      obtain ⟨u2, e2, hF⟩ := bdS hF
      refine xEndI (xRunV (As := [.int sa]) (rest := [.int sa, .ref counted]) hZ (c_X5_countBroken G t spread breakers fit counted fitting spread_f fit_f sa u2 e2 l H.size) m230 m231 m232 m22 m233 1 ⟨rfl, hdX5_countBroken⟩ ⟨Nat.le_of_ble_eq_true rfl, Nat.le_of_ble_eq_true rfl⟩ ⟨rfl, rfl⟩ hP hD hS 0 5 rfl rfl rfl [0, 1, 2] rfl rfl rfl hl.1 rfl (Nat.le_of_ble_eq_true rfl) dX5_broken_25 ⟨Nat.zero_le _, Nat.zero_le _⟩) hP hD hS hA [0, 1, 2] rfl rfl rfl (fun H locs n2 hP hD hS => ?_)
      have hP : va_P G.1 vwCl [(t, .inr (5, [.ref spread, .ref breakers, .ref fit, .int fitting, .ref counted])), (spread, .inl (xI G, 64, .inl spread_f)), (fit, .inl (xZ G, 729, .inl fit_f)), (counted, .inl (xI G, 64, .inl counted_f))] H := hP
      have hD : va_D A [(t, .inr (5, [.ref spread, .ref breakers, .ref fit, .int fitting, .ref counted])), (spread, .inl (xI G, 64, .inl spread_f)), (fit, .inl (xZ G, 729, .inl fit_f)), (counted, .inl (xI G, 64, .inl counted_f))] := hD
      obtain ⟨g28, hF⟩ := gdS hF
      refine va_iast hx hb hK hP hD hS 3 0 rfl rfl g28 dX5_broken_28 (fun H locs hP hD hS => ?_)
      have hP : va_P G.1 vwCl [(t, .inr (5, [.ref spread, .ref breakers, .ref fit, .int fitting, .ref counted])), (spread, .inl (xI G, 64, .inl spread_f)), (fit, .inl (xZ G, 729, .inl fit_f)), (counted, .inl (xI G, 64, .inl (upd counted_f sa.toNatClampNeg u2)))] H := hP
      have hD : va_D A [(t, .inr (5, [.ref spread, .ref breakers, .ref fit, .int fitting, .ref counted])), (spread, .inl (xI G, 64, .inl spread_f)), (fit, .inl (xZ G, 729, .inl fit_f)), (counted, .inl (xI G, 64, .inl (upd counted_f sa.toNatClampNeg u2)))] := hD
      refine lv_aload_n hx hb dX5_broken_29 rfl (lv_at hl 0 rfl) ?_
      refine va_get (ci := 5) (v := .ref counted) (C := RX5) (T := TX5) (N := 5) hx hb hts (fun w h => tcons w (xin5 w h)) hown hK hP 0 rfl rfl 4 (by decide) (hts _ (tcons _ m82)) (fun _ h9 => h9) rfl dX5_broken_30 ?_
      refine lv_iload_n hx hb dX5_broken_33 rfl (lv_at hl 1 rfl) ?_
      obtain ⟨g34, hF⟩ := gdS hF
      refine va_iald hx hb hK hP 3 0 rfl rfl g34 dX5_broken_34 ?_
      obtain rfl := Option.some.inj hF
      rw [← hQ]
      exact W.iret (v := ((upd counted_f sa.toNatClampNeg u2) sa.toNatClampNeg)) hx hb hr (fun t ht hW => ⟨⟨_, (), rfl, ⟨rfl, rfl⟩, xLf hP ht⟩, hS.F ht⟩) hS.2.2 dX5_broken_35
  · have hF := itP c4 hF
    refine lv_iconst (v := 0) hx hb dX5_broken_7 (by decide) ?_
    obtain rfl := Option.some.inj hF
    rw [← hQ]
    exact W.iret (v := (0 : Int32)) hx hb hr (fun t ht hW => ⟨⟨_, (), rfl, ⟨rfl, rfl⟩, xLf hP ht⟩, hS.F ht⟩) hS.2.2 dX5_broken_8
def B_X5_least_2 (fit_f : Nat → Int32) (k2 : (Int32) → Option Int32) (v2 : (Int32)) : Option Int32 := if (729 : Int32) ≤ v2 then (some (-1 : Int32)) else (if (v2 < 0 ∨ 729 ≤ v2.toNatClampNeg) then none else (if (fit_f v2.toNatClampNeg) = 0 then (k2 (v2 + (1 : Int32))) else (some v2)))
def F_X5_least (fit_f : Nat → Int32) : Option Int32 := lp (B_X5_least_2 fit_f) fuelC (0 : Int32)
theorem hdX5_least : yX5_least.cls ≠ "java/lang/invoke/MethodHandle" ∧ yX5_least.cls ≠ "java/lang/invoke/VarHandle" ∧ (parseMethodDescriptor yX5_least.desc).map (fun d => d.parameters.length) = some 0 := by decide +kernel
set_option maxHeartbeats 4000000 in
set_option maxRecDepth 100000 in
theorem c_X5_least (G : xG) (t : Nat) (spread : Nat) (breakers : Nat) (fit : Nat) (counted : Nat) (fitting : Int32) (fit_f : Nat → Int32)  (u : Int32) (hF : F_X5_least fit_f = some u) : Ki G .int yX5_least (Cond.code yX5_least cX5_least 2 (some .int) :: TBL) { frames := 0, cells := 0, slots := 0, locals := 0 } [.ref t] [(t, .inr (5, [.ref spread, .ref breakers, .ref fit, .int fitting, .ref counted])), (fit, .inl (xZ G, 729, .inl fit_f))] [(t, .inr (5, [.ref spread, .ref breakers, .ref fit, .int fitting, .ref counted])), (fit, .inl (xZ G, 729, .inl fit_f))] u := by
  intro l sz
  refine Met.ofW (cc := cX5_least) (maxL := 2) (ret := (some .int)) (by decide) rfl ?_
  intro p e s m args below meth c s₁ B hml hv
  obtain ⟨rfl, hsz, hP, hD0, hm⟩ := hv
  have hx := B.exec
  have hb := B.bytes
  have hr := B.returns
  have hts := atoms_spec (ws := Cond.code yX5_least cX5_least 2 (some .int) :: TBL) B.pre
  have hown : s.vm.findClass RX5 = some m.cls := findClass_of_methodNamed B.named
  have hlocks := B.notSynchronized
  subst hsz
  have hD := hD0.self (sz := s.heap.size)
  generalize hAe : va_A [(t, .inr (5, [.ref spread, .ref breakers, .ref fit, .int fitting, .ref counted])), (fit, .inl (xZ G, 729, .inl fit_f))] s.heap.size = A at hD hm ⊢
  have hA : ∀ q : Nat, s.heap.size ≤ q → A q := fun q h => by rw [← hAe]; exact Or.inr h
  have hK := hm.1
  have hZ : xAnd p m c cX5_least 2 s _ (Cond.code yX5_least cX5_least 2 (some .int) :: TBL) RX5 G A := ⟨⟨hx, hb, hml, hown, hts⟩, tcons, hA, hm⟩
  have hP : va_P G.1 vwCl [(t, .inr (5, [.ref spread, .ref breakers, .ref fit, .int fitting, .ref counted])), (fit, .inl (xZ G, 729, .inl fit_f))] s.heap := hP
  have hl := lv_entry ([.ref t]) (n := 2) (Nat.le_of_ble_eq_true rfl)
  rw [lg_entry_eq]
  generalize (lg_sl ([.ref t]) ++ List.replicate (2 - (lg_sl ([.ref t])).length) Slot.unset).toArray = ls at hl ⊢
  have hl : lv_has ls 2 [(0, .ref t)] := hl
  generalize hQ : MQ below _ _ s _ _ _ = Q
  refine xGo (A := A) hP (fun H locs hP hS => ?_)
  unfold F_X5_least at hF
  refine lv_iconst (v := 0) hx hb dX5_least_0 (by decide) ?_
  refine lv_istore_n (lv' := [(1, .int (0 : Int32)), (0, .ref t)]) hx hb dX5_least_1 rfl hl (by decide) rfl (fun ls hl => ?_)
  refine xLoop1 (body := (B_X5_least_2 fit_f)) (fun (v2_0 : Int32) H locs ls => va_P G.1 vwCl [(t, .inr (5, [.ref spread, .ref breakers, .ref fit, .int fitting, .ref counted])), (fit, .inl (xZ G, 729, .inl fit_f))] H ∧ va_D A [(t, .inr (5, [.ref spread, .ref breakers, .ref fit, .int fitting, .ref counted])), (fit, .inl (xZ G, 729, .inl fit_f))] ∧ va_S A s.heap H locs ∧ lv_has ls 2 [(0, .ref t), (1, .int v2_0)]) (fun N2 v2_0 ih2 H locs ls hI hF => ?_) fuelC (0 : Int32) H locs ls ⟨hP, hD, hS, lv_sub hl [1, 0] rfl⟩ hF
  obtain ⟨hP, hD, hS, hl⟩ := hI
  unfold B_X5_least_2 at hF
  refine lv_iload_n hx hb dX5_least_2 rfl (lv_at hl 1 rfl) ?_
  refine lv_sipush (v := 729) hx hb dX5_least_3 (by decide) ?_
  refine lv_icmp_ge (tgt := 26) hx hb dX5_least_6 (by decide) (fun c6 => ?_) (fun c6 => ?_)
  · have hF := itP c6 hF
    refine lv_iconst (v := -1) hx hb dX5_least_26 (by decide) ?_
    obtain rfl := Option.some.inj hF
    rw [← hQ]
    exact W.iret (v := (-1 : Int32)) hx hb hr (fun t ht hW => ⟨⟨_, (), rfl, ⟨rfl, rfl⟩, xLf hP ht⟩, hS.F ht⟩) hS.2.2 dX5_least_27
  · have hF := itN c6 hF
    refine lv_aload_n hx hb dX5_least_9 rfl (lv_at hl 0 rfl) ?_
    refine va_get (ci := 5) (v := .ref fit) (C := RX5) (T := TX5) (N := 5) hx hb hts (fun w h => tcons w (xin5 w h)) hown hK hP 0 rfl rfl 2 (by decide) (hts _ (tcons _ m80)) (fun _ h9 => h9) rfl dX5_least_10 ?_
    refine lv_iload_n hx hb dX5_least_13 rfl (lv_at hl 1 rfl) ?_
    obtain ⟨g14, hF⟩ := gdS hF
    refine va_zald hx hb hK hP 1 2 rfl rfl g14 dX5_least_14 ?_
    refine lv_if_eq (tgt := 20) hx hb dX5_least_15 (by decide) (fun c15 => ?_) (fun c15 => ?_)
    · have hF := itP c15 hF
      refine lv_iinc (v := (v2_0 + (1 : Int32))) (lv' := [(1, .int (v2_0 + (1 : Int32))), (0, .ref t)]) hx hb dX5_least_20 hl (k := 1) rfl (xInc_1 _) (by decide) rfl (fun ls hl => ?_)
      refine lv_goto (tgt := 2) hx hb dX5_least_23 (by decide) ?_
      exact ih2 (v2_0 + (1 : Int32)) H locs ls ⟨hP, hD, hS, lv_sub hl [1, 0] rfl⟩ hF
    · have hF := itN c15 hF
      refine lv_iload_n hx hb dX5_least_18 rfl (lv_at hl 1 rfl) ?_
      obtain rfl := Option.some.inj hF
      rw [← hQ]
      exact W.iret (v := v2_0) hx hb hr (fun t ht hW => ⟨⟨_, (), rfl, ⟨rfl, rfl⟩, xLf hP ht⟩, hS.F ht⟩) hS.2.2 dX5_least_19
def B_X5_settled_7 (k7 : (Int32 × Int32 × Int32) → Option Int32) (v7 : (Int32 × Int32 × Int32)) : Option Int32 := if (6 : Int32) ≤ v7.2.2 then (some v7.1) else (if (v7.2.1 - v7.2.1 / (3 : Int32) * (3 : Int32)) = (2 : Int32) then (k7 ((v7.1 + (0 : Int32)), (v7.2.1 / (3 : Int32)), (v7.2.2 + (1 : Int32)))) else (k7 ((v7.1 + (1 : Int32)), (v7.2.1 / (3 : Int32)), (v7.2.2 + (1 : Int32)))))
def F_X5_settled (vo : Int32) : Option Int32 := lp B_X5_settled_7 fuelC ((0 : Int32), vo, (0 : Int32))
theorem hdX5_settled : yX5_settled.cls ≠ "java/lang/invoke/MethodHandle" ∧ yX5_settled.cls ≠ "java/lang/invoke/VarHandle" ∧ (parseMethodDescriptor yX5_settled.desc).map (fun d => d.parameters.length) = some 1 := by decide +kernel
set_option maxHeartbeats 4000000 in
set_option maxRecDepth 100000 in
theorem c_X5_settled (G : xG) (t : Nat) (vo : Int32)  (u : Int32) (hF : F_X5_settled vo = some u) : Ki G .int yX5_settled (Cond.code yX5_settled cX5_settled 5 (some .int) :: TBL) { frames := 0, cells := 0, slots := 0, locals := 0 } [.ref t, .int vo] [] [] u := by
  intro l sz
  refine Met.ofW (cc := cX5_settled) (maxL := 5) (ret := (some .int)) (by decide) rfl ?_
  intro p e s m args below meth c s₁ B hml hv
  obtain ⟨rfl, hsz, hP, hD0, hm⟩ := hv
  have hx := B.exec
  have hb := B.bytes
  have hr := B.returns
  have hts := atoms_spec (ws := Cond.code yX5_settled cX5_settled 5 (some .int) :: TBL) B.pre
  have hown : s.vm.findClass RX5 = some m.cls := findClass_of_methodNamed B.named
  have hlocks := B.notSynchronized
  subst hsz
  have hD := hD0.self (sz := s.heap.size)
  generalize hAe : va_A [] s.heap.size = A at hD hm ⊢
  have hA : ∀ q : Nat, s.heap.size ≤ q → A q := fun q h => by rw [← hAe]; exact Or.inr h
  have hK := hm.1
  have hZ : xAnd p m c cX5_settled 5 s _ (Cond.code yX5_settled cX5_settled 5 (some .int) :: TBL) RX5 G A := ⟨⟨hx, hb, hml, hown, hts⟩, tcons, hA, hm⟩
  have hP : va_P G.1 vwCl [] s.heap := hP
  have hl := lv_entry ([.ref t, .int vo]) (n := 5) (Nat.le_of_ble_eq_true rfl)
  rw [lg_entry_eq]
  generalize (lg_sl ([.ref t, .int vo]) ++ List.replicate (5 - (lg_sl ([.ref t, .int vo])).length) Slot.unset).toArray = ls at hl ⊢
  have hl : lv_has ls 5 [(0, .ref t), (1, .int vo)] := hl
  generalize hQ : MQ below _ _ s _ _ _ = Q
  refine xGo (A := A) hP (fun H locs hP hS => ?_)
  unfold F_X5_settled at hF
  refine lv_iconst (v := 0) hx hb dX5_settled_0 (by decide) ?_
  refine lv_istore_n (lv' := [(2, .int (0 : Int32)), (0, .ref t), (1, .int vo)]) hx hb dX5_settled_1 rfl hl (by decide) rfl (fun ls hl => ?_)
  refine lv_iload_n hx hb dX5_settled_2 rfl (lv_at hl 2 rfl) ?_
  refine lv_istore_n (lv' := [(3, .int vo), (2, .int (0 : Int32)), (0, .ref t), (1, .int vo)]) hx hb dX5_settled_3 rfl hl (by decide) rfl (fun ls hl => ?_)
  refine lv_iconst (v := 0) hx hb dX5_settled_4 (by decide) ?_
  refine lv_istore (lv' := [(4, .int (0 : Int32)), (3, .int vo), (2, .int (0 : Int32)), (0, .ref t), (1, .int vo)]) hx hb dX5_settled_5 hl (by decide) rfl (fun ls hl => ?_)
  refine xLoop3 (body := B_X5_settled_7) (fun (v7_0 : Int32) (v7_1 : Int32) (v7_2 : Int32) H locs ls => va_P G.1 vwCl [] H ∧ va_D A [] ∧ va_S A s.heap H locs ∧ lv_has ls 5 [(0, .ref t), (1, .int vo), (2, .int v7_0), (3, .int v7_1), (4, .int v7_2)]) (fun N7 v7_0 v7_1 v7_2 ih7 H locs ls hI hF => ?_) fuelC (0 : Int32) vo (0 : Int32) H locs ls ⟨hP, hD, hS, lv_sub hl [3, 4, 2, 1, 0] rfl⟩ hF
  obtain ⟨hP, hD, hS, hl⟩ := hI
  unfold B_X5_settled_7 at hF
  refine lv_iload hx hb dX5_settled_7 (lv_at hl 4 rfl) ?_
  refine lv_bipush (v := 6) hx hb dX5_settled_9 (by decide) ?_
  refine lv_icmp_ge (tgt := 39) hx hb dX5_settled_11 (by decide) (fun c11 => ?_) (fun c11 => ?_)
  · have hF := itP c11 hF
    refine lv_iload_n hx hb dX5_settled_39 rfl (lv_at hl 2 rfl) ?_
    obtain rfl := Option.some.inj hF
    rw [← hQ]
    exact W.iret (v := v7_0) hx hb hr (fun t ht hW => ⟨⟨_, (), rfl, ⟨rfl, rfl⟩, xLf hP ht⟩, hS.F ht⟩) hS.2.2 dX5_settled_40
  · have hF := itN c11 hF
    refine lv_iload_n hx hb dX5_settled_14 rfl (lv_at hl 2 rfl) ?_
    refine lv_iload_n hx hb dX5_settled_15 rfl (lv_at hl 3 rfl) ?_
    refine lv_iconst (v := 3) hx hb dX5_settled_16 (by decide) ?_
    refine lv_irem hx hb dX5_settled_17 (by decide) ?_
    refine lv_iconst (v := 2) hx hb dX5_settled_18 (by decide) ?_
    refine lv_icmp_ne (tgt := 26) hx hb dX5_settled_19 (by decide) (fun c19 => ?_) (fun c19 => ?_)
    · have hF := itN c19 hF
      refine lv_iconst (v := 1) hx hb dX5_settled_26 (by decide) ?_
      refine lv_iadd hx hb dX5_settled_27 ?_
      refine lv_istore_n (lv' := [(2, .int (v7_0 + (1 : Int32))), (0, .ref t), (1, .int vo), (3, .int v7_1), (4, .int v7_2)]) hx hb dX5_settled_28 rfl hl (by decide) rfl (fun ls hl => ?_)
      refine lv_iload_n hx hb dX5_settled_29 rfl (lv_at hl 3 rfl) ?_
      refine lv_iconst (v := 3) hx hb dX5_settled_30 (by decide) ?_
      refine lv_idiv hx hb dX5_settled_31 (by decide) ?_
      refine lv_istore_n (lv' := [(3, .int (v7_1 / (3 : Int32))), (2, .int (v7_0 + (1 : Int32))), (0, .ref t), (1, .int vo), (4, .int v7_2)]) hx hb dX5_settled_32 rfl hl (by decide) rfl (fun ls hl => ?_)
      refine lv_iinc (v := (v7_2 + (1 : Int32))) (lv' := [(4, .int (v7_2 + (1 : Int32))), (3, .int (v7_1 / (3 : Int32))), (2, .int (v7_0 + (1 : Int32))), (0, .ref t), (1, .int vo)]) hx hb dX5_settled_33 hl (k := 4) rfl (xInc_1 _) (by decide) rfl (fun ls hl => ?_)
      refine lv_goto (tgt := 7) hx hb dX5_settled_36 (by decide) ?_
      exact ih7 (v7_0 + (1 : Int32)) (v7_1 / (3 : Int32)) (v7_2 + (1 : Int32)) H locs ls ⟨hP, hD, hS, lv_sub hl [3, 4, 2, 1, 0] rfl⟩ hF
    · have hF := itP c19 hF
      refine lv_iconst (v := 0) hx hb dX5_settled_22 (by decide) ?_
      refine lv_goto (tgt := 27) hx hb dX5_settled_23 (by decide) ?_
      refine lv_iadd hx hb dX5_settled_27 ?_
      refine lv_istore_n (lv' := [(2, .int (v7_0 + (0 : Int32))), (0, .ref t), (1, .int vo), (3, .int v7_1), (4, .int v7_2)]) hx hb dX5_settled_28 rfl hl (by decide) rfl (fun ls hl => ?_)
      refine lv_iload_n hx hb dX5_settled_29 rfl (lv_at hl 3 rfl) ?_
      refine lv_iconst (v := 3) hx hb dX5_settled_30 (by decide) ?_
      refine lv_idiv hx hb dX5_settled_31 (by decide) ?_
      refine lv_istore_n (lv' := [(3, .int (v7_1 / (3 : Int32))), (2, .int (v7_0 + (0 : Int32))), (0, .ref t), (1, .int vo), (4, .int v7_2)]) hx hb dX5_settled_32 rfl hl (by decide) rfl (fun ls hl => ?_)
      refine lv_iinc (v := (v7_2 + (1 : Int32))) (lv' := [(4, .int (v7_2 + (1 : Int32))), (3, .int (v7_1 / (3 : Int32))), (2, .int (v7_0 + (0 : Int32))), (0, .ref t), (1, .int vo)]) hx hb dX5_settled_33 hl (k := 4) rfl (xInc_1 _) (by decide) rfl (fun ls hl => ?_)
      refine lv_goto (tgt := 7) hx hb dX5_settled_36 (by decide) ?_
      exact ih7 (v7_0 + (0 : Int32)) (v7_1 / (3 : Int32)) (v7_2 + (1 : Int32)) H locs ls ⟨hP, hD, hS, lv_sub hl [3, 4, 2, 1, 0] rfl⟩ hF
def B_X5_simplest_7 (fit_f : Nat → Int32) (k7 : (Int32 × Int32 × Int32) → Option Int32) (v7 : (Int32 × Int32 × Int32)) : Option Int32 := if (729 : Int32) ≤ v7.2.2 then (some v7.1) else (if (v7.2.2 < 0 ∨ 729 ≤ v7.2.2.toNatClampNeg) then none else (if (fit_f v7.2.2.toNatClampNeg) = 0 then (k7 (v7.1, v7.2.1, (v7.2.2 + (1 : Int32)))) else (bd (F_X5_settled v7.2.2) (fun (u1 : Int32) => if v7.2.1 ≤ u1 then (k7 (v7.1, v7.2.1, (v7.2.2 + (1 : Int32)))) else (bd (F_X5_settled v7.2.2) (fun (u2 : Int32) => k7 (v7.2.2, u2, (v7.2.2 + (1 : Int32)))))))))
def F_X5_simplest (fit_f : Nat → Int32) : Option Int32 := lp (B_X5_simplest_7 fit_f) fuelC ((-1 : Int32), (7 : Int32), (0 : Int32))
theorem hdX5_simplest : yX5_simplest.cls ≠ "java/lang/invoke/MethodHandle" ∧ yX5_simplest.cls ≠ "java/lang/invoke/VarHandle" ∧ (parseMethodDescriptor yX5_simplest.desc).map (fun d => d.parameters.length) = some 0 := by decide +kernel
set_option maxHeartbeats 4000000 in
set_option maxRecDepth 100000 in
theorem c_X5_simplest (G : xG) (t : Nat) (spread : Nat) (breakers : Nat) (fit : Nat) (counted : Nat) (fitting : Int32) (fit_f : Nat → Int32)  (u : Int32) (hF : F_X5_simplest fit_f = some u) : Ki G .int yX5_simplest (Cond.code yX5_simplest cX5_simplest 4 (some .int) :: TBL) { frames := 1, cells := 0, slots := 0, locals := 24 } [.ref t] [(t, .inr (5, [.ref spread, .ref breakers, .ref fit, .int fitting, .ref counted])), (fit, .inl (xZ G, 729, .inl fit_f))] [(t, .inr (5, [.ref spread, .ref breakers, .ref fit, .int fitting, .ref counted])), (fit, .inl (xZ G, 729, .inl fit_f))] u := by
  intro l sz
  refine Met.ofW (cc := cX5_simplest) (maxL := 4) (ret := (some .int)) (by decide) rfl ?_
  intro p e s m args below meth c s₁ B hml hv
  obtain ⟨rfl, hsz, hP, hD0, hm⟩ := hv
  have hx := B.exec
  have hb := B.bytes
  have hr := B.returns
  have hts := atoms_spec (ws := Cond.code yX5_simplest cX5_simplest 4 (some .int) :: TBL) B.pre
  have hown : s.vm.findClass RX5 = some m.cls := findClass_of_methodNamed B.named
  have hlocks := B.notSynchronized
  subst hsz
  have hD := hD0.self (sz := s.heap.size)
  generalize hAe : va_A [(t, .inr (5, [.ref spread, .ref breakers, .ref fit, .int fitting, .ref counted])), (fit, .inl (xZ G, 729, .inl fit_f))] s.heap.size = A at hD hm ⊢
  have hA : ∀ q : Nat, s.heap.size ≤ q → A q := fun q h => by rw [← hAe]; exact Or.inr h
  have hK := hm.1
  have hZ : xAnd p m c cX5_simplest 4 s _ (Cond.code yX5_simplest cX5_simplest 4 (some .int) :: TBL) RX5 G A := ⟨⟨hx, hb, hml, hown, hts⟩, tcons, hA, hm⟩
  have hP : va_P G.1 vwCl [(t, .inr (5, [.ref spread, .ref breakers, .ref fit, .int fitting, .ref counted])), (fit, .inl (xZ G, 729, .inl fit_f))] s.heap := hP
  have hl := lv_entry ([.ref t]) (n := 4) (Nat.le_of_ble_eq_true rfl)
  rw [lg_entry_eq]
  generalize (lg_sl ([.ref t]) ++ List.replicate (4 - (lg_sl ([.ref t])).length) Slot.unset).toArray = ls at hl ⊢
  have hl : lv_has ls 4 [(0, .ref t)] := hl
  generalize hQ : MQ below _ _ s _ _ _ = Q
  refine xGo (A := A) hP (fun H locs hP hS => ?_)
  unfold F_X5_simplest at hF
  refine lv_iconst (v := -1) hx hb dX5_simplest_0 (by decide) ?_
  refine lv_istore_n (lv' := [(1, .int (-1 : Int32)), (0, .ref t)]) hx hb dX5_simplest_1 rfl hl (by decide) rfl (fun ls hl => ?_)
  refine lv_bipush (v := 7) hx hb dX5_simplest_2 (by decide) ?_
  refine lv_istore_n (lv' := [(2, .int (7 : Int32)), (1, .int (-1 : Int32)), (0, .ref t)]) hx hb dX5_simplest_4 rfl hl (by decide) rfl (fun ls hl => ?_)
  refine lv_iconst (v := 0) hx hb dX5_simplest_5 (by decide) ?_
  refine lv_istore_n (lv' := [(3, .int (0 : Int32)), (2, .int (7 : Int32)), (1, .int (-1 : Int32)), (0, .ref t)]) hx hb dX5_simplest_6 rfl hl (by decide) rfl (fun ls hl => ?_)
  refine xLoop3 (body := (B_X5_simplest_7 fit_f)) (fun (v7_0 : Int32) (v7_1 : Int32) (v7_2 : Int32) H locs ls => va_P G.1 vwCl [(t, .inr (5, [.ref spread, .ref breakers, .ref fit, .int fitting, .ref counted])), (fit, .inl (xZ G, 729, .inl fit_f))] H ∧ va_D A [(t, .inr (5, [.ref spread, .ref breakers, .ref fit, .int fitting, .ref counted])), (fit, .inl (xZ G, 729, .inl fit_f))] ∧ va_S A s.heap H locs ∧ lv_has ls 4 [(0, .ref t), (1, .int v7_0), (2, .int v7_1), (3, .int v7_2)]) (fun N7 v7_0 v7_1 v7_2 ih7 H locs ls hI hF => ?_) fuelC (-1 : Int32) (7 : Int32) (0 : Int32) H locs ls ⟨hP, hD, hS, lv_sub hl [3, 2, 1, 0] rfl⟩ hF
  obtain ⟨hP, hD, hS, hl⟩ := hI
  unfold B_X5_simplest_7 at hF
  refine lv_iload_n hx hb dX5_simplest_7 rfl (lv_at hl 3 rfl) ?_
  refine lv_sipush (v := 729) hx hb dX5_simplest_8 (by decide) ?_
  refine lv_icmp_ge (tgt := 46) hx hb dX5_simplest_11 (by decide) (fun c11 => ?_) (fun c11 => ?_)
  · have hF := itP c11 hF
    refine lv_iload_n hx hb dX5_simplest_46 rfl (lv_at hl 1 rfl) ?_
    obtain rfl := Option.some.inj hF
    rw [← hQ]
    exact W.iret (v := v7_0) hx hb hr (fun t ht hW => ⟨⟨_, (), rfl, ⟨rfl, rfl⟩, xLf hP ht⟩, hS.F ht⟩) hS.2.2 dX5_simplest_47
  · have hF := itN c11 hF
    refine lv_aload_n hx hb dX5_simplest_14 rfl (lv_at hl 0 rfl) ?_
    refine va_get (ci := 5) (v := .ref fit) (C := RX5) (T := TX5) (N := 5) hx hb hts (fun w h => tcons w (xin5 w h)) hown hK hP 0 rfl rfl 2 (by decide) (hts _ (tcons _ m80)) (fun _ h9 => h9) rfl dX5_simplest_15 ?_
    refine lv_iload_n hx hb dX5_simplest_18 rfl (lv_at hl 3 rfl) ?_
    obtain ⟨g19, hF⟩ := gdS hF
    refine va_zald hx hb hK hP 1 2 rfl rfl g19 dX5_simplest_19 ?_
    refine lv_if_eq (tgt := 40) hx hb dX5_simplest_20 (by decide) (fun c20 => ?_) (fun c20 => ?_)
    · have hF := itP c20 hF
      refine lv_iinc (v := (v7_2 + (1 : Int32))) (lv' := [(3, .int (v7_2 + (1 : Int32))), (0, .ref t), (1, .int v7_0), (2, .int v7_1)]) hx hb dX5_simplest_40 hl (k := 3) rfl (xInc_1 _) (by decide) rfl (fun ls hl => ?_)
      refine lv_goto (tgt := 7) hx hb dX5_simplest_43 (by decide) ?_
      exact ih7 v7_0 v7_1 (v7_2 + (1 : Int32)) H locs ls ⟨hP, hD, hS, lv_sub hl [1, 2, 3, 0] rfl⟩ hF
    · have hF := itN c20 hF
      refine lv_aload_n hx hb dX5_simplest_23 rfl (lv_at hl 0 rfl) ?_
      refine lv_iload_n hx hb dX5_simplest_24 rfl (lv_at hl 3 rfl) ?_
      obtain ⟨u1, e1, hF⟩ := bdS hF
      refine xEndI (xRunV (As := [.int v7_2]) (rest := []) hZ (c_X5_settled G t v7_2 u1 e1 l H.size) m796 m797 m798 m22 m799 1 ⟨rfl, hdX5_settled⟩ ⟨Nat.le_of_ble_eq_true rfl, Nat.le_of_ble_eq_true rfl⟩ ⟨rfl, rfl⟩ hP hD hS 0 5 rfl rfl rfl [] rfl rfl rfl hl.1 rfl (Nat.le_of_ble_eq_true rfl) dX5_simplest_25 ⟨Nat.zero_le _, Nat.zero_le _⟩) hP hD hS hA [] rfl rfl rfl (fun H locs n1 hP hD hS => ?_)
      have hP : va_P G.1 vwCl [(t, .inr (5, [.ref spread, .ref breakers, .ref fit, .int fitting, .ref counted])), (fit, .inl (xZ G, 729, .inl fit_f))] H := hP
      have hD : va_D A [(t, .inr (5, [.ref spread, .ref breakers, .ref fit, .int fitting, .ref counted])), (fit, .inl (xZ G, 729, .inl fit_f))] := hD
      refine lv_iload_n hx hb dX5_simplest_28 rfl (lv_at hl 2 rfl) ?_
      refine lv_icmp_ge (tgt := 40) hx hb dX5_simplest_29 (by decide) (fun c29 => ?_) (fun c29 => ?_)
      · have hF := itP c29 hF
        refine lv_iinc (v := (v7_2 + (1 : Int32))) (lv' := [(3, .int (v7_2 + (1 : Int32))), (0, .ref t), (1, .int v7_0), (2, .int v7_1)]) hx hb dX5_simplest_40 hl (k := 3) rfl (xInc_1 _) (by decide) rfl (fun ls hl => ?_)
        refine lv_goto (tgt := 7) hx hb dX5_simplest_43 (by decide) ?_
        exact ih7 v7_0 v7_1 (v7_2 + (1 : Int32)) H locs ls ⟨hP, hD, hS, lv_sub hl [1, 2, 3, 0] rfl⟩ hF
      · have hF := itN c29 hF
        refine lv_iload_n hx hb dX5_simplest_32 rfl (lv_at hl 3 rfl) ?_
        refine lv_istore_n (lv' := [(1, .int v7_2), (0, .ref t), (2, .int v7_1), (3, .int v7_2)]) hx hb dX5_simplest_33 rfl hl (by decide) rfl (fun ls hl => ?_)
        refine lv_aload_n hx hb dX5_simplest_34 rfl (lv_at hl 1 rfl) ?_
        refine lv_iload_n hx hb dX5_simplest_35 rfl (lv_at hl 3 rfl) ?_
        obtain ⟨u2, e2, hF⟩ := bdS hF
        refine xEndI (xRunV (As := [.int v7_2]) (rest := []) hZ (c_X5_settled G t v7_2 u2 e2 l H.size) m796 m797 m798 m22 m799 1 ⟨rfl, hdX5_settled⟩ ⟨Nat.le_of_ble_eq_true rfl, Nat.le_of_ble_eq_true rfl⟩ ⟨rfl, rfl⟩ hP hD hS 0 5 rfl rfl rfl [] rfl rfl rfl hl.1 rfl (Nat.le_of_ble_eq_true rfl) dX5_simplest_36 ⟨Nat.zero_le _, Nat.zero_le _⟩) hP hD hS hA [] rfl rfl rfl (fun H locs n2 hP hD hS => ?_)
        have hP : va_P G.1 vwCl [(t, .inr (5, [.ref spread, .ref breakers, .ref fit, .int fitting, .ref counted])), (fit, .inl (xZ G, 729, .inl fit_f))] H := hP
        have hD : va_D A [(t, .inr (5, [.ref spread, .ref breakers, .ref fit, .int fitting, .ref counted])), (fit, .inl (xZ G, 729, .inl fit_f))] := hD
        refine lv_istore_n (lv' := [(2, .int u2), (1, .int v7_2), (0, .ref t), (3, .int v7_2)]) hx hb dX5_simplest_39 rfl hl (by decide) rfl (fun ls hl => ?_)
        refine lv_iinc (v := (v7_2 + (1 : Int32))) (lv' := [(3, .int (v7_2 + (1 : Int32))), (2, .int u2), (1, .int v7_2), (0, .ref t)]) hx hb dX5_simplest_40 hl (k := 3) rfl (xInc_1 _) (by decide) rfl (fun ls hl => ?_)
        refine lv_goto (tgt := 7) hx hb dX5_simplest_43 (by decide) ?_
        exact ih7 v7_2 u2 (v7_2 + (1 : Int32)) H locs ls ⟨hP, hD, hS, lv_sub hl [3, 2, 1, 0] rfl⟩ hF
def B_X5_toldBy_5 (on : Nat) (o_m : Int32) (o_f : Nat → Int32) (k5 : (Int64 × Int32) → Option Int64) (v5 : (Int64 × Int32)) : Option Int64 := bd (F_X1_many o_m) (fun (u1 : Int32) => if u1 ≤ v5.2 then (some v5.1) else (bd (F_X1_get on o_m o_f v5.2) (fun (u2 : Int32) => bd (F_X7_within u2 (0 : Int32) (1 : Int32)) (fun (u3 : Int32) => if u3 = 0 then (some (-1 : Int64)) else (bd (F_X1_get on o_m o_f v5.2) (fun (u4 : Int32) => k5 ((v5.1 ||| ((u4.toInt64) <<< (v5.2.toInt64 &&& 63))), (v5.2 + (1 : Int32)))))))))
def F_X5_toldBy (on : Nat) (o_m : Int32) (o_f : Nat → Int32) : Option Int64 := lp (B_X5_toldBy_5 on o_m o_f) fuelC ((0 : Int64), (0 : Int32))
theorem hdX5_toldBy : yX5_toldBy.cls ≠ "java/lang/invoke/MethodHandle" ∧ yX5_toldBy.cls ≠ "java/lang/invoke/VarHandle" ∧ (parseMethodDescriptor yX5_toldBy.desc).map (fun d => d.parameters.length) = some 1 := by decide +kernel
set_option maxHeartbeats 4000000 in
set_option maxRecDepth 100000 in
theorem c_X5_toldBy (G : xG) (t : Nat) (o : Nat) (o_q : Nat) (on : Nat) (o_m : Int32) (o_f : Nat → Int32)  (u : Int64) (hF : F_X5_toldBy on o_m o_f = some u) : Kl G yX5_toldBy (Cond.code yX5_toldBy cX5_toldBy 5 (some .long) :: TBL) { frames := 1, cells := 0, slots := 0, locals := 22 } [.ref t, .ref o] [(o, .inr (1, [.ref o_q, .int o_m])), (o_q, .inl (xI G, on, .inl o_f))] [(o, .inr (1, [.ref o_q, .int o_m])), (o_q, .inl (xI G, on, .inl o_f))] u := by
  intro l sz
  refine Met.ofW (cc := cX5_toldBy) (maxL := 5) (ret := (some .long)) (by decide) rfl ?_
  intro p e s m args below meth c s₁ B hml hv
  obtain ⟨rfl, hsz, hP, hD0, hm⟩ := hv
  have hx := B.exec
  have hb := B.bytes
  have hr := B.returns
  have hts := atoms_spec (ws := Cond.code yX5_toldBy cX5_toldBy 5 (some .long) :: TBL) B.pre
  have hown : s.vm.findClass RX5 = some m.cls := findClass_of_methodNamed B.named
  have hlocks := B.notSynchronized
  subst hsz
  have hD := hD0.self (sz := s.heap.size)
  generalize hAe : va_A [(o, .inr (1, [.ref o_q, .int o_m])), (o_q, .inl (xI G, on, .inl o_f))] s.heap.size = A at hD hm ⊢
  have hA : ∀ q : Nat, s.heap.size ≤ q → A q := fun q h => by rw [← hAe]; exact Or.inr h
  have hK := hm.1
  have hZ : xAnd p m c cX5_toldBy 5 s _ (Cond.code yX5_toldBy cX5_toldBy 5 (some .long) :: TBL) RX5 G A := ⟨⟨hx, hb, hml, hown, hts⟩, tcons, hA, hm⟩
  have hP : va_P G.1 vwCl [(o, .inr (1, [.ref o_q, .int o_m])), (o_q, .inl (xI G, on, .inl o_f))] s.heap := hP
  have hl := lv_entry ([.ref t, .ref o]) (n := 5) (Nat.le_of_ble_eq_true rfl)
  rw [lg_entry_eq]
  generalize (lg_sl ([.ref t, .ref o]) ++ List.replicate (5 - (lg_sl ([.ref t, .ref o])).length) Slot.unset).toArray = ls at hl ⊢
  have hl : lv_has ls 5 [(0, .ref t), (1, .ref o)] := hl
  generalize hQ : MQ below _ _ s _ _ _ = Q
  refine xGo (A := A) hP (fun H locs hP hS => ?_)
  unfold F_X5_toldBy at hF
  refine lv_lconst (v := 0) hx hb dX5_toldBy_0 (by decide) ?_
  refine lv_lstore_n (lv' := [(2, .long (0 : Int64)), (0, .ref t), (1, .ref o)]) hx hb dX5_toldBy_1 rfl hl (by decide) rfl (fun ls hl => ?_)
  refine lv_iconst (v := 0) hx hb dX5_toldBy_2 (by decide) ?_
  refine lv_istore (lv' := [(4, .int (0 : Int32)), (2, .long (0 : Int64)), (0, .ref t), (1, .ref o)]) hx hb dX5_toldBy_3 hl (by decide) rfl (fun ls hl => ?_)
  refine xLoop2 (body := (B_X5_toldBy_5 on o_m o_f)) (fun (v5_0 : Int64) (v5_1 : Int32) H locs ls => va_P G.1 vwCl [(o, .inr (1, [.ref o_q, .int o_m])), (o_q, .inl (xI G, on, .inl o_f))] H ∧ va_D A [(o, .inr (1, [.ref o_q, .int o_m])), (o_q, .inl (xI G, on, .inl o_f))] ∧ va_S A s.heap H locs ∧ lv_has ls 5 [(0, .ref t), (1, .ref o), (2, .long v5_0), (4, .int v5_1)]) (fun N5 v5_0 v5_1 ih5 H locs ls hI hF => ?_) fuelC (0 : Int64) (0 : Int32) H locs ls ⟨hP, hD, hS, lv_sub hl [2, 3, 1, 0] rfl⟩ hF
  obtain ⟨hP, hD, hS, hl⟩ := hI
  unfold B_X5_toldBy_5 at hF
  refine lv_iload hx hb dX5_toldBy_5 (lv_at hl 3 rfl) ?_
  refine lv_aload_n hx hb dX5_toldBy_7 rfl (lv_at hl 1 rfl) ?_
  obtain ⟨u1, e1, hF⟩ := bdS hF
  refine xEndI (xRunV (As := []) (rest := [.int v5_1]) hZ (c_X1_many G o o_q o_m u1 e1 l H.size) m125 m126 m127 m49 m128 0 ⟨rfl, hdX1_many⟩ ⟨Nat.le_of_ble_eq_true rfl, Nat.le_of_ble_eq_true rfl⟩ ⟨rfl, rfl⟩ hP hD hS 0 1 rfl rfl rfl [0] rfl rfl rfl hl.1 rfl (Nat.le_of_ble_eq_true rfl) dX5_toldBy_8 ⟨Nat.zero_le _, Nat.zero_le _⟩) hP hD hS hA [0] rfl rfl rfl (fun H locs n1 hP hD hS => ?_)
  have hP : va_P G.1 vwCl [(o, .inr (1, [.ref o_q, .int o_m])), (o_q, .inl (xI G, on, .inl o_f))] H := hP
  have hD : va_D A [(o, .inr (1, [.ref o_q, .int o_m])), (o_q, .inl (xI G, on, .inl o_f))] := hD
  refine lv_icmp_ge (tgt := 51) hx hb dX5_toldBy_11 (by decide) (fun c11 => ?_) (fun c11 => ?_)
  · have hF := itP c11 hF
    refine lv_lload_n hx hb dX5_toldBy_51 rfl (lv_at hl 2 rfl) ?_
    obtain rfl := Option.some.inj hF
    rw [← hQ]
    exact W.lret (v := v5_0) hx hb hr (fun t ht hW => ⟨⟨_, (), rfl, rfl, xLf hP ht⟩, hS.F ht⟩) hS.2.2 dX5_toldBy_52
  · have hF := itN c11 hF
    refine lv_aload_n hx hb dX5_toldBy_14 rfl (lv_at hl 1 rfl) ?_
    refine lv_iload hx hb dX5_toldBy_15 (lv_at hl 3 rfl) ?_
    obtain ⟨u2, e2, hF⟩ := bdS hF
    refine xEndI (xRunV (As := [.int v5_1]) (rest := []) hZ (c_X1_get G o o_q on o_m o_f v5_1 u2 e2 l H.size) m129 m130 m131 m49 m132 1 ⟨rfl, hdX1_get⟩ ⟨Nat.le_of_ble_eq_true rfl, Nat.le_of_ble_eq_true rfl⟩ ⟨rfl, rfl⟩ hP hD hS 0 1 rfl rfl rfl [0, 1] rfl rfl rfl hl.1 rfl (Nat.le_of_ble_eq_true rfl) dX5_toldBy_17 ⟨Nat.zero_le _, Nat.zero_le _⟩) hP hD hS hA [0, 1] rfl rfl rfl (fun H locs n2 hP hD hS => ?_)
    have hP : va_P G.1 vwCl [(o, .inr (1, [.ref o_q, .int o_m])), (o_q, .inl (xI G, on, .inl o_f))] H := hP
    have hD : va_D A [(o, .inr (1, [.ref o_q, .int o_m])), (o_q, .inl (xI G, on, .inl o_f))] := hD
    refine lv_iconst (v := 0) hx hb dX5_toldBy_20 (by decide) ?_
    refine lv_iconst (v := 1) hx hb dX5_toldBy_21 (by decide) ?_
    obtain ⟨u3, e3, hF⟩ := bdS hF
    refine xEndI (xRunN (As := [.int u2, .int (0 : Int32), .int (1 : Int32)]) (rest := []) hZ (c_X7_within G u2 (0 : Int32) (1 : Int32) u3 e3 l H.size) hm.2.1.2.2.2.2.2.2.2.2.1 m165 m2 m166 3 hdX7_within ⟨Nat.le_of_ble_eq_true rfl, Nat.le_of_ble_eq_true rfl⟩ ⟨rfl, rfl⟩ hP hD hS [] rfl rfl rfl hl.1 rfl (Nat.le_of_ble_eq_true rfl) dX5_toldBy_22 ⟨Nat.zero_le _, Nat.zero_le _⟩) hP hD hS hA [] rfl rfl rfl (fun H locs n3 hP hD hS => ?_)
    have hP : va_P G.1 vwCl [(o, .inr (1, [.ref o_q, .int o_m])), (o_q, .inl (xI G, on, .inl o_f))] H := hP
    have hD : va_D A [(o, .inr (1, [.ref o_q, .int o_m])), (o_q, .inl (xI G, on, .inl o_f))] := hD
    refine lv_if_ne (tgt := 32) hx hb dX5_toldBy_25 (by decide) (fun c25 => ?_) (fun c25 => ?_)
    · have hF := itN c25 hF
      refine lv_lload_n hx hb dX5_toldBy_32 rfl (lv_at hl 2 rfl) ?_
      refine lv_aload_n hx hb dX5_toldBy_33 rfl (lv_at hl 1 rfl) ?_
      refine lv_iload hx hb dX5_toldBy_34 (lv_at hl 3 rfl) ?_
      obtain ⟨u4, e4, hF⟩ := bdS hF
      refine xEndI (xRunV (As := [.int v5_1]) (rest := [.long v5_0]) hZ (c_X1_get G o o_q on o_m o_f v5_1 u4 e4 l H.size) m129 m130 m131 m49 m132 1 ⟨rfl, hdX1_get⟩ ⟨Nat.le_of_ble_eq_true rfl, Nat.le_of_ble_eq_true rfl⟩ ⟨rfl, rfl⟩ hP hD hS 0 1 rfl rfl rfl [0, 1] rfl rfl rfl hl.1 rfl (Nat.le_of_ble_eq_true rfl) dX5_toldBy_36 ⟨Nat.zero_le _, Nat.zero_le _⟩) hP hD hS hA [0, 1] rfl rfl rfl (fun H locs n4 hP hD hS => ?_)
      have hP : va_P G.1 vwCl [(o, .inr (1, [.ref o_q, .int o_m])), (o_q, .inl (xI G, on, .inl o_f))] H := hP
      have hD : va_D A [(o, .inr (1, [.ref o_q, .int o_m])), (o_q, .inl (xI G, on, .inl o_f))] := hD
      refine lv_i2l hx hb dX5_toldBy_39 rfl ?_
      refine lv_iload hx hb dX5_toldBy_40 (lv_at hl 3 rfl) ?_
      refine lv_lshl hx hb dX5_toldBy_42 rfl ?_
      refine lv_lor hx hb dX5_toldBy_43 ?_
      refine lv_lstore_n (lv' := [(2, .long (v5_0 ||| ((u4.toInt64) <<< (v5_1.toInt64 &&& 63)))), (0, .ref t), (1, .ref o), (4, .int v5_1)]) hx hb dX5_toldBy_44 rfl hl (by decide) rfl (fun ls hl => ?_)
      refine lv_iinc (v := (v5_1 + (1 : Int32))) (lv' := [(4, .int (v5_1 + (1 : Int32))), (2, .long (v5_0 ||| ((u4.toInt64) <<< (v5_1.toInt64 &&& 63)))), (0, .ref t), (1, .ref o)]) hx hb dX5_toldBy_45 hl (k := 3) rfl (xInc_1 _) (by decide) rfl (fun ls hl => ?_)
      refine lv_goto (tgt := 5) hx hb dX5_toldBy_48 (by decide) ?_
      exact ih5 (v5_0 ||| ((u4.toInt64) <<< (v5_1.toInt64 &&& 63))) (v5_1 + (1 : Int32)) H locs ls ⟨hP, hD, hS, lv_sub hl [2, 3, 1, 0] rfl⟩ hF
    · have hF := itP c25 hF
      refine lv_ldc2 (v := -1) hx hb hown (hts _ (tcons _ m890)) dX5_toldBy_28 ?_
      obtain rfl := Option.some.inj hF
      rw [← hQ]
      exact W.lret (v := (-1 : Int64)) hx hb hr (fun t ht hW => ⟨⟨_, (), rfl, rfl, xLf hP ht⟩, hS.F ht⟩) hS.2.2 dX5_toldBy_31
def B_X5_fittingAs_22 (breakers_f : Nat → Int64) (fit_f : Nat → Int32) (u1 : Int32) (u2 : Int64) (k22 : (Int32 × Int32) → Option Int32) (v22 : (Int32 × Int32)) : Option Int32 := if (729 : Int32) ≤ v22.2 then (some v22.1) else (if (v22.2 < 0 ∨ 729 ≤ v22.2.toNatClampNeg) then none else (if (fit_f v22.2.toNatClampNeg) = 0 then (k22 ((v22.1 + (0 : Int32)), (v22.2 + (1 : Int32)))) else (if (v22.2 < 0 ∨ 729 ≤ v22.2.toNatClampNeg) then none else (if (lg_cmp ((breakers_f v22.2.toNatClampNeg) &&& (((1 : Int64) <<< (u1.toInt64 &&& 63)) - (1 : Int64))) u2) = 0 then (k22 ((v22.1 + (1 : Int32)), (v22.2 + (1 : Int32)))) else (k22 ((v22.1 + (0 : Int32)), (v22.2 + (1 : Int32))))))))
def F_X5_fittingAs (on : Nat) (breakers_f : Nat → Int64) (fit_f : Nat → Int32) (o_m : Int32) (o_f : Nat → Int32) : Option Int32 := bd (F_X1_many o_m) (fun (u1 : Int32) => bd (F_X5_toldBy on o_m o_f) (fun (u2 : Int64) => lp (B_X5_fittingAs_22 breakers_f fit_f u1 u2) fuelC ((0 : Int32), (0 : Int32))))
theorem hdX5_fittingAs : yX5_fittingAs.cls ≠ "java/lang/invoke/MethodHandle" ∧ yX5_fittingAs.cls ≠ "java/lang/invoke/VarHandle" ∧ (parseMethodDescriptor yX5_fittingAs.desc).map (fun d => d.parameters.length) = some 1 := by decide +kernel
set_option maxHeartbeats 4000000 in
set_option maxRecDepth 100000 in
theorem c_X5_fittingAs (G : xG) (t : Nat) (spread : Nat) (breakers : Nat) (fit : Nat) (counted : Nat) (o : Nat) (o_q : Nat) (on : Nat) (fitting : Int32) (breakers_f : Nat → Int64) (fit_f : Nat → Int32) (o_m : Int32) (o_f : Nat → Int32)  (u : Int32) (hF : F_X5_fittingAs on breakers_f fit_f o_m o_f = some u) : Ki G .int yX5_fittingAs (Cond.code yX5_fittingAs cX5_fittingAs 8 (some .int) :: TBL) { frames := 2, cells := 0, slots := 0, locals := 46 } [.ref t, .ref o] [(t, .inr (5, [.ref spread, .ref breakers, .ref fit, .int fitting, .ref counted])), (breakers, .inl (xJ G, 729, .inr (.inl breakers_f))), (fit, .inl (xZ G, 729, .inl fit_f)), (o, .inr (1, [.ref o_q, .int o_m])), (o_q, .inl (xI G, on, .inl o_f))] [(t, .inr (5, [.ref spread, .ref breakers, .ref fit, .int fitting, .ref counted])), (breakers, .inl (xJ G, 729, .inr (.inl breakers_f))), (fit, .inl (xZ G, 729, .inl fit_f)), (o, .inr (1, [.ref o_q, .int o_m])), (o_q, .inl (xI G, on, .inl o_f))] u := by
  intro l sz
  refine Met.ofW (cc := cX5_fittingAs) (maxL := 8) (ret := (some .int)) (by decide) rfl ?_
  intro p e s m args below meth c s₁ B hml hv
  obtain ⟨rfl, hsz, hP, hD0, hm⟩ := hv
  have hx := B.exec
  have hb := B.bytes
  have hr := B.returns
  have hts := atoms_spec (ws := Cond.code yX5_fittingAs cX5_fittingAs 8 (some .int) :: TBL) B.pre
  have hown : s.vm.findClass RX5 = some m.cls := findClass_of_methodNamed B.named
  have hlocks := B.notSynchronized
  subst hsz
  have hD := hD0.self (sz := s.heap.size)
  generalize hAe : va_A [(t, .inr (5, [.ref spread, .ref breakers, .ref fit, .int fitting, .ref counted])), (breakers, .inl (xJ G, 729, .inr (.inl breakers_f))), (fit, .inl (xZ G, 729, .inl fit_f)), (o, .inr (1, [.ref o_q, .int o_m])), (o_q, .inl (xI G, on, .inl o_f))] s.heap.size = A at hD hm ⊢
  have hA : ∀ q : Nat, s.heap.size ≤ q → A q := fun q h => by rw [← hAe]; exact Or.inr h
  have hK := hm.1
  have hZ : xAnd p m c cX5_fittingAs 8 s _ (Cond.code yX5_fittingAs cX5_fittingAs 8 (some .int) :: TBL) RX5 G A := ⟨⟨hx, hb, hml, hown, hts⟩, tcons, hA, hm⟩
  have hP : va_P G.1 vwCl [(t, .inr (5, [.ref spread, .ref breakers, .ref fit, .int fitting, .ref counted])), (breakers, .inl (xJ G, 729, .inr (.inl breakers_f))), (fit, .inl (xZ G, 729, .inl fit_f)), (o, .inr (1, [.ref o_q, .int o_m])), (o_q, .inl (xI G, on, .inl o_f))] s.heap := hP
  have hl := lv_entry ([.ref t, .ref o]) (n := 8) (Nat.le_of_ble_eq_true rfl)
  rw [lg_entry_eq]
  generalize (lg_sl ([.ref t, .ref o]) ++ List.replicate (8 - (lg_sl ([.ref t, .ref o])).length) Slot.unset).toArray = ls at hl ⊢
  have hl : lv_has ls 8 [(0, .ref t), (1, .ref o)] := hl
  generalize hQ : MQ below _ _ s _ _ _ = Q
  refine xGo (A := A) hP (fun H locs hP hS => ?_)
  unfold F_X5_fittingAs at hF
  refine lv_lconst (v := 1) hx hb dX5_fittingAs_0 (by decide) ?_
  refine lv_aload_n hx hb dX5_fittingAs_1 rfl (lv_at hl 1 rfl) ?_
  obtain ⟨u1, e1, hF⟩ := bdS hF
  refine xEndI (xRunV (As := []) (rest := [.long (1 : Int64)]) hZ (c_X1_many G o o_q o_m u1 e1 l H.size) m125 m126 m127 m49 m128 0 ⟨rfl, hdX1_many⟩ ⟨Nat.le_of_ble_eq_true rfl, Nat.le_of_ble_eq_true rfl⟩ ⟨rfl, rfl⟩ hP hD hS 3 1 rfl rfl rfl [3] rfl rfl rfl hl.1 rfl (Nat.le_of_ble_eq_true rfl) dX5_fittingAs_2 ⟨Nat.zero_le _, Nat.zero_le _⟩) hP hD hS hA [3] rfl rfl rfl (fun H locs n1 hP hD hS => ?_)
  have hP : va_P G.1 vwCl [(t, .inr (5, [.ref spread, .ref breakers, .ref fit, .int fitting, .ref counted])), (breakers, .inl (xJ G, 729, .inr (.inl breakers_f))), (fit, .inl (xZ G, 729, .inl fit_f)), (o, .inr (1, [.ref o_q, .int o_m])), (o_q, .inl (xI G, on, .inl o_f))] H := hP
  have hD : va_D A [(t, .inr (5, [.ref spread, .ref breakers, .ref fit, .int fitting, .ref counted])), (breakers, .inl (xJ G, 729, .inr (.inl breakers_f))), (fit, .inl (xZ G, 729, .inl fit_f)), (o, .inr (1, [.ref o_q, .int o_m])), (o_q, .inl (xI G, on, .inl o_f))] := hD
  refine lv_lshl hx hb dX5_fittingAs_5 rfl ?_
  refine lv_lconst (v := 1) hx hb dX5_fittingAs_6 (by decide) ?_
  refine lv_lsub hx hb dX5_fittingAs_7 ?_
  refine lv_lstore_n (lv' := [(2, .long (((1 : Int64) <<< (u1.toInt64 &&& 63)) - (1 : Int64))), (0, .ref t), (1, .ref o)]) hx hb dX5_fittingAs_8 rfl hl (by decide) rfl (fun ls hl => ?_)
  refine lv_aload_n hx hb dX5_fittingAs_9 rfl (lv_at hl 1 rfl) ?_
  refine lv_aload_n hx hb dX5_fittingAs_10 rfl (lv_at hl 2 rfl) ?_
  obtain ⟨u2, e2, hF⟩ := bdS hF
  refine xEndL (xRunV (As := [.ref o]) (rest := []) hZ (c_X5_toldBy G t o o_q on o_m o_f u2 e2 l H.size) m886 m887 m888 m22 m889 1 ⟨rfl, hdX5_toldBy⟩ ⟨Nat.le_of_ble_eq_true rfl, Nat.le_of_ble_eq_true rfl⟩ ⟨rfl, rfl⟩ hP hD hS 0 5 rfl rfl rfl [3, 4] rfl rfl rfl hl.1 rfl (Nat.le_of_ble_eq_true rfl) dX5_fittingAs_11 ⟨Nat.zero_le _, Nat.zero_le _⟩) hP hD hS hA [3, 4] rfl rfl rfl (fun H locs hP hD hS => ?_)
  have hP : va_P G.1 vwCl [(t, .inr (5, [.ref spread, .ref breakers, .ref fit, .int fitting, .ref counted])), (breakers, .inl (xJ G, 729, .inr (.inl breakers_f))), (fit, .inl (xZ G, 729, .inl fit_f)), (o, .inr (1, [.ref o_q, .int o_m])), (o_q, .inl (xI G, on, .inl o_f))] H := hP
  have hD : va_D A [(t, .inr (5, [.ref spread, .ref breakers, .ref fit, .int fitting, .ref counted])), (breakers, .inl (xJ G, 729, .inr (.inl breakers_f))), (fit, .inl (xZ G, 729, .inl fit_f)), (o, .inr (1, [.ref o_q, .int o_m])), (o_q, .inl (xI G, on, .inl o_f))] := hD
  refine lv_lstore (lv' := [(4, .long u2), (2, .long (((1 : Int64) <<< (u1.toInt64 &&& 63)) - (1 : Int64))), (0, .ref t), (1, .ref o)]) hx hb dX5_fittingAs_14 hl (by decide) rfl (fun ls hl => ?_)
  refine lv_iconst (v := 0) hx hb dX5_fittingAs_16 (by decide) ?_
  refine lv_istore (lv' := [(6, .int (0 : Int32)), (4, .long u2), (2, .long (((1 : Int64) <<< (u1.toInt64 &&& 63)) - (1 : Int64))), (0, .ref t), (1, .ref o)]) hx hb dX5_fittingAs_17 hl (by decide) rfl (fun ls hl => ?_)
  refine lv_iconst (v := 0) hx hb dX5_fittingAs_19 (by decide) ?_
  refine lv_istore (lv' := [(7, .int (0 : Int32)), (6, .int (0 : Int32)), (4, .long u2), (2, .long (((1 : Int64) <<< (u1.toInt64 &&& 63)) - (1 : Int64))), (0, .ref t), (1, .ref o)]) hx hb dX5_fittingAs_20 hl (by decide) rfl (fun ls hl => ?_)
  refine xLoop2 (body := (B_X5_fittingAs_22 breakers_f fit_f u1 u2)) (fun (v22_0 : Int32) (v22_1 : Int32) H locs ls => va_P G.1 vwCl [(t, .inr (5, [.ref spread, .ref breakers, .ref fit, .int fitting, .ref counted])), (breakers, .inl (xJ G, 729, .inr (.inl breakers_f))), (fit, .inl (xZ G, 729, .inl fit_f)), (o, .inr (1, [.ref o_q, .int o_m])), (o_q, .inl (xI G, on, .inl o_f))] H ∧ va_D A [(t, .inr (5, [.ref spread, .ref breakers, .ref fit, .int fitting, .ref counted])), (breakers, .inl (xJ G, 729, .inr (.inl breakers_f))), (fit, .inl (xZ G, 729, .inl fit_f)), (o, .inr (1, [.ref o_q, .int o_m])), (o_q, .inl (xI G, on, .inl o_f))] ∧ va_S A s.heap H locs ∧ lv_has ls 8 [(0, .ref t), (1, .ref o), (2, .long (((1 : Int64) <<< (u1.toInt64 &&& 63)) - (1 : Int64))), (4, .long u2), (6, .int v22_0), (7, .int v22_1)]) (fun N22 v22_0 v22_1 ih22 H locs ls hI hF => ?_) fuelC (0 : Int32) (0 : Int32) H locs ls ⟨hP, hD, hS, lv_sub hl [4, 5, 3, 2, 1, 0] rfl⟩ hF
  obtain ⟨hP, hD, hS, hl⟩ := hI
  unfold B_X5_fittingAs_22 at hF
  refine lv_iload hx hb dX5_fittingAs_22 (lv_at hl 5 rfl) ?_
  refine lv_sipush (v := 729) hx hb dX5_fittingAs_24 (by decide) ?_
  refine lv_icmp_ge (tgt := 71) hx hb dX5_fittingAs_27 (by decide) (fun c27 => ?_) (fun c27 => ?_)
  · have hF := itP c27 hF
    refine lv_iload hx hb dX5_fittingAs_71 (lv_at hl 4 rfl) ?_
    obtain rfl := Option.some.inj hF
    rw [← hQ]
    exact W.iret (v := v22_0) hx hb hr (fun t ht hW => ⟨⟨_, (), rfl, ⟨rfl, rfl⟩, xLf hP ht⟩, hS.F ht⟩) hS.2.2 dX5_fittingAs_73
  · have hF := itN c27 hF
    refine lv_iload hx hb dX5_fittingAs_30 (lv_at hl 4 rfl) ?_
    refine lv_aload_n hx hb dX5_fittingAs_32 rfl (lv_at hl 0 rfl) ?_
    refine va_get (ci := 5) (v := .ref fit) (C := RX5) (T := TX5) (N := 5) hx hb hts (fun w h => tcons w (xin5 w h)) hown hK hP 0 rfl rfl 2 (by decide) (hts _ (tcons _ m80)) (fun _ h9 => h9) rfl dX5_fittingAs_33 ?_
    refine lv_iload hx hb dX5_fittingAs_36 (lv_at hl 5 rfl) ?_
    obtain ⟨g38, hF⟩ := gdS hF
    refine va_zald hx hb hK hP 2 2 rfl rfl g38 dX5_fittingAs_38 ?_
    refine lv_if_eq (tgt := 61) hx hb dX5_fittingAs_39 (by decide) (fun c39 => ?_) (fun c39 => ?_)
    · have hF := itP c39 hF
      refine lv_iconst (v := 0) hx hb dX5_fittingAs_61 (by decide) ?_
      refine lv_iadd hx hb dX5_fittingAs_62 ?_
      refine lv_istore (lv' := [(6, .int (v22_0 + (0 : Int32))), (0, .ref t), (1, .ref o), (2, .long (((1 : Int64) <<< (u1.toInt64 &&& 63)) - (1 : Int64))), (4, .long u2), (7, .int v22_1)]) hx hb dX5_fittingAs_63 hl (by decide) rfl (fun ls hl => ?_)
      refine lv_iinc (v := (v22_1 + (1 : Int32))) (lv' := [(7, .int (v22_1 + (1 : Int32))), (6, .int (v22_0 + (0 : Int32))), (0, .ref t), (1, .ref o), (2, .long (((1 : Int64) <<< (u1.toInt64 &&& 63)) - (1 : Int64))), (4, .long u2)]) hx hb dX5_fittingAs_65 hl (k := 5) rfl (xInc_1 _) (by decide) rfl (fun ls hl => ?_)
      refine lv_goto (tgt := 22) hx hb dX5_fittingAs_68 (by decide) ?_
      exact ih22 (v22_0 + (0 : Int32)) (v22_1 + (1 : Int32)) H locs ls ⟨hP, hD, hS, lv_sub hl [2, 3, 4, 5, 1, 0] rfl⟩ hF
    · have hF := itN c39 hF
      refine lv_aload_n hx hb dX5_fittingAs_42 rfl (lv_at hl 0 rfl) ?_
      refine va_get (ci := 5) (v := .ref breakers) (C := RX5) (T := TX5) (N := 5) hx hb hts (fun w h => tcons w (xin5 w h)) hown hK hP 0 rfl rfl 1 (by decide) (hts _ (tcons _ m78)) (fun _ h9 => h9) rfl dX5_fittingAs_43 ?_
      refine lv_iload hx hb dX5_fittingAs_46 (lv_at hl 5 rfl) ?_
      obtain ⟨g48, hF⟩ := gdS hF
      refine va_lald hx hb hK hP 1 1 rfl rfl g48 dX5_fittingAs_48 ?_
      refine lv_lload_n hx hb dX5_fittingAs_49 rfl (lv_at hl 2 rfl) ?_
      refine lv_land hx hb dX5_fittingAs_50 ?_
      refine lv_lload hx hb dX5_fittingAs_51 (lv_at hl 3 rfl) ?_
      refine W.lcmp hx hb dX5_fittingAs_53 ?_
      refine lv_if_ne (tgt := 61) hx hb dX5_fittingAs_54 (by decide) (fun c54 => ?_) (fun c54 => ?_)
      · have hF := itN c54 hF
        refine lv_iconst (v := 0) hx hb dX5_fittingAs_61 (by decide) ?_
        refine lv_iadd hx hb dX5_fittingAs_62 ?_
        refine lv_istore (lv' := [(6, .int (v22_0 + (0 : Int32))), (0, .ref t), (1, .ref o), (2, .long (((1 : Int64) <<< (u1.toInt64 &&& 63)) - (1 : Int64))), (4, .long u2), (7, .int v22_1)]) hx hb dX5_fittingAs_63 hl (by decide) rfl (fun ls hl => ?_)
        refine lv_iinc (v := (v22_1 + (1 : Int32))) (lv' := [(7, .int (v22_1 + (1 : Int32))), (6, .int (v22_0 + (0 : Int32))), (0, .ref t), (1, .ref o), (2, .long (((1 : Int64) <<< (u1.toInt64 &&& 63)) - (1 : Int64))), (4, .long u2)]) hx hb dX5_fittingAs_65 hl (k := 5) rfl (xInc_1 _) (by decide) rfl (fun ls hl => ?_)
        refine lv_goto (tgt := 22) hx hb dX5_fittingAs_68 (by decide) ?_
        exact ih22 (v22_0 + (0 : Int32)) (v22_1 + (1 : Int32)) H locs ls ⟨hP, hD, hS, lv_sub hl [2, 3, 4, 5, 1, 0] rfl⟩ hF
      · have hF := itP c54 hF
        refine lv_iconst (v := 1) hx hb dX5_fittingAs_57 (by decide) ?_
        refine lv_goto (tgt := 62) hx hb dX5_fittingAs_58 (by decide) ?_
        refine lv_iadd hx hb dX5_fittingAs_62 ?_
        refine lv_istore (lv' := [(6, .int (v22_0 + (1 : Int32))), (0, .ref t), (1, .ref o), (2, .long (((1 : Int64) <<< (u1.toInt64 &&& 63)) - (1 : Int64))), (4, .long u2), (7, .int v22_1)]) hx hb dX5_fittingAs_63 hl (by decide) rfl (fun ls hl => ?_)
        refine lv_iinc (v := (v22_1 + (1 : Int32))) (lv' := [(7, .int (v22_1 + (1 : Int32))), (6, .int (v22_0 + (1 : Int32))), (0, .ref t), (1, .ref o), (2, .long (((1 : Int64) <<< (u1.toInt64 &&& 63)) - (1 : Int64))), (4, .long u2)]) hx hb dX5_fittingAs_65 hl (k := 5) rfl (xInc_1 _) (by decide) rfl (fun ls hl => ?_)
        refine lv_goto (tgt := 22) hx hb dX5_fittingAs_68 (by decide) ?_
        exact ih22 (v22_0 + (1 : Int32)) (v22_1 + (1 : Int32)) H locs ls ⟨hP, hD, hS, lv_sub hl [2, 3, 4, 5, 1, 0] rfl⟩ hF
def B_X5_leastAs_19 (breakers_f : Nat → Int64) (fit_f : Nat → Int32) (u1 : Int32) (u2 : Int64) (k19 : (Int32) → Option Int32) (v19 : (Int32)) : Option Int32 := if (729 : Int32) ≤ v19 then (some (-1 : Int32)) else (if (v19 < 0 ∨ 729 ≤ v19.toNatClampNeg) then none else (if (fit_f v19.toNatClampNeg) = 0 then (k19 (v19 + (1 : Int32))) else (if (v19 < 0 ∨ 729 ≤ v19.toNatClampNeg) then none else (if (lg_cmp ((breakers_f v19.toNatClampNeg) &&& (((1 : Int64) <<< (u1.toInt64 &&& 63)) - (1 : Int64))) u2) = 0 then (some v19) else (k19 (v19 + (1 : Int32)))))))
def F_X5_leastAs (on : Nat) (breakers_f : Nat → Int64) (fit_f : Nat → Int32) (o_m : Int32) (o_f : Nat → Int32) : Option Int32 := bd (F_X1_many o_m) (fun (u1 : Int32) => bd (F_X5_toldBy on o_m o_f) (fun (u2 : Int64) => lp (B_X5_leastAs_19 breakers_f fit_f u1 u2) fuelC (0 : Int32)))
theorem hdX5_leastAs : yX5_leastAs.cls ≠ "java/lang/invoke/MethodHandle" ∧ yX5_leastAs.cls ≠ "java/lang/invoke/VarHandle" ∧ (parseMethodDescriptor yX5_leastAs.desc).map (fun d => d.parameters.length) = some 1 := by decide +kernel
set_option maxHeartbeats 4000000 in
set_option maxRecDepth 100000 in
theorem c_X5_leastAs (G : xG) (t : Nat) (spread : Nat) (breakers : Nat) (fit : Nat) (counted : Nat) (o : Nat) (o_q : Nat) (on : Nat) (fitting : Int32) (breakers_f : Nat → Int64) (fit_f : Nat → Int32) (o_m : Int32) (o_f : Nat → Int32)  (u : Int32) (hF : F_X5_leastAs on breakers_f fit_f o_m o_f = some u) : Ki G .int yX5_leastAs (Cond.code yX5_leastAs cX5_leastAs 7 (some .int) :: TBL) { frames := 2, cells := 0, slots := 0, locals := 46 } [.ref t, .ref o] [(t, .inr (5, [.ref spread, .ref breakers, .ref fit, .int fitting, .ref counted])), (breakers, .inl (xJ G, 729, .inr (.inl breakers_f))), (fit, .inl (xZ G, 729, .inl fit_f)), (o, .inr (1, [.ref o_q, .int o_m])), (o_q, .inl (xI G, on, .inl o_f))] [(t, .inr (5, [.ref spread, .ref breakers, .ref fit, .int fitting, .ref counted])), (breakers, .inl (xJ G, 729, .inr (.inl breakers_f))), (fit, .inl (xZ G, 729, .inl fit_f)), (o, .inr (1, [.ref o_q, .int o_m])), (o_q, .inl (xI G, on, .inl o_f))] u := by
  intro l sz
  refine Met.ofW (cc := cX5_leastAs) (maxL := 7) (ret := (some .int)) (by decide) rfl ?_
  intro p e s m args below meth c s₁ B hml hv
  obtain ⟨rfl, hsz, hP, hD0, hm⟩ := hv
  have hx := B.exec
  have hb := B.bytes
  have hr := B.returns
  have hts := atoms_spec (ws := Cond.code yX5_leastAs cX5_leastAs 7 (some .int) :: TBL) B.pre
  have hown : s.vm.findClass RX5 = some m.cls := findClass_of_methodNamed B.named
  have hlocks := B.notSynchronized
  subst hsz
  have hD := hD0.self (sz := s.heap.size)
  generalize hAe : va_A [(t, .inr (5, [.ref spread, .ref breakers, .ref fit, .int fitting, .ref counted])), (breakers, .inl (xJ G, 729, .inr (.inl breakers_f))), (fit, .inl (xZ G, 729, .inl fit_f)), (o, .inr (1, [.ref o_q, .int o_m])), (o_q, .inl (xI G, on, .inl o_f))] s.heap.size = A at hD hm ⊢
  have hA : ∀ q : Nat, s.heap.size ≤ q → A q := fun q h => by rw [← hAe]; exact Or.inr h
  have hK := hm.1
  have hZ : xAnd p m c cX5_leastAs 7 s _ (Cond.code yX5_leastAs cX5_leastAs 7 (some .int) :: TBL) RX5 G A := ⟨⟨hx, hb, hml, hown, hts⟩, tcons, hA, hm⟩
  have hP : va_P G.1 vwCl [(t, .inr (5, [.ref spread, .ref breakers, .ref fit, .int fitting, .ref counted])), (breakers, .inl (xJ G, 729, .inr (.inl breakers_f))), (fit, .inl (xZ G, 729, .inl fit_f)), (o, .inr (1, [.ref o_q, .int o_m])), (o_q, .inl (xI G, on, .inl o_f))] s.heap := hP
  have hl := lv_entry ([.ref t, .ref o]) (n := 7) (Nat.le_of_ble_eq_true rfl)
  rw [lg_entry_eq]
  generalize (lg_sl ([.ref t, .ref o]) ++ List.replicate (7 - (lg_sl ([.ref t, .ref o])).length) Slot.unset).toArray = ls at hl ⊢
  have hl : lv_has ls 7 [(0, .ref t), (1, .ref o)] := hl
  generalize hQ : MQ below _ _ s _ _ _ = Q
  refine xGo (A := A) hP (fun H locs hP hS => ?_)
  unfold F_X5_leastAs at hF
  refine lv_lconst (v := 1) hx hb dX5_leastAs_0 (by decide) ?_
  refine lv_aload_n hx hb dX5_leastAs_1 rfl (lv_at hl 1 rfl) ?_
  obtain ⟨u1, e1, hF⟩ := bdS hF
  refine xEndI (xRunV (As := []) (rest := [.long (1 : Int64)]) hZ (c_X1_many G o o_q o_m u1 e1 l H.size) m125 m126 m127 m49 m128 0 ⟨rfl, hdX1_many⟩ ⟨Nat.le_of_ble_eq_true rfl, Nat.le_of_ble_eq_true rfl⟩ ⟨rfl, rfl⟩ hP hD hS 3 1 rfl rfl rfl [3] rfl rfl rfl hl.1 rfl (Nat.le_of_ble_eq_true rfl) dX5_leastAs_2 ⟨Nat.zero_le _, Nat.zero_le _⟩) hP hD hS hA [3] rfl rfl rfl (fun H locs n1 hP hD hS => ?_)
  have hP : va_P G.1 vwCl [(t, .inr (5, [.ref spread, .ref breakers, .ref fit, .int fitting, .ref counted])), (breakers, .inl (xJ G, 729, .inr (.inl breakers_f))), (fit, .inl (xZ G, 729, .inl fit_f)), (o, .inr (1, [.ref o_q, .int o_m])), (o_q, .inl (xI G, on, .inl o_f))] H := hP
  have hD : va_D A [(t, .inr (5, [.ref spread, .ref breakers, .ref fit, .int fitting, .ref counted])), (breakers, .inl (xJ G, 729, .inr (.inl breakers_f))), (fit, .inl (xZ G, 729, .inl fit_f)), (o, .inr (1, [.ref o_q, .int o_m])), (o_q, .inl (xI G, on, .inl o_f))] := hD
  refine lv_lshl hx hb dX5_leastAs_5 rfl ?_
  refine lv_lconst (v := 1) hx hb dX5_leastAs_6 (by decide) ?_
  refine lv_lsub hx hb dX5_leastAs_7 ?_
  refine lv_lstore_n (lv' := [(2, .long (((1 : Int64) <<< (u1.toInt64 &&& 63)) - (1 : Int64))), (0, .ref t), (1, .ref o)]) hx hb dX5_leastAs_8 rfl hl (by decide) rfl (fun ls hl => ?_)
  refine lv_aload_n hx hb dX5_leastAs_9 rfl (lv_at hl 1 rfl) ?_
  refine lv_aload_n hx hb dX5_leastAs_10 rfl (lv_at hl 2 rfl) ?_
  obtain ⟨u2, e2, hF⟩ := bdS hF
  refine xEndL (xRunV (As := [.ref o]) (rest := []) hZ (c_X5_toldBy G t o o_q on o_m o_f u2 e2 l H.size) m886 m887 m888 m22 m889 1 ⟨rfl, hdX5_toldBy⟩ ⟨Nat.le_of_ble_eq_true rfl, Nat.le_of_ble_eq_true rfl⟩ ⟨rfl, rfl⟩ hP hD hS 0 5 rfl rfl rfl [3, 4] rfl rfl rfl hl.1 rfl (Nat.le_of_ble_eq_true rfl) dX5_leastAs_11 ⟨Nat.zero_le _, Nat.zero_le _⟩) hP hD hS hA [3, 4] rfl rfl rfl (fun H locs hP hD hS => ?_)
  have hP : va_P G.1 vwCl [(t, .inr (5, [.ref spread, .ref breakers, .ref fit, .int fitting, .ref counted])), (breakers, .inl (xJ G, 729, .inr (.inl breakers_f))), (fit, .inl (xZ G, 729, .inl fit_f)), (o, .inr (1, [.ref o_q, .int o_m])), (o_q, .inl (xI G, on, .inl o_f))] H := hP
  have hD : va_D A [(t, .inr (5, [.ref spread, .ref breakers, .ref fit, .int fitting, .ref counted])), (breakers, .inl (xJ G, 729, .inr (.inl breakers_f))), (fit, .inl (xZ G, 729, .inl fit_f)), (o, .inr (1, [.ref o_q, .int o_m])), (o_q, .inl (xI G, on, .inl o_f))] := hD
  refine lv_lstore (lv' := [(4, .long u2), (2, .long (((1 : Int64) <<< (u1.toInt64 &&& 63)) - (1 : Int64))), (0, .ref t), (1, .ref o)]) hx hb dX5_leastAs_14 hl (by decide) rfl (fun ls hl => ?_)
  refine lv_iconst (v := 0) hx hb dX5_leastAs_16 (by decide) ?_
  refine lv_istore (lv' := [(6, .int (0 : Int32)), (4, .long u2), (2, .long (((1 : Int64) <<< (u1.toInt64 &&& 63)) - (1 : Int64))), (0, .ref t), (1, .ref o)]) hx hb dX5_leastAs_17 hl (by decide) rfl (fun ls hl => ?_)
  refine xLoop1 (body := (B_X5_leastAs_19 breakers_f fit_f u1 u2)) (fun (v19_0 : Int32) H locs ls => va_P G.1 vwCl [(t, .inr (5, [.ref spread, .ref breakers, .ref fit, .int fitting, .ref counted])), (breakers, .inl (xJ G, 729, .inr (.inl breakers_f))), (fit, .inl (xZ G, 729, .inl fit_f)), (o, .inr (1, [.ref o_q, .int o_m])), (o_q, .inl (xI G, on, .inl o_f))] H ∧ va_D A [(t, .inr (5, [.ref spread, .ref breakers, .ref fit, .int fitting, .ref counted])), (breakers, .inl (xJ G, 729, .inr (.inl breakers_f))), (fit, .inl (xZ G, 729, .inl fit_f)), (o, .inr (1, [.ref o_q, .int o_m])), (o_q, .inl (xI G, on, .inl o_f))] ∧ va_S A s.heap H locs ∧ lv_has ls 7 [(0, .ref t), (1, .ref o), (2, .long (((1 : Int64) <<< (u1.toInt64 &&& 63)) - (1 : Int64))), (4, .long u2), (6, .int v19_0)]) (fun N19 v19_0 ih19 H locs ls hI hF => ?_) fuelC (0 : Int32) H locs ls ⟨hP, hD, hS, lv_sub hl [3, 4, 2, 1, 0] rfl⟩ hF
  obtain ⟨hP, hD, hS, hl⟩ := hI
  unfold B_X5_leastAs_19 at hF
  refine lv_iload hx hb dX5_leastAs_19 (lv_at hl 4 rfl) ?_
  refine lv_sipush (v := 729) hx hb dX5_leastAs_21 (by decide) ?_
  refine lv_icmp_ge (tgt := 61) hx hb dX5_leastAs_24 (by decide) (fun c24 => ?_) (fun c24 => ?_)
  · have hF := itP c24 hF
    refine lv_iconst (v := -1) hx hb dX5_leastAs_61 (by decide) ?_
    obtain rfl := Option.some.inj hF
    rw [← hQ]
    exact W.iret (v := (-1 : Int32)) hx hb hr (fun t ht hW => ⟨⟨_, (), rfl, ⟨rfl, rfl⟩, xLf hP ht⟩, hS.F ht⟩) hS.2.2 dX5_leastAs_62
  · have hF := itN c24 hF
    refine lv_aload_n hx hb dX5_leastAs_27 rfl (lv_at hl 0 rfl) ?_
    refine va_get (ci := 5) (v := .ref fit) (C := RX5) (T := TX5) (N := 5) hx hb hts (fun w h => tcons w (xin5 w h)) hown hK hP 0 rfl rfl 2 (by decide) (hts _ (tcons _ m80)) (fun _ h9 => h9) rfl dX5_leastAs_28 ?_
    refine lv_iload hx hb dX5_leastAs_31 (lv_at hl 4 rfl) ?_
    obtain ⟨g33, hF⟩ := gdS hF
    refine va_zald hx hb hK hP 2 2 rfl rfl g33 dX5_leastAs_33 ?_
    refine lv_if_eq (tgt := 55) hx hb dX5_leastAs_34 (by decide) (fun c34 => ?_) (fun c34 => ?_)
    · have hF := itP c34 hF
      refine lv_iinc (v := (v19_0 + (1 : Int32))) (lv' := [(6, .int (v19_0 + (1 : Int32))), (0, .ref t), (1, .ref o), (2, .long (((1 : Int64) <<< (u1.toInt64 &&& 63)) - (1 : Int64))), (4, .long u2)]) hx hb dX5_leastAs_55 hl (k := 4) rfl (xInc_1 _) (by decide) rfl (fun ls hl => ?_)
      refine lv_goto (tgt := 19) hx hb dX5_leastAs_58 (by decide) ?_
      exact ih19 (v19_0 + (1 : Int32)) H locs ls ⟨hP, hD, hS, lv_sub hl [1, 2, 3, 4, 0] rfl⟩ hF
    · have hF := itN c34 hF
      refine lv_aload_n hx hb dX5_leastAs_37 rfl (lv_at hl 0 rfl) ?_
      refine va_get (ci := 5) (v := .ref breakers) (C := RX5) (T := TX5) (N := 5) hx hb hts (fun w h => tcons w (xin5 w h)) hown hK hP 0 rfl rfl 1 (by decide) (hts _ (tcons _ m78)) (fun _ h9 => h9) rfl dX5_leastAs_38 ?_
      refine lv_iload hx hb dX5_leastAs_41 (lv_at hl 4 rfl) ?_
      obtain ⟨g43, hF⟩ := gdS hF
      refine va_lald hx hb hK hP 1 1 rfl rfl g43 dX5_leastAs_43 ?_
      refine lv_lload_n hx hb dX5_leastAs_44 rfl (lv_at hl 2 rfl) ?_
      refine lv_land hx hb dX5_leastAs_45 ?_
      refine lv_lload hx hb dX5_leastAs_46 (lv_at hl 3 rfl) ?_
      refine W.lcmp hx hb dX5_leastAs_48 ?_
      refine lv_if_ne (tgt := 55) hx hb dX5_leastAs_49 (by decide) (fun c49 => ?_) (fun c49 => ?_)
      · have hF := itN c49 hF
        refine lv_iinc (v := (v19_0 + (1 : Int32))) (lv' := [(6, .int (v19_0 + (1 : Int32))), (0, .ref t), (1, .ref o), (2, .long (((1 : Int64) <<< (u1.toInt64 &&& 63)) - (1 : Int64))), (4, .long u2)]) hx hb dX5_leastAs_55 hl (k := 4) rfl (xInc_1 _) (by decide) rfl (fun ls hl => ?_)
        refine lv_goto (tgt := 19) hx hb dX5_leastAs_58 (by decide) ?_
        exact ih19 (v19_0 + (1 : Int32)) H locs ls ⟨hP, hD, hS, lv_sub hl [1, 2, 3, 4, 0] rfl⟩ hF
      · have hF := itP c49 hF
        refine lv_iload hx hb dX5_leastAs_52 (lv_at hl 4 rfl) ?_
        obtain rfl := Option.some.inj hF
        rw [← hQ]
        exact W.iret (v := v19_0) hx hb hr (fun t ht hW => ⟨⟨_, (), rfl, ⟨rfl, rfl⟩, xLf hP ht⟩, hS.F ht⟩) hS.2.2 dX5_leastAs_54
