def F_X0_next (rat : Int32) (tape_m : Int32) (tape_f : Nat → Int32) : Option Int32 := bd (F_X1_get 60 tape_m tape_f rat) (fun (u1 : Int32) => some u1)
theorem hdX0_next : yX0_next.cls ≠ "java/lang/invoke/MethodHandle" ∧ yX0_next.cls ≠ "java/lang/invoke/VarHandle" ∧ (parseMethodDescriptor yX0_next.desc).map (fun d => d.parameters.length) = some 0 := by decide +kernel
set_option maxHeartbeats 4000000 in
set_option maxRecDepth 100000 in
theorem c_X0_next (G : xG) (t : Nat) (tape : Nat) (codes : Nat) (tape_q : Nat) (kk : Nat) (rat : Int32) (flt : Int32) (tape_m : Int32) (tape_f : Nat → Int32)  (u : Int32) (hF : F_X0_next rat tape_m tape_f = some u) : Ki G .int yX0_next (Cond.code yX0_next cX0_next 1 (some .int) :: TBL) { frames := 1, cells := 0, slots := 0, locals := 21 } [.ref t] [(t, .inr (0, [.ref tape, .ref codes, .ref (xK G kk), .int rat, .int flt])), (tape, .inr (1, [.ref tape_q, .int tape_m])), (tape_q, .inl (xI G, 60, .inl tape_f))] [(t, .inr (0, [.ref tape, .ref codes, .ref (xK G kk), .int rat, .int flt])), (tape, .inr (1, [.ref tape_q, .int tape_m])), (tape_q, .inl (xI G, 60, .inl tape_f))] u := by
  intro l sz
  refine Met.ofW (cc := cX0_next) (maxL := 1) (ret := (some .int)) (by decide) rfl ?_
  intro p e s m args below meth c s₁ B hml hv
  obtain ⟨rfl, hsz, hP, hD0, hm⟩ := hv
  have hx := B.exec
  have hb := B.bytes
  have hr := B.returns
  have hts := atoms_spec (ws := Cond.code yX0_next cX0_next 1 (some .int) :: TBL) B.pre
  have hown : s.vm.findClass RX0 = some m.cls := findClass_of_methodNamed B.named
  have hlocks := B.notSynchronized
  subst hsz
  have hD := hD0.self (sz := s.heap.size)
  generalize hAe : va_A [(t, .inr (0, [.ref tape, .ref codes, .ref (xK G kk), .int rat, .int flt])), (tape, .inr (1, [.ref tape_q, .int tape_m])), (tape_q, .inl (xI G, 60, .inl tape_f))] s.heap.size = A at hD hm ⊢
  have hA : ∀ q : Nat, s.heap.size ≤ q → A q := fun q h => by rw [← hAe]; exact Or.inr h
  have hK := hm.1
  have hZ : xAnd p m c cX0_next 1 s _ (Cond.code yX0_next cX0_next 1 (some .int) :: TBL) RX0 G A := ⟨⟨hx, hb, hml, hown, hts⟩, tcons, hA, hm⟩
  have hP : va_P G.1 vwCl [(t, .inr (0, [.ref tape, .ref codes, .ref (xK G kk), .int rat, .int flt])), (tape, .inr (1, [.ref tape_q, .int tape_m])), (tape_q, .inl (xI G, 60, .inl tape_f))] s.heap := hP
  have hl := lv_entry ([.ref t]) (n := 1) (Nat.le_of_ble_eq_true rfl)
  rw [lg_entry_eq]
  generalize (lg_sl ([.ref t]) ++ List.replicate (1 - (lg_sl ([.ref t])).length) Slot.unset).toArray = ls at hl ⊢
  have hl : lv_has ls 1 [(0, .ref t)] := hl
  generalize hQ : MQ below _ _ s _ _ _ = Q
  refine xGo (A := A) hP (fun H locs hP hS => ?_)
  unfold F_X0_next at hF
  refine lv_aload_n hx hb dX0_next_0 rfl (lv_at hl 0 rfl) ?_
  refine va_get (ci := 0) (v := .ref tape) (C := RX0) (T := TX0) (N := 5) hx hb hts (fun w h => tcons w (xin0 w h)) hown hK hP 0 rfl rfl 0 (by decide) (hts _ (tcons _ m96)) (fun _ h9 => h9) rfl dX0_next_1 ?_
  refine lv_aload_n hx hb dX0_next_4 rfl (lv_at hl 0 rfl) ?_
  refine va_get (ci := 0) (v := .int rat) (C := RX0) (T := TX0) (N := 5) hx hb hts (fun w h => tcons w (xin0 w h)) hown hK hP 0 rfl rfl 3 (by decide) (hts _ (tcons _ m94)) (fun _ h9 => h9) rfl dX0_next_5 ?_
  obtain ⟨u1, e1, hF⟩ := bdS hF
  refine xEndI (xRunV (As := [.int rat]) (rest := []) hZ (c_X1_get G tape tape_q 60 tape_m tape_f rat u1 e1 l H.size) m517 m130 m131 m49 m132 1 ⟨rfl, hdX1_get⟩ ⟨Nat.le_of_ble_eq_true rfl, Nat.le_of_ble_eq_true rfl⟩ ⟨rfl, rfl⟩ hP hD hS 1 1 rfl rfl rfl [1, 2] rfl rfl rfl hl.1 rfl (Nat.le_of_ble_eq_true rfl) dX0_next_8 ⟨Nat.zero_le _, Nat.zero_le _⟩) hP hD hS hA [1, 2] rfl rfl rfl (fun H locs n1 hP hD hS => ?_)
  have hP : va_P G.1 vwCl [(t, .inr (0, [.ref tape, .ref codes, .ref (xK G kk), .int rat, .int flt])), (tape, .inr (1, [.ref tape_q, .int tape_m])), (tape_q, .inl (xI G, 60, .inl tape_f))] H := hP
  have hD : va_D A [(t, .inr (0, [.ref tape, .ref codes, .ref (xK G kk), .int rat, .int flt])), (tape, .inr (1, [.ref tape_q, .int tape_m])), (tape_q, .inl (xI G, 60, .inl tape_f))] := hD
  obtain rfl := Option.some.inj hF
  rw [← hQ]
  exact W.iret (v := u1) hx hb hr (fun t ht hW => ⟨⟨_, (), rfl, ⟨rfl, rfl⟩, xLf hP ht⟩, hS.F ht⟩) hS.2.2 dX0_next_11
def F_X0_takes (rat : Int32) (flt : Int32) (tape_m : Int32) (tape_f : Nat → Int32) (ch : Int32) : Option (Int32 × Int32) := if flt = 0 then (bd (F_X0_next rat tape_m tape_f) (fun (u1 : Int32) => if u1 = ch then (some ((1 : Int32), (rat + (1 : Int32)))) else (some ((0 : Int32), rat)))) else (some ((0 : Int32), rat))
theorem hdX0_takes : yX0_takes.cls ≠ "java/lang/invoke/MethodHandle" ∧ yX0_takes.cls ≠ "java/lang/invoke/VarHandle" ∧ (parseMethodDescriptor yX0_takes.desc).map (fun d => d.parameters.length) = some 1 := by decide +kernel
set_option maxHeartbeats 4000000 in
set_option maxRecDepth 100000 in
theorem c_X0_takes (G : xG) (t : Nat) (tape : Nat) (codes : Nat) (tape_q : Nat) (kk : Nat) (rat : Int32) (flt : Int32) (tape_m : Int32) (tape_f : Nat → Int32) (ch : Int32)  (u : (Int32 × Int32)) (hF : F_X0_takes rat flt tape_m tape_f ch = some u) : Ki G .boolean yX0_takes (Cond.code yX0_takes cX0_takes 2 (some .boolean) :: TBL) { frames := 2, cells := 0, slots := 0, locals := 41 } [.ref t, .int ch] [(t, .inr (0, [.ref tape, .ref codes, .ref (xK G kk), .int rat, .int flt])), (tape, .inr (1, [.ref tape_q, .int tape_m])), (tape_q, .inl (xI G, 60, .inl tape_f))] [(t, .inr (0, [.ref tape, .ref codes, .ref (xK G kk), .int u.2, .int flt])), (tape, .inr (1, [.ref tape_q, .int tape_m])), (tape_q, .inl (xI G, 60, .inl tape_f))] u.1 := by
  intro l sz
  refine Met.ofW (cc := cX0_takes) (maxL := 2) (ret := (some .boolean)) (by decide) rfl ?_
  intro p e s m args below meth c s₁ B hml hv
  obtain ⟨rfl, hsz, hP, hD0, hm⟩ := hv
  have hx := B.exec
  have hb := B.bytes
  have hr := B.returns
  have hts := atoms_spec (ws := Cond.code yX0_takes cX0_takes 2 (some .boolean) :: TBL) B.pre
  have hown : s.vm.findClass RX0 = some m.cls := findClass_of_methodNamed B.named
  have hlocks := B.notSynchronized
  subst hsz
  have hD := hD0.self (sz := s.heap.size)
  generalize hAe : va_A [(t, .inr (0, [.ref tape, .ref codes, .ref (xK G kk), .int rat, .int flt])), (tape, .inr (1, [.ref tape_q, .int tape_m])), (tape_q, .inl (xI G, 60, .inl tape_f))] s.heap.size = A at hD hm ⊢
  have hA : ∀ q : Nat, s.heap.size ≤ q → A q := fun q h => by rw [← hAe]; exact Or.inr h
  have hK := hm.1
  have hZ : xAnd p m c cX0_takes 2 s _ (Cond.code yX0_takes cX0_takes 2 (some .boolean) :: TBL) RX0 G A := ⟨⟨hx, hb, hml, hown, hts⟩, tcons, hA, hm⟩
  have hP : va_P G.1 vwCl [(t, .inr (0, [.ref tape, .ref codes, .ref (xK G kk), .int rat, .int flt])), (tape, .inr (1, [.ref tape_q, .int tape_m])), (tape_q, .inl (xI G, 60, .inl tape_f))] s.heap := hP
  have hl := lv_entry ([.ref t, .int ch]) (n := 2) (Nat.le_of_ble_eq_true rfl)
  rw [lg_entry_eq]
  generalize (lg_sl ([.ref t, .int ch]) ++ List.replicate (2 - (lg_sl ([.ref t, .int ch])).length) Slot.unset).toArray = ls at hl ⊢
  have hl : lv_has ls 2 [(0, .ref t), (1, .int ch)] := hl
  generalize hQ : MQ below _ _ s _ _ _ = Q
  refine xGo (A := A) hP (fun H locs hP hS => ?_)
  unfold F_X0_takes at hF
  refine lv_aload_n hx hb dX0_takes_0 rfl (lv_at hl 0 rfl) ?_
  refine va_get (ci := 0) (v := .int flt) (C := RX0) (T := TX0) (N := 5) hx hb hts (fun w h => tcons w (xin0 w h)) hown hK hP 0 rfl rfl 4 (by decide) (hts _ (tcons _ m95)) (fun _ h9 => h9) rfl dX0_takes_1 ?_
  refine lv_if_ne (tgt := 15) hx hb dX0_takes_4 (by decide) (fun c4 => ?_) (fun c4 => ?_)
  · have hF := itN c4 hF
    refine lv_iconst (v := 0) hx hb dX0_takes_15 (by decide) ?_
    obtain rfl := Option.some.inj hF
    rw [← hQ]
    exact W.zret (v := (0 : Int32)) hx hb hr (show narrow .boolean (.int (0 : Int32)) = .int (0 : Int32) from by decide) (fun t ht hW => ⟨⟨_, (), rfl, ⟨rfl, (show narrow .boolean (.int (0 : Int32)) = .int (0 : Int32) from by decide)⟩, xLf hP ht⟩, hS.F ht⟩) hS.2.2 dX0_takes_16
  · have hF := itP c4 hF
    refine lv_aload_n hx hb dX0_takes_7 rfl (lv_at hl 0 rfl) ?_
    obtain ⟨u1, e1, hF⟩ := bdS hF
    refine xEndI (xRunV (As := []) (rest := []) hZ (c_X0_next G t tape codes tape_q kk rat flt tape_m tape_f u1 e1 l H.size) m513 m514 m515 m26 m516 0 ⟨rfl, hdX0_next⟩ ⟨Nat.le_of_ble_eq_true rfl, Nat.le_of_ble_eq_true rfl⟩ ⟨rfl, rfl⟩ hP hD hS 0 0 rfl rfl rfl [0, 1, 2] rfl rfl rfl hl.1 rfl (Nat.le_of_ble_eq_true rfl) dX0_takes_8 ⟨Nat.zero_le _, Nat.zero_le _⟩) hP hD hS hA [0, 1, 2] rfl rfl rfl (fun H locs n1 hP hD hS => ?_)
    have hP : va_P G.1 vwCl [(t, .inr (0, [.ref tape, .ref codes, .ref (xK G kk), .int rat, .int flt])), (tape, .inr (1, [.ref tape_q, .int tape_m])), (tape_q, .inl (xI G, 60, .inl tape_f))] H := hP
    have hD : va_D A [(t, .inr (0, [.ref tape, .ref codes, .ref (xK G kk), .int rat, .int flt])), (tape, .inr (1, [.ref tape_q, .int tape_m])), (tape_q, .inl (xI G, 60, .inl tape_f))] := hD
    refine lv_iload_n hx hb dX0_takes_11 rfl (lv_at hl 1 rfl) ?_
    refine lv_icmp_eq (tgt := 17) hx hb dX0_takes_12 (by decide) (fun c12 => ?_) (fun c12 => ?_)
    · have hF := itP c12 hF
      refine lv_aload_n hx hb dX0_takes_17 rfl (lv_at hl 0 rfl) ?_
      refine lv_dup hx hb dX0_takes_18 rfl ?_
      refine va_get (ci := 0) (v := .int rat) (C := RX0) (T := TX0) (N := 5) hx hb hts (fun w h => tcons w (xin0 w h)) hown hK hP 0 rfl rfl 3 (by decide) (hts _ (tcons _ m94)) (fun _ h9 => h9) rfl dX0_takes_19 ?_
      refine lv_iconst (v := 1) hx hb dX0_takes_22 (by decide) ?_
      refine lv_iadd hx hb dX0_takes_23 ?_
      refine va_put (ci := 0) (v := .int (rat + (1 : Int32))) (ty := .int) (C := RX0) (T := TX0) (N := 5) hx hb hts (fun w h => tcons w (xin0 w h)) tyX0 tyX0_ok nmX0 hown hK hP hD hS 0 rfl rfl 3 (by decide) (hts _ (tcons _ m94)) (fun _ h9 => h9) rfl (by decide +kernel) rfl rfl (Nat.le_of_ble_eq_true rfl) dX0_takes_24 (fun H locs hP hD hS => ?_)
      have hP : va_P G.1 vwCl [(t, .inr (0, [.ref tape, .ref codes, .ref (xK G kk), .int (rat + (1 : Int32)), .int flt])), (tape, .inr (1, [.ref tape_q, .int tape_m])), (tape_q, .inl (xI G, 60, .inl tape_f))] H := hP
      have hD : va_D A [(t, .inr (0, [.ref tape, .ref codes, .ref (xK G kk), .int (rat + (1 : Int32)), .int flt])), (tape, .inr (1, [.ref tape_q, .int tape_m])), (tape_q, .inl (xI G, 60, .inl tape_f))] := hD
      refine lv_iconst (v := 1) hx hb dX0_takes_27 (by decide) ?_
      obtain rfl := Option.some.inj hF
      rw [← hQ]
      exact W.zret (v := (1 : Int32)) hx hb hr (show narrow .boolean (.int (1 : Int32)) = .int (1 : Int32) from by decide) (fun t ht hW => ⟨⟨_, (), rfl, ⟨rfl, (show narrow .boolean (.int (1 : Int32)) = .int (1 : Int32) from by decide)⟩, xLf hP ht⟩, hS.F ht⟩) hS.2.2 dX0_takes_28
    · have hF := itN c12 hF
      refine lv_iconst (v := 0) hx hb dX0_takes_15 (by decide) ?_
      obtain rfl := Option.some.inj hF
      rw [← hQ]
      exact W.zret (v := (0 : Int32)) hx hb hr (show narrow .boolean (.int (0 : Int32)) = .int (0 : Int32) from by decide) (fun t ht hW => ⟨⟨_, (), rfl, ⟨rfl, (show narrow .boolean (.int (0 : Int32)) = .int (0 : Int32) from by decide)⟩, xLf hP ht⟩, hS.F ht⟩) hS.2.2 dX0_takes_16
def B_X0_takesOneOf_2 (flt : Int32) (tape_m : Int32) (tape_f : Nat → Int32) (ks : Nat) (k2 : (Int32 × Int32) → Option (Int32 × Int32)) (v2 : (Int32 × Int32)) : Option (Int32 × Int32) := bd (F_J0_length_8abf5 ks) (fun (u1 : Int32) => if u1 ≤ v2.1 then (some ((0 : Int32), v2.2)) else (bd (F_J0_charAt_5068e ks v2.1) (fun (u2 : Int32) => bd (F_X0_takes v2.2 flt tape_m tape_f u2) (fun (u3 : (Int32 × Int32)) => if u3.1 = 0 then (k2 ((v2.1 + (1 : Int32)), u3.2)) else (bd (F_J0_charAt_5068e ks v2.1) (fun (u4 : Int32) => some (u4, u3.2)))))))
def F_X0_takesOneOf (rat : Int32) (flt : Int32) (tape_m : Int32) (tape_f : Nat → Int32) (ks : Nat) : Option (Int32 × Int32) := lp (B_X0_takesOneOf_2 flt tape_m tape_f ks) fuelC ((0 : Int32), rat)
theorem hdX0_takesOneOf : yX0_takesOneOf.cls ≠ "java/lang/invoke/MethodHandle" ∧ yX0_takesOneOf.cls ≠ "java/lang/invoke/VarHandle" ∧ (parseMethodDescriptor yX0_takesOneOf.desc).map (fun d => d.parameters.length) = some 1 := by decide +kernel
set_option maxHeartbeats 4000000 in
set_option maxRecDepth 100000 in
theorem c_X0_takesOneOf (G : xG) (t : Nat) (tape : Nat) (codes : Nat) (tape_q : Nat) (kk : Nat) (rat : Int32) (flt : Int32) (tape_m : Int32) (tape_f : Nat → Int32) (ks : Nat) (hkk : ks < 6) (u : (Int32 × Int32)) (hF : F_X0_takesOneOf rat flt tape_m tape_f ks = some u) : Ki G .char yX0_takesOneOf (Cond.code yX0_takesOneOf cX0_takesOneOf 3 (some .char) :: TBL) { frames := 4, cells := 0, slots := 0, locals := 85 } [.ref t, .ref (xK G ks)] [(t, .inr (0, [.ref tape, .ref codes, .ref (xK G kk), .int rat, .int flt])), (tape, .inr (1, [.ref tape_q, .int tape_m])), (tape_q, .inl (xI G, 60, .inl tape_f))] [(t, .inr (0, [.ref tape, .ref codes, .ref (xK G kk), .int u.2, .int flt])), (tape, .inr (1, [.ref tape_q, .int tape_m])), (tape_q, .inl (xI G, 60, .inl tape_f))] u.1 := by
  intro l sz
  refine Met.ofW (cc := cX0_takesOneOf) (maxL := 3) (ret := (some .char)) (by decide) rfl ?_
  intro p e s m args below meth c s₁ B hml hv
  obtain ⟨rfl, hsz, hP, hD0, hm⟩ := hv
  have hx := B.exec
  have hb := B.bytes
  have hr := B.returns
  have hts := atoms_spec (ws := Cond.code yX0_takesOneOf cX0_takesOneOf 3 (some .char) :: TBL) B.pre
  have hown : s.vm.findClass RX0 = some m.cls := findClass_of_methodNamed B.named
  have hlocks := B.notSynchronized
  subst hsz
  have hD := hD0.self (sz := s.heap.size)
  generalize hAe : va_A [(t, .inr (0, [.ref tape, .ref codes, .ref (xK G kk), .int rat, .int flt])), (tape, .inr (1, [.ref tape_q, .int tape_m])), (tape_q, .inl (xI G, 60, .inl tape_f))] s.heap.size = A at hD hm ⊢
  have hA : ∀ q : Nat, s.heap.size ≤ q → A q := fun q h => by rw [← hAe]; exact Or.inr h
  have hK := hm.1
  have hZ : xAnd p m c cX0_takesOneOf 3 s _ (Cond.code yX0_takesOneOf cX0_takesOneOf 3 (some .char) :: TBL) RX0 G A := ⟨⟨hx, hb, hml, hown, hts⟩, tcons, hA, hm⟩
  have hP : va_P G.1 vwCl [(t, .inr (0, [.ref tape, .ref codes, .ref (xK G kk), .int rat, .int flt])), (tape, .inr (1, [.ref tape_q, .int tape_m])), (tape_q, .inl (xI G, 60, .inl tape_f))] s.heap := hP
  have hl := lv_entry ([.ref t, .ref (xK G ks)]) (n := 3) (Nat.le_of_ble_eq_true rfl)
  rw [lg_entry_eq]
  generalize (lg_sl ([.ref t, .ref (xK G ks)]) ++ List.replicate (3 - (lg_sl ([.ref t, .ref (xK G ks)])).length) Slot.unset).toArray = ls at hl ⊢
  have hl : lv_has ls 3 [(0, .ref t), (1, .ref (xK G ks))] := hl
  generalize hQ : MQ below _ _ s _ _ _ = Q
  refine xGo (A := A) hP (fun H locs hP hS => ?_)
  unfold F_X0_takesOneOf at hF
  refine lv_iconst (v := 0) hx hb dX0_takesOneOf_0 (by decide) ?_
  refine lv_istore_n (lv' := [(2, .int (0 : Int32)), (0, .ref t), (1, .ref (xK G ks))]) hx hb dX0_takesOneOf_1 rfl hl (by decide) rfl (fun ls hl => ?_)
  refine xLoop2 (body := (B_X0_takesOneOf_2 flt tape_m tape_f ks)) (fun (v2_0 : Int32) (v2_1 : Int32) H locs ls => va_P G.1 vwCl [(t, .inr (0, [.ref tape, .ref codes, .ref (xK G kk), .int v2_1, .int flt])), (tape, .inr (1, [.ref tape_q, .int tape_m])), (tape_q, .inl (xI G, 60, .inl tape_f))] H ∧ va_D A [(t, .inr (0, [.ref tape, .ref codes, .ref (xK G kk), .int v2_1, .int flt])), (tape, .inr (1, [.ref tape_q, .int tape_m])), (tape_q, .inl (xI G, 60, .inl tape_f))] ∧ va_S A s.heap H locs ∧ lv_has ls 3 [(0, .ref t), (1, .ref (xK G ks)), (2, .int v2_0)]) (fun N2 v2_0 v2_1 ih2 H locs ls hI hF => ?_) fuelC (0 : Int32) rat H locs ls ⟨hP, hD, hS, lv_sub hl [1, 2, 0] rfl⟩ hF
  obtain ⟨hP, hD, hS, hl⟩ := hI
  unfold B_X0_takesOneOf_2 at hF
  refine lv_iload_n hx hb dX0_takesOneOf_2 rfl (lv_at hl 2 rfl) ?_
  refine lv_aload_n hx hb dX0_takesOneOf_3 rfl (lv_at hl 1 rfl) ?_
  obtain ⟨u1, e1, hF⟩ := bdS hF
  refine xEndI (xRunVs (As := []) (rest := [.int v2_0]) hZ (c_J0_length_8abf5 G ks hkk u1 e1 l H.size) m531 m532 m533 m534 m535 0 ⟨rfl, hdJ0_length_8abf5⟩ ⟨Nat.le_of_ble_eq_true rfl, Nat.le_of_ble_eq_true rfl⟩ ⟨rfl, rfl⟩ hP hD hS (vk_recv hm.2.2.2.2.2.2.2.2.1 hkk hS) [] rfl rfl rfl hl.1 rfl (Nat.le_of_ble_eq_true rfl) dX0_takesOneOf_4 ⟨Nat.zero_le _, Nat.zero_le _⟩) hP hD hS hA [] rfl rfl rfl (fun H locs n1 hP hD hS => ?_)
  have hP : va_P G.1 vwCl [(t, .inr (0, [.ref tape, .ref codes, .ref (xK G kk), .int v2_1, .int flt])), (tape, .inr (1, [.ref tape_q, .int tape_m])), (tape_q, .inl (xI G, 60, .inl tape_f))] H := hP
  have hD : va_D A [(t, .inr (0, [.ref tape, .ref codes, .ref (xK G kk), .int v2_1, .int flt])), (tape, .inr (1, [.ref tape_q, .int tape_m])), (tape_q, .inl (xI G, 60, .inl tape_f))] := hD
  refine lv_icmp_ge (tgt := 34) hx hb dX0_takesOneOf_7 (by decide) (fun c7 => ?_) (fun c7 => ?_)
  · have hF := itP c7 hF
    refine lv_iconst (v := 0) hx hb dX0_takesOneOf_34 (by decide) ?_
    obtain rfl := Option.some.inj hF
    rw [← hQ]
    exact W.zret (v := (0 : Int32)) hx hb hr (show narrow .char (.int (0 : Int32)) = .int (0 : Int32) from by decide) (fun t ht hW => ⟨⟨_, (), rfl, ⟨rfl, (show narrow .char (.int (0 : Int32)) = .int (0 : Int32) from by decide)⟩, xLf hP ht⟩, hS.F ht⟩) hS.2.2 dX0_takesOneOf_35
  · have hF := itN c7 hF
    refine lv_aload_n hx hb dX0_takesOneOf_10 rfl (lv_at hl 0 rfl) ?_
    refine lv_aload_n hx hb dX0_takesOneOf_11 rfl (lv_at hl 1 rfl) ?_
    refine lv_iload_n hx hb dX0_takesOneOf_12 rfl (lv_at hl 2 rfl) ?_
    obtain ⟨u2, e2, hF⟩ := bdS hF
    refine xEndI (xRunVs (As := [.int v2_0]) (rest := [.ref t]) hZ (c_J0_charAt_5068e G ks v2_0 hkk u2 e2 l H.size) m543 m544 m545 m534 m546 1 ⟨rfl, hdJ0_charAt_5068e⟩ ⟨Nat.le_of_ble_eq_true rfl, Nat.le_of_ble_eq_true rfl⟩ ⟨rfl, rfl⟩ hP hD hS (vk_recv hm.2.2.2.2.2.2.2.2.1 hkk hS) [] rfl rfl rfl hl.1 rfl (Nat.le_of_ble_eq_true rfl) dX0_takesOneOf_13 ⟨Nat.zero_le _, Nat.zero_le _⟩) hP hD hS hA [] rfl rfl rfl (fun H locs n2 hP hD hS => ?_)
    have hP : va_P G.1 vwCl [(t, .inr (0, [.ref tape, .ref codes, .ref (xK G kk), .int v2_1, .int flt])), (tape, .inr (1, [.ref tape_q, .int tape_m])), (tape_q, .inl (xI G, 60, .inl tape_f))] H := hP
    have hD : va_D A [(t, .inr (0, [.ref tape, .ref codes, .ref (xK G kk), .int v2_1, .int flt])), (tape, .inr (1, [.ref tape_q, .int tape_m])), (tape_q, .inl (xI G, 60, .inl tape_f))] := hD
    obtain ⟨u3, e3, hF⟩ := bdS hF
    refine xEndI (xRunV (As := [.int u2]) (rest := []) hZ (c_X0_takes G t tape codes tape_q kk v2_1 flt tape_m tape_f u2 u3 e3 l H.size) m509 m510 m511 m26 m512 1 ⟨rfl, hdX0_takes⟩ ⟨Nat.le_of_ble_eq_true rfl, Nat.le_of_ble_eq_true rfl⟩ ⟨rfl, rfl⟩ hP hD hS 0 0 rfl rfl rfl [0, 1, 2] rfl rfl rfl hl.1 rfl (Nat.le_of_ble_eq_true rfl) dX0_takesOneOf_16 ⟨Nat.zero_le _, Nat.zero_le _⟩) hP hD hS hA [0, 1, 2] rfl rfl rfl (fun H locs n3 hP hD hS => ?_)
    have hP : va_P G.1 vwCl [(t, .inr (0, [.ref tape, .ref codes, .ref (xK G kk), .int u3.2, .int flt])), (tape, .inr (1, [.ref tape_q, .int tape_m])), (tape_q, .inl (xI G, 60, .inl tape_f))] H := hP
    have hD : va_D A [(t, .inr (0, [.ref tape, .ref codes, .ref (xK G kk), .int u3.2, .int flt])), (tape, .inr (1, [.ref tape_q, .int tape_m])), (tape_q, .inl (xI G, 60, .inl tape_f))] := hD
    refine lv_if_eq (tgt := 28) hx hb dX0_takesOneOf_19 (by decide) (fun c19 => ?_) (fun c19 => ?_)
    · have hF := itP c19 hF
      refine lv_iinc (v := (v2_0 + (1 : Int32))) (lv' := [(2, .int (v2_0 + (1 : Int32))), (0, .ref t), (1, .ref (xK G ks))]) hx hb dX0_takesOneOf_28 hl (k := 2) rfl (xInc_1 _) (by decide) rfl (fun ls hl => ?_)
      refine lv_goto (tgt := 2) hx hb dX0_takesOneOf_31 (by decide) ?_
      exact ih2 (v2_0 + (1 : Int32)) u3.2 H locs ls ⟨hP, hD, hS, lv_sub hl [1, 2, 0] rfl⟩ hF
    · have hF := itN c19 hF
      refine lv_aload_n hx hb dX0_takesOneOf_22 rfl (lv_at hl 1 rfl) ?_
      refine lv_iload_n hx hb dX0_takesOneOf_23 rfl (lv_at hl 2 rfl) ?_
      obtain ⟨u4, e4, hF⟩ := bdS hF
      refine xEndI (xRunVs (As := [.int v2_0]) (rest := []) hZ (c_J0_charAt_5068e G ks v2_0 hkk u4 e4 l H.size) m543 m544 m545 m534 m546 1 ⟨rfl, hdJ0_charAt_5068e⟩ ⟨Nat.le_of_ble_eq_true rfl, Nat.le_of_ble_eq_true rfl⟩ ⟨rfl, rfl⟩ hP hD hS (vk_recv hm.2.2.2.2.2.2.2.2.1 hkk hS) [] rfl rfl rfl hl.1 rfl (Nat.le_of_ble_eq_true rfl) dX0_takesOneOf_24 ⟨Nat.zero_le _, Nat.zero_le _⟩) hP hD hS hA [] rfl rfl rfl (fun H locs n4 hP hD hS => ?_)
      have hP : va_P G.1 vwCl [(t, .inr (0, [.ref tape, .ref codes, .ref (xK G kk), .int u3.2, .int flt])), (tape, .inr (1, [.ref tape_q, .int tape_m])), (tape_q, .inl (xI G, 60, .inl tape_f))] H := hP
      have hD : va_D A [(t, .inr (0, [.ref tape, .ref codes, .ref (xK G kk), .int u3.2, .int flt])), (tape, .inr (1, [.ref tape_q, .int tape_m])), (tape_q, .inl (xI G, 60, .inl tape_f))] := hD
      obtain rfl := Option.some.inj hF
      rw [← hQ]
      exact W.zret (v := u4) hx hb hr n4 (fun t ht hW => ⟨⟨_, (), rfl, ⟨rfl, n4⟩, xLf hP ht⟩, hS.F ht⟩) hS.2.2 dX0_takesOneOf_27
def F_X0_isDigit (rat : Int32) (tape_m : Int32) (tape_f : Nat → Int32) : Option Int32 := bd (F_X0_next rat tape_m tape_f) (fun (u1 : Int32) => if u1 < (48 : Int32) then (some (0 : Int32)) else (bd (F_X0_next rat tape_m tape_f) (fun (u2 : Int32) => if (57 : Int32) < u2 then (some (0 : Int32)) else (some (1 : Int32)))))
theorem hdX0_isDigit : yX0_isDigit.cls ≠ "java/lang/invoke/MethodHandle" ∧ yX0_isDigit.cls ≠ "java/lang/invoke/VarHandle" ∧ (parseMethodDescriptor yX0_isDigit.desc).map (fun d => d.parameters.length) = some 0 := by decide +kernel
set_option maxHeartbeats 4000000 in
set_option maxRecDepth 100000 in
theorem c_X0_isDigit (G : xG) (t : Nat) (tape : Nat) (codes : Nat) (tape_q : Nat) (kk : Nat) (rat : Int32) (flt : Int32) (tape_m : Int32) (tape_f : Nat → Int32)  (u : Int32) (hF : F_X0_isDigit rat tape_m tape_f = some u) : Ki G .boolean yX0_isDigit (Cond.code yX0_isDigit cX0_isDigit 1 (some .boolean) :: TBL) { frames := 2, cells := 0, slots := 0, locals := 41 } [.ref t] [(t, .inr (0, [.ref tape, .ref codes, .ref (xK G kk), .int rat, .int flt])), (tape, .inr (1, [.ref tape_q, .int tape_m])), (tape_q, .inl (xI G, 60, .inl tape_f))] [(t, .inr (0, [.ref tape, .ref codes, .ref (xK G kk), .int rat, .int flt])), (tape, .inr (1, [.ref tape_q, .int tape_m])), (tape_q, .inl (xI G, 60, .inl tape_f))] u := by
  intro l sz
  refine Met.ofW (cc := cX0_isDigit) (maxL := 1) (ret := (some .boolean)) (by decide) rfl ?_
  intro p e s m args below meth c s₁ B hml hv
  obtain ⟨rfl, hsz, hP, hD0, hm⟩ := hv
  have hx := B.exec
  have hb := B.bytes
  have hr := B.returns
  have hts := atoms_spec (ws := Cond.code yX0_isDigit cX0_isDigit 1 (some .boolean) :: TBL) B.pre
  have hown : s.vm.findClass RX0 = some m.cls := findClass_of_methodNamed B.named
  have hlocks := B.notSynchronized
  subst hsz
  have hD := hD0.self (sz := s.heap.size)
  generalize hAe : va_A [(t, .inr (0, [.ref tape, .ref codes, .ref (xK G kk), .int rat, .int flt])), (tape, .inr (1, [.ref tape_q, .int tape_m])), (tape_q, .inl (xI G, 60, .inl tape_f))] s.heap.size = A at hD hm ⊢
  have hA : ∀ q : Nat, s.heap.size ≤ q → A q := fun q h => by rw [← hAe]; exact Or.inr h
  have hK := hm.1
  have hZ : xAnd p m c cX0_isDigit 1 s _ (Cond.code yX0_isDigit cX0_isDigit 1 (some .boolean) :: TBL) RX0 G A := ⟨⟨hx, hb, hml, hown, hts⟩, tcons, hA, hm⟩
  have hP : va_P G.1 vwCl [(t, .inr (0, [.ref tape, .ref codes, .ref (xK G kk), .int rat, .int flt])), (tape, .inr (1, [.ref tape_q, .int tape_m])), (tape_q, .inl (xI G, 60, .inl tape_f))] s.heap := hP
  have hl := lv_entry ([.ref t]) (n := 1) (Nat.le_of_ble_eq_true rfl)
  rw [lg_entry_eq]
  generalize (lg_sl ([.ref t]) ++ List.replicate (1 - (lg_sl ([.ref t])).length) Slot.unset).toArray = ls at hl ⊢
  have hl : lv_has ls 1 [(0, .ref t)] := hl
  generalize hQ : MQ below _ _ s _ _ _ = Q
  refine xGo (A := A) hP (fun H locs hP hS => ?_)
  unfold F_X0_isDigit at hF
  refine lv_aload_n hx hb dX0_isDigit_0 rfl (lv_at hl 0 rfl) ?_
  obtain ⟨u1, e1, hF⟩ := bdS hF
  refine xEndI (xRunV (As := []) (rest := []) hZ (c_X0_next G t tape codes tape_q kk rat flt tape_m tape_f u1 e1 l H.size) m513 m514 m515 m26 m516 0 ⟨rfl, hdX0_next⟩ ⟨Nat.le_of_ble_eq_true rfl, Nat.le_of_ble_eq_true rfl⟩ ⟨rfl, rfl⟩ hP hD hS 0 0 rfl rfl rfl [0, 1, 2] rfl rfl rfl hl.1 rfl (Nat.le_of_ble_eq_true rfl) dX0_isDigit_1 ⟨Nat.zero_le _, Nat.zero_le _⟩) hP hD hS hA [0, 1, 2] rfl rfl rfl (fun H locs n1 hP hD hS => ?_)
  have hP : va_P G.1 vwCl [(t, .inr (0, [.ref tape, .ref codes, .ref (xK G kk), .int rat, .int flt])), (tape, .inr (1, [.ref tape_q, .int tape_m])), (tape_q, .inl (xI G, 60, .inl tape_f))] H := hP
  have hD : va_D A [(t, .inr (0, [.ref tape, .ref codes, .ref (xK G kk), .int rat, .int flt])), (tape, .inr (1, [.ref tape_q, .int tape_m])), (tape_q, .inl (xI G, 60, .inl tape_f))] := hD
  refine lv_bipush (v := 48) hx hb dX0_isDigit_4 (by decide) ?_
  refine lv_icmp_lt (tgt := 22) hx hb dX0_isDigit_6 (by decide) (fun c6 => ?_) (fun c6 => ?_)
  · have hF := itP c6 hF
    refine lv_iconst (v := 0) hx hb dX0_isDigit_22 (by decide) ?_
    obtain rfl := Option.some.inj hF
    rw [← hQ]
    exact W.zret (v := (0 : Int32)) hx hb hr (show narrow .boolean (.int (0 : Int32)) = .int (0 : Int32) from by decide) (fun t ht hW => ⟨⟨_, (), rfl, ⟨rfl, (show narrow .boolean (.int (0 : Int32)) = .int (0 : Int32) from by decide)⟩, xLf hP ht⟩, hS.F ht⟩) hS.2.2 dX0_isDigit_23
  · have hF := itN c6 hF
    refine lv_aload_n hx hb dX0_isDigit_9 rfl (lv_at hl 0 rfl) ?_
    obtain ⟨u2, e2, hF⟩ := bdS hF
    refine xEndI (xRunV (As := []) (rest := []) hZ (c_X0_next G t tape codes tape_q kk rat flt tape_m tape_f u2 e2 l H.size) m513 m514 m515 m26 m516 0 ⟨rfl, hdX0_next⟩ ⟨Nat.le_of_ble_eq_true rfl, Nat.le_of_ble_eq_true rfl⟩ ⟨rfl, rfl⟩ hP hD hS 0 0 rfl rfl rfl [0, 1, 2] rfl rfl rfl hl.1 rfl (Nat.le_of_ble_eq_true rfl) dX0_isDigit_10 ⟨Nat.zero_le _, Nat.zero_le _⟩) hP hD hS hA [0, 1, 2] rfl rfl rfl (fun H locs n2 hP hD hS => ?_)
    have hP : va_P G.1 vwCl [(t, .inr (0, [.ref tape, .ref codes, .ref (xK G kk), .int rat, .int flt])), (tape, .inr (1, [.ref tape_q, .int tape_m])), (tape_q, .inl (xI G, 60, .inl tape_f))] H := hP
    have hD : va_D A [(t, .inr (0, [.ref tape, .ref codes, .ref (xK G kk), .int rat, .int flt])), (tape, .inr (1, [.ref tape_q, .int tape_m])), (tape_q, .inl (xI G, 60, .inl tape_f))] := hD
    refine lv_bipush (v := 57) hx hb dX0_isDigit_13 (by decide) ?_
    refine lv_icmp_gt (tgt := 22) hx hb dX0_isDigit_15 (by decide) (fun c15 => ?_) (fun c15 => ?_)
    · have hF := itP c15 hF
      refine lv_iconst (v := 0) hx hb dX0_isDigit_22 (by decide) ?_
      obtain rfl := Option.some.inj hF
      rw [← hQ]
      exact W.zret (v := (0 : Int32)) hx hb hr (show narrow .boolean (.int (0 : Int32)) = .int (0 : Int32) from by decide) (fun t ht hW => ⟨⟨_, (), rfl, ⟨rfl, (show narrow .boolean (.int (0 : Int32)) = .int (0 : Int32) from by decide)⟩, xLf hP ht⟩, hS.F ht⟩) hS.2.2 dX0_isDigit_23
    · have hF := itN c15 hF
      refine lv_iconst (v := 1) hx hb dX0_isDigit_18 (by decide) ?_
      refine lv_goto (tgt := 23) hx hb dX0_isDigit_19 (by decide) ?_
      obtain rfl := Option.some.inj hF
      rw [← hQ]
      exact W.zret (v := (1 : Int32)) hx hb hr (show narrow .boolean (.int (1 : Int32)) = .int (1 : Int32) from by decide) (fun t ht hW => ⟨⟨_, (), rfl, ⟨rfl, (show narrow .boolean (.int (1 : Int32)) = .int (1 : Int32) from by decide)⟩, xLf hP ht⟩, hS.F ht⟩) hS.2.2 dX0_isDigit_23
def B_X0_readNumber_4 (tape_m : Int32) (tape_f : Nat → Int32) (codes_m : Int32) (codes_f : Nat → Int32) (k4 : (Int32 × Int32 × Int32) → Option (Int32 × Int32 × (Nat → Int32))) (v4 : (Int32 × Int32 × Int32)) : Option (Int32 × Int32 × (Nat → Int32)) := if (4 : Int32) ≤ v4.2.1 then (bd (F_X1_add 60 codes_m codes_f v4.1) (fun (u1 : (Int32 × (Nat → Int32))) => some (v4.2.2, u1.1, u1.2))) else (bd (F_X0_isDigit v4.2.2 tape_m tape_f) (fun (u1 : Int32) => if u1 = 0 then (bd (F_X1_add 60 codes_m codes_f v4.1) (fun (u2 : (Int32 × (Nat → Int32))) => some (v4.2.2, u2.1, u2.2))) else (bd (F_X0_next v4.2.2 tape_m tape_f) (fun (u2 : Int32) => k4 (((((10 : Int32) * v4.1) + u2) - (48 : Int32)), (v4.2.1 + (1 : Int32)), (v4.2.2 + (1 : Int32)))))))
def F_X0_readNumber (rat : Int32) (tape_m : Int32) (tape_f : Nat → Int32) (codes_m : Int32) (codes_f : Nat → Int32) : Option (Int32 × Int32 × (Nat → Int32)) := lp (B_X0_readNumber_4 tape_m tape_f codes_m codes_f) fuelC ((0 : Int32), (0 : Int32), rat)
theorem hdX0_readNumber : yX0_readNumber.cls ≠ "java/lang/invoke/MethodHandle" ∧ yX0_readNumber.cls ≠ "java/lang/invoke/VarHandle" ∧ (parseMethodDescriptor yX0_readNumber.desc).map (fun d => d.parameters.length) = some 0 := by decide +kernel
set_option maxHeartbeats 4000000 in
set_option maxRecDepth 100000 in
theorem c_X0_readNumber (G : xG) (t : Nat) (tape : Nat) (codes : Nat) (tape_q : Nat) (codes_q : Nat) (kk : Nat) (rat : Int32) (flt : Int32) (tape_m : Int32) (tape_f : Nat → Int32) (codes_m : Int32) (codes_f : Nat → Int32)  (u : (Int32 × Int32 × (Nat → Int32))) (hF : F_X0_readNumber rat tape_m tape_f codes_m codes_f = some u) : Kv G yX0_readNumber (Cond.code yX0_readNumber cX0_readNumber 3 none :: TBL) { frames := 3, cells := 0, slots := 0, locals := 61 } [.ref t] [(t, .inr (0, [.ref tape, .ref codes, .ref (xK G kk), .int rat, .int flt])), (tape, .inr (1, [.ref tape_q, .int tape_m])), (tape_q, .inl (xI G, 60, .inl tape_f)), (codes, .inr (1, [.ref codes_q, .int codes_m])), (codes_q, .inl (xI G, 60, .inl codes_f))] [(t, .inr (0, [.ref tape, .ref codes, .ref (xK G kk), .int u.1, .int flt])), (tape, .inr (1, [.ref tape_q, .int tape_m])), (tape_q, .inl (xI G, 60, .inl tape_f)), (codes, .inr (1, [.ref codes_q, .int u.2.1])), (codes_q, .inl (xI G, 60, .inl u.2.2))] := by
  intro l sz
  refine Met.ofW (cc := cX0_readNumber) (maxL := 3) (ret := none) (by decide) rfl ?_
  intro p e s m args below meth c s₁ B hml hv
  obtain ⟨rfl, hsz, hP, hD0, hm⟩ := hv
  have hx := B.exec
  have hb := B.bytes
  have hr := B.returns
  have hts := atoms_spec (ws := Cond.code yX0_readNumber cX0_readNumber 3 none :: TBL) B.pre
  have hown : s.vm.findClass RX0 = some m.cls := findClass_of_methodNamed B.named
  have hlocks := B.notSynchronized
  subst hsz
  have hD := hD0.self (sz := s.heap.size)
  generalize hAe : va_A [(t, .inr (0, [.ref tape, .ref codes, .ref (xK G kk), .int rat, .int flt])), (tape, .inr (1, [.ref tape_q, .int tape_m])), (tape_q, .inl (xI G, 60, .inl tape_f)), (codes, .inr (1, [.ref codes_q, .int codes_m])), (codes_q, .inl (xI G, 60, .inl codes_f))] s.heap.size = A at hD hm ⊢
  have hA : ∀ q : Nat, s.heap.size ≤ q → A q := fun q h => by rw [← hAe]; exact Or.inr h
  have hK := hm.1
  have hZ : xAnd p m c cX0_readNumber 3 s _ (Cond.code yX0_readNumber cX0_readNumber 3 none :: TBL) RX0 G A := ⟨⟨hx, hb, hml, hown, hts⟩, tcons, hA, hm⟩
  have hP : va_P G.1 vwCl [(t, .inr (0, [.ref tape, .ref codes, .ref (xK G kk), .int rat, .int flt])), (tape, .inr (1, [.ref tape_q, .int tape_m])), (tape_q, .inl (xI G, 60, .inl tape_f)), (codes, .inr (1, [.ref codes_q, .int codes_m])), (codes_q, .inl (xI G, 60, .inl codes_f))] s.heap := hP
  have hl := lv_entry ([.ref t]) (n := 3) (Nat.le_of_ble_eq_true rfl)
  rw [lg_entry_eq]
  generalize (lg_sl ([.ref t]) ++ List.replicate (3 - (lg_sl ([.ref t])).length) Slot.unset).toArray = ls at hl ⊢
  have hl : lv_has ls 3 [(0, .ref t)] := hl
  generalize hQ : MQ below _ _ s _ _ _ = Q
  refine xGo (A := A) hP (fun H locs hP hS => ?_)
  unfold F_X0_readNumber at hF
  refine lv_iconst (v := 0) hx hb dX0_readNumber_0 (by decide) ?_
  refine lv_istore_n (lv' := [(1, .int (0 : Int32)), (0, .ref t)]) hx hb dX0_readNumber_1 rfl hl (by decide) rfl (fun ls hl => ?_)
  refine lv_iconst (v := 0) hx hb dX0_readNumber_2 (by decide) ?_
  refine lv_istore_n (lv' := [(2, .int (0 : Int32)), (1, .int (0 : Int32)), (0, .ref t)]) hx hb dX0_readNumber_3 rfl hl (by decide) rfl (fun ls hl => ?_)
  refine xLoop3 (body := (B_X0_readNumber_4 tape_m tape_f codes_m codes_f)) (fun (v4_0 : Int32) (v4_1 : Int32) (v4_2 : Int32) H locs ls => va_P G.1 vwCl [(t, .inr (0, [.ref tape, .ref codes, .ref (xK G kk), .int v4_2, .int flt])), (tape, .inr (1, [.ref tape_q, .int tape_m])), (tape_q, .inl (xI G, 60, .inl tape_f)), (codes, .inr (1, [.ref codes_q, .int codes_m])), (codes_q, .inl (xI G, 60, .inl codes_f))] H ∧ va_D A [(t, .inr (0, [.ref tape, .ref codes, .ref (xK G kk), .int v4_2, .int flt])), (tape, .inr (1, [.ref tape_q, .int tape_m])), (tape_q, .inl (xI G, 60, .inl tape_f)), (codes, .inr (1, [.ref codes_q, .int codes_m])), (codes_q, .inl (xI G, 60, .inl codes_f))] ∧ va_S A s.heap H locs ∧ lv_has ls 3 [(0, .ref t), (1, .int v4_0), (2, .int v4_1)]) (fun N4 v4_0 v4_1 v4_2 ih4 H locs ls hI hF => ?_) fuelC (0 : Int32) (0 : Int32) rat H locs ls ⟨hP, hD, hS, lv_sub hl [2, 1, 0] rfl⟩ hF
  obtain ⟨hP, hD, hS, hl⟩ := hI
  unfold B_X0_readNumber_4 at hF
  refine lv_iload_n hx hb dX0_readNumber_4 rfl (lv_at hl 2 rfl) ?_
  refine lv_iconst (v := 4) hx hb dX0_readNumber_5 (by decide) ?_
  refine lv_icmp_ge (tgt := 45) hx hb dX0_readNumber_6 (by decide) (fun c6 => ?_) (fun c6 => ?_)
  · have hF := itP c6 hF
    refine lv_aload_n hx hb dX0_readNumber_45 rfl (lv_at hl 0 rfl) ?_
    refine va_get (ci := 0) (v := .ref codes) (C := RX0) (T := TX0) (N := 5) hx hb hts (fun w h => tcons w (xin0 w h)) hown hK hP 0 rfl rfl 1 (by decide) (hts _ (tcons _ m92)) (fun _ h9 => h9) rfl dX0_readNumber_46 ?_
    refine lv_iload_n hx hb dX0_readNumber_49 rfl (lv_at hl 1 rfl) ?_
    obtain ⟨u1, e1, hF⟩ := bdS hF
    refine xEndV (xRunV (As := [.int v4_0]) (rest := []) hZ (c_X1_add G codes codes_q 60 codes_m codes_f v4_0 u1 e1 l H.size) m518 m178 m179 m49 m180 1 ⟨rfl, hdX1_add⟩ ⟨Nat.le_of_ble_eq_true rfl, Nat.le_of_ble_eq_true rfl⟩ ⟨rfl, rfl⟩ hP hD hS 3 1 rfl rfl rfl [3, 4] rfl rfl rfl hl.1 rfl (Nat.le_of_ble_eq_true rfl) dX0_readNumber_50 ⟨Nat.zero_le _, Nat.zero_le _⟩) hP hD hS hA [3, 4] rfl rfl rfl (fun H locs hP hD hS => ?_)
    have hP : va_P G.1 vwCl [(t, .inr (0, [.ref tape, .ref codes, .ref (xK G kk), .int v4_2, .int flt])), (tape, .inr (1, [.ref tape_q, .int tape_m])), (tape_q, .inl (xI G, 60, .inl tape_f)), (codes, .inr (1, [.ref codes_q, .int u1.1])), (codes_q, .inl (xI G, 60, .inl u1.2))] H := hP
    have hD : va_D A [(t, .inr (0, [.ref tape, .ref codes, .ref (xK G kk), .int v4_2, .int flt])), (tape, .inr (1, [.ref tape_q, .int tape_m])), (tape_q, .inl (xI G, 60, .inl tape_f)), (codes, .inr (1, [.ref codes_q, .int u1.1])), (codes_q, .inl (xI G, 60, .inl u1.2))] := hD
    obtain rfl := Option.some.inj hF
    rw [← hQ]
    exact W.vret hx hb hr (fun t ht hW => ⟨⟨(), rfl, trivial, xLf hP ht⟩, hS.F ht⟩) hS.2.2 dX0_readNumber_53
  · have hF := itN c6 hF
    refine lv_aload_n hx hb dX0_readNumber_9 rfl (lv_at hl 0 rfl) ?_
    obtain ⟨u1, e1, hF⟩ := bdS hF
    refine xEndI (xRunV (As := []) (rest := []) hZ (c_X0_isDigit G t tape codes tape_q kk v4_2 flt tape_m tape_f u1 e1 l H.size) m637 m638 m639 m26 m640 0 ⟨rfl, hdX0_isDigit⟩ ⟨Nat.le_of_ble_eq_true rfl, Nat.le_of_ble_eq_true rfl⟩ ⟨rfl, rfl⟩ hP hD hS 0 0 rfl rfl rfl [0, 1, 2] rfl rfl rfl hl.1 rfl (Nat.le_of_ble_eq_true rfl) dX0_readNumber_10 ⟨Nat.zero_le _, Nat.zero_le _⟩) hP hD hS hA [0, 1, 2] rfl rfl rfl (fun H locs n1 hP hD hS => ?_)
    have hP : va_P G.1 vwCl [(t, .inr (0, [.ref tape, .ref codes, .ref (xK G kk), .int v4_2, .int flt])), (tape, .inr (1, [.ref tape_q, .int tape_m])), (tape_q, .inl (xI G, 60, .inl tape_f)), (codes, .inr (1, [.ref codes_q, .int codes_m])), (codes_q, .inl (xI G, 60, .inl codes_f))] H := hP
    have hD : va_D A [(t, .inr (0, [.ref tape, .ref codes, .ref (xK G kk), .int v4_2, .int flt])), (tape, .inr (1, [.ref tape_q, .int tape_m])), (tape_q, .inl (xI G, 60, .inl tape_f)), (codes, .inr (1, [.ref codes_q, .int codes_m])), (codes_q, .inl (xI G, 60, .inl codes_f))] := hD
    refine lv_if_eq (tgt := 45) hx hb dX0_readNumber_13 (by decide) (fun c13 => ?_) (fun c13 => ?_)
    · have hF := itP c13 hF
      refine lv_aload_n hx hb dX0_readNumber_45 rfl (lv_at hl 0 rfl) ?_
      refine va_get (ci := 0) (v := .ref codes) (C := RX0) (T := TX0) (N := 5) hx hb hts (fun w h => tcons w (xin0 w h)) hown hK hP 0 rfl rfl 1 (by decide) (hts _ (tcons _ m92)) (fun _ h9 => h9) rfl dX0_readNumber_46 ?_
      refine lv_iload_n hx hb dX0_readNumber_49 rfl (lv_at hl 1 rfl) ?_
      obtain ⟨u2, e2, hF⟩ := bdS hF
      refine xEndV (xRunV (As := [.int v4_0]) (rest := []) hZ (c_X1_add G codes codes_q 60 codes_m codes_f v4_0 u2 e2 l H.size) m518 m178 m179 m49 m180 1 ⟨rfl, hdX1_add⟩ ⟨Nat.le_of_ble_eq_true rfl, Nat.le_of_ble_eq_true rfl⟩ ⟨rfl, rfl⟩ hP hD hS 3 1 rfl rfl rfl [3, 4] rfl rfl rfl hl.1 rfl (Nat.le_of_ble_eq_true rfl) dX0_readNumber_50 ⟨Nat.zero_le _, Nat.zero_le _⟩) hP hD hS hA [3, 4] rfl rfl rfl (fun H locs hP hD hS => ?_)
      have hP : va_P G.1 vwCl [(t, .inr (0, [.ref tape, .ref codes, .ref (xK G kk), .int v4_2, .int flt])), (tape, .inr (1, [.ref tape_q, .int tape_m])), (tape_q, .inl (xI G, 60, .inl tape_f)), (codes, .inr (1, [.ref codes_q, .int u2.1])), (codes_q, .inl (xI G, 60, .inl u2.2))] H := hP
      have hD : va_D A [(t, .inr (0, [.ref tape, .ref codes, .ref (xK G kk), .int v4_2, .int flt])), (tape, .inr (1, [.ref tape_q, .int tape_m])), (tape_q, .inl (xI G, 60, .inl tape_f)), (codes, .inr (1, [.ref codes_q, .int u2.1])), (codes_q, .inl (xI G, 60, .inl u2.2))] := hD
      obtain rfl := Option.some.inj hF
      rw [← hQ]
      exact W.vret hx hb hr (fun t ht hW => ⟨⟨(), rfl, trivial, xLf hP ht⟩, hS.F ht⟩) hS.2.2 dX0_readNumber_53
    · have hF := itN c13 hF
      refine lv_bipush (v := 10) hx hb dX0_readNumber_16 (by decide) ?_
      refine lv_iload_n hx hb dX0_readNumber_18 rfl (lv_at hl 1 rfl) ?_
      refine lv_imul hx hb dX0_readNumber_19 ?_
      refine lv_aload_n hx hb dX0_readNumber_20 rfl (lv_at hl 0 rfl) ?_
      obtain ⟨u2, e2, hF⟩ := bdS hF
      refine xEndI (xRunV (As := []) (rest := [.int ((10 : Int32) * v4_0)]) hZ (c_X0_next G t tape codes tape_q kk v4_2 flt tape_m tape_f u2 e2 l H.size) m513 m514 m515 m26 m516 0 ⟨rfl, hdX0_next⟩ ⟨Nat.le_of_ble_eq_true rfl, Nat.le_of_ble_eq_true rfl⟩ ⟨rfl, rfl⟩ hP hD hS 0 0 rfl rfl rfl [0, 1, 2] rfl rfl rfl hl.1 rfl (Nat.le_of_ble_eq_true rfl) dX0_readNumber_21 ⟨Nat.zero_le _, Nat.zero_le _⟩) hP hD hS hA [0, 1, 2] rfl rfl rfl (fun H locs n2 hP hD hS => ?_)
      have hP : va_P G.1 vwCl [(t, .inr (0, [.ref tape, .ref codes, .ref (xK G kk), .int v4_2, .int flt])), (tape, .inr (1, [.ref tape_q, .int tape_m])), (tape_q, .inl (xI G, 60, .inl tape_f)), (codes, .inr (1, [.ref codes_q, .int codes_m])), (codes_q, .inl (xI G, 60, .inl codes_f))] H := hP
      have hD : va_D A [(t, .inr (0, [.ref tape, .ref codes, .ref (xK G kk), .int v4_2, .int flt])), (tape, .inr (1, [.ref tape_q, .int tape_m])), (tape_q, .inl (xI G, 60, .inl tape_f)), (codes, .inr (1, [.ref codes_q, .int codes_m])), (codes_q, .inl (xI G, 60, .inl codes_f))] := hD
      refine lv_iadd hx hb dX0_readNumber_24 ?_
      refine lv_bipush (v := 48) hx hb dX0_readNumber_25 (by decide) ?_
      refine lv_isub hx hb dX0_readNumber_27 ?_
      refine lv_istore_n (lv' := [(1, .int ((((10 : Int32) * v4_0) + u2) - (48 : Int32))), (0, .ref t), (2, .int v4_1)]) hx hb dX0_readNumber_28 rfl hl (by decide) rfl (fun ls hl => ?_)
      refine lv_aload_n hx hb dX0_readNumber_29 rfl (lv_at hl 1 rfl) ?_
      refine lv_dup hx hb dX0_readNumber_30 rfl ?_
      refine va_get (ci := 0) (v := .int v4_2) (C := RX0) (T := TX0) (N := 5) hx hb hts (fun w h => tcons w (xin0 w h)) hown hK hP 0 rfl rfl 3 (by decide) (hts _ (tcons _ m94)) (fun _ h9 => h9) rfl dX0_readNumber_31 ?_
      refine lv_iconst (v := 1) hx hb dX0_readNumber_34 (by decide) ?_
      refine lv_iadd hx hb dX0_readNumber_35 ?_
      refine va_put (ci := 0) (v := .int (v4_2 + (1 : Int32))) (ty := .int) (C := RX0) (T := TX0) (N := 5) hx hb hts (fun w h => tcons w (xin0 w h)) tyX0 tyX0_ok nmX0 hown hK hP hD hS 0 rfl rfl 3 (by decide) (hts _ (tcons _ m94)) (fun _ h9 => h9) rfl (by decide +kernel) rfl rfl (Nat.le_of_ble_eq_true rfl) dX0_readNumber_36 (fun H locs hP hD hS => ?_)
      have hP : va_P G.1 vwCl [(t, .inr (0, [.ref tape, .ref codes, .ref (xK G kk), .int (v4_2 + (1 : Int32)), .int flt])), (tape, .inr (1, [.ref tape_q, .int tape_m])), (tape_q, .inl (xI G, 60, .inl tape_f)), (codes, .inr (1, [.ref codes_q, .int codes_m])), (codes_q, .inl (xI G, 60, .inl codes_f))] H := hP
      have hD : va_D A [(t, .inr (0, [.ref tape, .ref codes, .ref (xK G kk), .int (v4_2 + (1 : Int32)), .int flt])), (tape, .inr (1, [.ref tape_q, .int tape_m])), (tape_q, .inl (xI G, 60, .inl tape_f)), (codes, .inr (1, [.ref codes_q, .int codes_m])), (codes_q, .inl (xI G, 60, .inl codes_f))] := hD
      refine lv_iinc (v := (v4_1 + (1 : Int32))) (lv' := [(2, .int (v4_1 + (1 : Int32))), (1, .int ((((10 : Int32) * v4_0) + u2) - (48 : Int32))), (0, .ref t)]) hx hb dX0_readNumber_39 hl (k := 2) rfl (xInc_1 _) (by decide) rfl (fun ls hl => ?_)
      refine lv_goto (tgt := 4) hx hb dX0_readNumber_42 (by decide) ?_
      exact ih4 ((((10 : Int32) * v4_0) + u2) - (48 : Int32)) (v4_1 + (1 : Int32)) (v4_2 + (1 : Int32)) H locs ls ⟨hP, hD, hS, lv_sub hl [2, 1, 0] rfl⟩ hF
def B_X0_readProduct_14 (kk : Nat) (tape_m : Int32) (tape_f : Nat → Int32) (op : Int32) (R_rf : Nat → Int32 → Int32 → Int32 → (Nat → Int32) → Int32 → (Nat → Int32) → Int32 → Option (Int32 × Int32 × Int32 × (Nat → Int32))) (k14 : (Int32 × Int32 × Int32 × Int32 × Int32 × (Nat → Int32)) → Option (Int32 × Int32 × Int32 × (Nat → Int32))) (v14 : (Int32 × Int32 × Int32 × Int32 × Int32 × (Nat → Int32))) : Option (Int32 × Int32 × Int32 × (Nat → Int32)) := if (60 : Int32) ≤ v14.2.1 then (some (v14.2.2.1, v14.2.2.2.1, v14.2.2.2.2.1, v14.2.2.2.2.2)) else (if v14.1 = 0 then (some (v14.2.2.1, v14.2.2.2.1, v14.2.2.2.2.1, v14.2.2.2.2.2)) else (bd (R_rf kk v14.2.2.1 v14.2.2.2.1 tape_m tape_f v14.2.2.2.2.1 v14.2.2.2.2.2 op) (fun (u3 : (Int32 × Int32 × Int32 × (Nat → Int32))) => bd (F_X1_add 60 u3.2.2.1 u3.2.2.2 (-v14.1)) (fun (u4 : (Int32 × (Nat → Int32))) => bd (F_X0_takesOneOf u3.1 u3.2.1 tape_m tape_f 4) (fun (u5 : (Int32 × Int32)) => k14 (u5.1, (v14.2.1 + (1 : Int32)), u5.2, u3.2.1, u4.1, u4.2))))))
def F_X0_readProduct (R_rf : Nat → Int32 → Int32 → Int32 → (Nat → Int32) → Int32 → (Nat → Int32) → Int32 → Option (Int32 × Int32 × Int32 × (Nat → Int32))) (kk : Nat) (rat : Int32) (flt : Int32) (tape_m : Int32) (tape_f : Nat → Int32) (codes_m : Int32) (codes_f : Nat → Int32) (op : Int32) : Option (Int32 × Int32 × Int32 × (Nat → Int32)) := bd (R_rf kk rat flt tape_m tape_f codes_m codes_f op) (fun (u1 : (Int32 × Int32 × Int32 × (Nat → Int32))) => bd (F_X0_takesOneOf u1.1 u1.2.1 tape_m tape_f 4) (fun (u2 : (Int32 × Int32)) => lp (B_X0_readProduct_14 kk tape_m tape_f op R_rf) fuelC (u2.1, (0 : Int32), u2.2, u1.2.1, u1.2.2.1, u1.2.2.2)))
theorem hdX0_readProduct : yX0_readProduct.cls ≠ "java/lang/invoke/MethodHandle" ∧ yX0_readProduct.cls ≠ "java/lang/invoke/VarHandle" ∧ (parseMethodDescriptor yX0_readProduct.desc).map (fun d => d.parameters.length) = some 1 := by decide +kernel
theorem hdX0_readFactor : yX0_readFactor.cls ≠ "java/lang/invoke/MethodHandle" ∧ yX0_readFactor.cls ≠ "java/lang/invoke/VarHandle" ∧ (parseMethodDescriptor yX0_readFactor.desc).map (fun d => d.parameters.length) = some 1 := by decide +kernel
set_option maxHeartbeats 4000000 in
set_option maxRecDepth 100000 in
theorem c_X0_readProduct (G : xG) (fd ld : Nat) (R_rf : Nat → Int32 → Int32 → Int32 → (Nat → Int32) → Int32 → (Nat → Int32) → Int32 → Option (Int32 × Int32 × Int32 × (Nat → Int32))) (h_rf : ∀ (t : Nat) (tape : Nat) (codes : Nat) (tape_q : Nat) (codes_q : Nat) (kk : Nat) (rat : Int32) (flt : Int32) (tape_m : Int32) (tape_f : Nat → Int32) (codes_m : Int32) (codes_f : Nat → Int32) (op : Int32) (hkk : kk < 6) (u : (Int32 × Int32 × Int32 × (Nat → Int32))) (hF : R_rf kk rat flt tape_m tape_f codes_m codes_f op = some u), Kv G yX0_readFactor (Cond.code yX0_readFactor cX0_readFactor 3 none :: TBL) { frames := fd, cells := 0, slots := 0, locals := ld } [.ref t, .int op] [(t, .inr (0, [.ref tape, .ref codes, .ref (xK G kk), .int rat, .int flt])), (tape, .inr (1, [.ref tape_q, .int tape_m])), (tape_q, .inl (xI G, 60, .inl tape_f)), (codes, .inr (1, [.ref codes_q, .int codes_m])), (codes_q, .inl (xI G, 60, .inl codes_f))] [(t, .inr (0, [.ref tape, .ref codes, .ref (xK G kk), .int u.1, .int u.2.1])), (tape, .inr (1, [.ref tape_q, .int tape_m])), (tape_q, .inl (xI G, 60, .inl tape_f)), (codes, .inr (1, [.ref codes_q, .int u.2.2.1])), (codes_q, .inl (xI G, 60, .inl u.2.2.2))]) (t : Nat) (tape : Nat) (codes : Nat) (tape_q : Nat) (codes_q : Nat) (kk : Nat) (rat : Int32) (flt : Int32) (tape_m : Int32) (tape_f : Nat → Int32) (codes_m : Int32) (codes_f : Nat → Int32) (op : Int32) (hkk : kk < 6) (u : (Int32 × Int32 × Int32 × (Nat → Int32))) (hF : F_X0_readProduct R_rf kk rat flt tape_m tape_f codes_m codes_f op = some u) : Kv G yX0_readProduct (Cond.code yX0_readProduct cX0_readProduct 4 none :: TBL) { frames := fd + 5, cells := 0, slots := 0, locals := ld + 107 } [.ref t, .int op] [(t, .inr (0, [.ref tape, .ref codes, .ref (xK G kk), .int rat, .int flt])), (tape, .inr (1, [.ref tape_q, .int tape_m])), (tape_q, .inl (xI G, 60, .inl tape_f)), (codes, .inr (1, [.ref codes_q, .int codes_m])), (codes_q, .inl (xI G, 60, .inl codes_f))] [(t, .inr (0, [.ref tape, .ref codes, .ref (xK G kk), .int u.1, .int u.2.1])), (tape, .inr (1, [.ref tape_q, .int tape_m])), (tape_q, .inl (xI G, 60, .inl tape_f)), (codes, .inr (1, [.ref codes_q, .int u.2.2.1])), (codes_q, .inl (xI G, 60, .inl u.2.2.2))] := by
  intro l sz
  refine Met.ofW (cc := cX0_readProduct) (maxL := 4) (ret := none) (by decide) rfl ?_
  intro p e s m args below meth c s₁ B hml hv
  obtain ⟨rfl, hsz, hP, hD0, hm⟩ := hv
  have hx := B.exec
  have hb := B.bytes
  have hr := B.returns
  have hts := atoms_spec (ws := Cond.code yX0_readProduct cX0_readProduct 4 none :: TBL) B.pre
  have hown : s.vm.findClass RX0 = some m.cls := findClass_of_methodNamed B.named
  have hlocks := B.notSynchronized
  subst hsz
  have hD := hD0.self (sz := s.heap.size)
  generalize hAe : va_A [(t, .inr (0, [.ref tape, .ref codes, .ref (xK G kk), .int rat, .int flt])), (tape, .inr (1, [.ref tape_q, .int tape_m])), (tape_q, .inl (xI G, 60, .inl tape_f)), (codes, .inr (1, [.ref codes_q, .int codes_m])), (codes_q, .inl (xI G, 60, .inl codes_f))] s.heap.size = A at hD hm ⊢
  have hA : ∀ q : Nat, s.heap.size ≤ q → A q := fun q h => by rw [← hAe]; exact Or.inr h
  have hK := hm.1
  have hZ : xAnd p m c cX0_readProduct 4 s _ (Cond.code yX0_readProduct cX0_readProduct 4 none :: TBL) RX0 G A := ⟨⟨hx, hb, hml, hown, hts⟩, tcons, hA, hm⟩
  have hP : va_P G.1 vwCl [(t, .inr (0, [.ref tape, .ref codes, .ref (xK G kk), .int rat, .int flt])), (tape, .inr (1, [.ref tape_q, .int tape_m])), (tape_q, .inl (xI G, 60, .inl tape_f)), (codes, .inr (1, [.ref codes_q, .int codes_m])), (codes_q, .inl (xI G, 60, .inl codes_f))] s.heap := hP
  have hl := lv_entry ([.ref t, .int op]) (n := 4) (Nat.le_of_ble_eq_true rfl)
  rw [lg_entry_eq]
  generalize (lg_sl ([.ref t, .int op]) ++ List.replicate (4 - (lg_sl ([.ref t, .int op])).length) Slot.unset).toArray = ls at hl ⊢
  have hl : lv_has ls 4 [(0, .ref t), (1, .int op)] := hl
  generalize hQ : MQ below _ _ s _ _ _ = Q
  refine xGo (A := A) hP (fun H locs hP hS => ?_)
  unfold F_X0_readProduct at hF
  refine lv_aload_n hx hb dX0_readProduct_0 rfl (lv_at hl 0 rfl) ?_
  refine lv_iload_n hx hb dX0_readProduct_1 rfl (lv_at hl 1 rfl) ?_
  obtain ⟨u1, e1, hF⟩ := bdS hF
  refine xEndV (xRunV (As := [.int op]) (rest := []) hZ (h_rf t tape codes tape_q codes_q kk rat flt tape_m tape_f codes_m codes_f op hkk u1 e1 l H.size) m645 m646 m647 m26 m580 1 ⟨rfl, hdX0_readFactor⟩ ⟨by show fd + 0 + 1 ≤ fd + 5; omega, by show 8 + (3 + 11) + (ld + 0) ≤ ld + 107; omega⟩ ⟨rfl, rfl⟩ hP hD hS 0 0 rfl rfl rfl [0, 1, 2, 3, 4] rfl rfl rfl hl.1 rfl (Nat.le_of_ble_eq_true rfl) dX0_readProduct_2 ⟨Nat.zero_le _, Nat.zero_le _⟩) hP hD hS hA [0, 1, 2, 3, 4] rfl rfl rfl (fun H locs hP hD hS => ?_)
  have hP : va_P G.1 vwCl [(t, .inr (0, [.ref tape, .ref codes, .ref (xK G kk), .int u1.1, .int u1.2.1])), (tape, .inr (1, [.ref tape_q, .int tape_m])), (tape_q, .inl (xI G, 60, .inl tape_f)), (codes, .inr (1, [.ref codes_q, .int u1.2.2.1])), (codes_q, .inl (xI G, 60, .inl u1.2.2.2))] H := hP
  have hD : va_D A [(t, .inr (0, [.ref tape, .ref codes, .ref (xK G kk), .int u1.1, .int u1.2.1])), (tape, .inr (1, [.ref tape_q, .int tape_m])), (tape_q, .inl (xI G, 60, .inl tape_f)), (codes, .inr (1, [.ref codes_q, .int u1.2.2.1])), (codes_q, .inl (xI G, 60, .inl u1.2.2.2))] := hD
  refine lv_aload_n hx hb dX0_readProduct_5 rfl (lv_at hl 0 rfl) ?_
  refine va_ldcS hx hb hown hm.2.2.1.2.2.2.2.1 dX0_readProduct_6 ?_
  obtain ⟨u2, e2, hF⟩ := bdS hF
  refine xEndI (xRunV (As := [.ref (xK G 4)]) (rest := []) hZ (c_X0_takesOneOf G t tape codes tape_q kk u1.1 u1.2.1 tape_m tape_f 4 (by decide) u2 e2 l H.size) m527 m528 m529 m26 m530 1 ⟨rfl, hdX0_takesOneOf⟩ ⟨by show 4 + 1 ≤ fd + 5; omega, by show 8 + (3 + 11) + (85) ≤ ld + 107; omega⟩ ⟨rfl, rfl⟩ hP hD hS 0 0 rfl rfl rfl [0, 1, 2] rfl rfl rfl hl.1 rfl (Nat.le_of_ble_eq_true rfl) dX0_readProduct_8 ⟨Nat.zero_le _, Nat.zero_le _⟩) hP hD hS hA [0, 1, 2] rfl rfl rfl (fun H locs n2 hP hD hS => ?_)
  have hP : va_P G.1 vwCl [(t, .inr (0, [.ref tape, .ref codes, .ref (xK G kk), .int u2.2, .int u1.2.1])), (tape, .inr (1, [.ref tape_q, .int tape_m])), (tape_q, .inl (xI G, 60, .inl tape_f)), (codes, .inr (1, [.ref codes_q, .int u1.2.2.1])), (codes_q, .inl (xI G, 60, .inl u1.2.2.2))] H := hP
  have hD : va_D A [(t, .inr (0, [.ref tape, .ref codes, .ref (xK G kk), .int u2.2, .int u1.2.1])), (tape, .inr (1, [.ref tape_q, .int tape_m])), (tape_q, .inl (xI G, 60, .inl tape_f)), (codes, .inr (1, [.ref codes_q, .int u1.2.2.1])), (codes_q, .inl (xI G, 60, .inl u1.2.2.2))] := hD
  refine lv_istore_n (lv' := [(2, .int u2.1), (0, .ref t), (1, .int op)]) hx hb dX0_readProduct_11 rfl hl (by decide) rfl (fun ls hl => ?_)
  refine lv_iconst (v := 0) hx hb dX0_readProduct_12 (by decide) ?_
  refine lv_istore_n (lv' := [(3, .int (0 : Int32)), (2, .int u2.1), (0, .ref t), (1, .int op)]) hx hb dX0_readProduct_13 rfl hl (by decide) rfl (fun ls hl => ?_)
  refine xLoop6 (body := (B_X0_readProduct_14 kk tape_m tape_f op R_rf)) (fun (v14_0 : Int32) (v14_1 : Int32) (v14_2 : Int32) (v14_3 : Int32) (v14_4 : Int32) (v14_5 : Nat → Int32) H locs ls => va_P G.1 vwCl [(t, .inr (0, [.ref tape, .ref codes, .ref (xK G kk), .int v14_2, .int v14_3])), (tape, .inr (1, [.ref tape_q, .int tape_m])), (tape_q, .inl (xI G, 60, .inl tape_f)), (codes, .inr (1, [.ref codes_q, .int v14_4])), (codes_q, .inl (xI G, 60, .inl v14_5))] H ∧ va_D A [(t, .inr (0, [.ref tape, .ref codes, .ref (xK G kk), .int v14_2, .int v14_3])), (tape, .inr (1, [.ref tape_q, .int tape_m])), (tape_q, .inl (xI G, 60, .inl tape_f)), (codes, .inr (1, [.ref codes_q, .int v14_4])), (codes_q, .inl (xI G, 60, .inl v14_5))] ∧ va_S A s.heap H locs ∧ lv_has ls 4 [(0, .ref t), (1, .int op), (2, .int v14_0), (3, .int v14_1)]) (fun N14 v14_0 v14_1 v14_2 v14_3 v14_4 v14_5 ih14 H locs ls hI hF => ?_) fuelC u2.1 (0 : Int32) u2.2 u1.2.1 u1.2.2.1 u1.2.2.2 H locs ls ⟨hP, hD, hS, lv_sub hl [2, 3, 1, 0] rfl⟩ hF
  obtain ⟨hP, hD, hS, hl⟩ := hI
  unfold B_X0_readProduct_14 at hF
  refine lv_iload_n hx hb dX0_readProduct_14 rfl (lv_at hl 3 rfl) ?_
  refine lv_bipush (v := 60) hx hb dX0_readProduct_15 (by decide) ?_
  refine lv_icmp_ge (tgt := 51) hx hb dX0_readProduct_17 (by decide) (fun c17 => ?_) (fun c17 => ?_)
  · have hF := itP c17 hF
    obtain rfl := Option.some.inj hF
    rw [← hQ]
    exact W.vret hx hb hr (fun t ht hW => ⟨⟨(), rfl, trivial, xLf hP ht⟩, hS.F ht⟩) hS.2.2 dX0_readProduct_51
  · have hF := itN c17 hF
    refine lv_iload_n hx hb dX0_readProduct_20 rfl (lv_at hl 2 rfl) ?_
    refine lv_if_eq (tgt := 51) hx hb dX0_readProduct_21 (by decide) (fun c21 => ?_) (fun c21 => ?_)
    · have hF := itP c21 hF
      obtain rfl := Option.some.inj hF
      rw [← hQ]
      exact W.vret hx hb hr (fun t ht hW => ⟨⟨(), rfl, trivial, xLf hP ht⟩, hS.F ht⟩) hS.2.2 dX0_readProduct_51
    · have hF := itN c21 hF
      refine lv_aload_n hx hb dX0_readProduct_24 rfl (lv_at hl 0 rfl) ?_
      refine lv_iload_n hx hb dX0_readProduct_25 rfl (lv_at hl 1 rfl) ?_
      obtain ⟨u3, e3, hF⟩ := bdS hF
      refine xEndV (xRunV (As := [.int op]) (rest := []) hZ (h_rf t tape codes tape_q codes_q kk v14_2 v14_3 tape_m tape_f v14_4 v14_5 op hkk u3 e3 l H.size) m645 m646 m647 m26 m580 1 ⟨rfl, hdX0_readFactor⟩ ⟨by show fd + 0 + 1 ≤ fd + 5; omega, by show 8 + (3 + 11) + (ld + 0) ≤ ld + 107; omega⟩ ⟨rfl, rfl⟩ hP hD hS 0 0 rfl rfl rfl [0, 1, 2, 3, 4] rfl rfl rfl hl.1 rfl (Nat.le_of_ble_eq_true rfl) dX0_readProduct_26 ⟨Nat.zero_le _, Nat.zero_le _⟩) hP hD hS hA [0, 1, 2, 3, 4] rfl rfl rfl (fun H locs hP hD hS => ?_)
      have hP : va_P G.1 vwCl [(t, .inr (0, [.ref tape, .ref codes, .ref (xK G kk), .int u3.1, .int u3.2.1])), (tape, .inr (1, [.ref tape_q, .int tape_m])), (tape_q, .inl (xI G, 60, .inl tape_f)), (codes, .inr (1, [.ref codes_q, .int u3.2.2.1])), (codes_q, .inl (xI G, 60, .inl u3.2.2.2))] H := hP
      have hD : va_D A [(t, .inr (0, [.ref tape, .ref codes, .ref (xK G kk), .int u3.1, .int u3.2.1])), (tape, .inr (1, [.ref tape_q, .int tape_m])), (tape_q, .inl (xI G, 60, .inl tape_f)), (codes, .inr (1, [.ref codes_q, .int u3.2.2.1])), (codes_q, .inl (xI G, 60, .inl u3.2.2.2))] := hD
      refine lv_aload_n hx hb dX0_readProduct_29 rfl (lv_at hl 0 rfl) ?_
      refine va_get (ci := 0) (v := .ref codes) (C := RX0) (T := TX0) (N := 5) hx hb hts (fun w h => tcons w (xin0 w h)) hown hK hP 0 rfl rfl 1 (by decide) (hts _ (tcons _ m92)) (fun _ h9 => h9) rfl dX0_readProduct_30 ?_
      refine lv_iload_n hx hb dX0_readProduct_33 rfl (lv_at hl 2 rfl) ?_
      refine lv_ineg hx hb dX0_readProduct_34 ?_
      obtain ⟨u4, e4, hF⟩ := bdS hF
      refine xEndV (xRunV (As := [.int (-v14_0)]) (rest := []) hZ (c_X1_add G codes codes_q 60 u3.2.2.1 u3.2.2.2 (-v14_0) u4 e4 l H.size) m518 m178 m179 m49 m180 1 ⟨rfl, hdX1_add⟩ ⟨by show 0 + 1 ≤ fd + 5; omega, by show 8 + (2 + 11) + (0) ≤ ld + 107; omega⟩ ⟨rfl, rfl⟩ hP hD hS 3 1 rfl rfl rfl [3, 4] rfl rfl rfl hl.1 rfl (Nat.le_of_ble_eq_true rfl) dX0_readProduct_35 ⟨Nat.zero_le _, Nat.zero_le _⟩) hP hD hS hA [3, 4] rfl rfl rfl (fun H locs hP hD hS => ?_)
      have hP : va_P G.1 vwCl [(t, .inr (0, [.ref tape, .ref codes, .ref (xK G kk), .int u3.1, .int u3.2.1])), (tape, .inr (1, [.ref tape_q, .int tape_m])), (tape_q, .inl (xI G, 60, .inl tape_f)), (codes, .inr (1, [.ref codes_q, .int u4.1])), (codes_q, .inl (xI G, 60, .inl u4.2))] H := hP
      have hD : va_D A [(t, .inr (0, [.ref tape, .ref codes, .ref (xK G kk), .int u3.1, .int u3.2.1])), (tape, .inr (1, [.ref tape_q, .int tape_m])), (tape_q, .inl (xI G, 60, .inl tape_f)), (codes, .inr (1, [.ref codes_q, .int u4.1])), (codes_q, .inl (xI G, 60, .inl u4.2))] := hD
      refine lv_aload_n hx hb dX0_readProduct_38 rfl (lv_at hl 0 rfl) ?_
      refine va_ldcS hx hb hown hm.2.2.1.2.2.2.2.1 dX0_readProduct_39 ?_
      obtain ⟨u5, e5, hF⟩ := bdS hF
      refine xEndI (xRunV (As := [.ref (xK G 4)]) (rest := []) hZ (c_X0_takesOneOf G t tape codes tape_q kk u3.1 u3.2.1 tape_m tape_f 4 (by decide) u5 e5 l H.size) m527 m528 m529 m26 m530 1 ⟨rfl, hdX0_takesOneOf⟩ ⟨by show 4 + 1 ≤ fd + 5; omega, by show 8 + (3 + 11) + (85) ≤ ld + 107; omega⟩ ⟨rfl, rfl⟩ hP hD hS 0 0 rfl rfl rfl [0, 1, 2] rfl rfl rfl hl.1 rfl (Nat.le_of_ble_eq_true rfl) dX0_readProduct_41 ⟨Nat.zero_le _, Nat.zero_le _⟩) hP hD hS hA [0, 1, 2] rfl rfl rfl (fun H locs n5 hP hD hS => ?_)
      have hP : va_P G.1 vwCl [(t, .inr (0, [.ref tape, .ref codes, .ref (xK G kk), .int u5.2, .int u3.2.1])), (tape, .inr (1, [.ref tape_q, .int tape_m])), (tape_q, .inl (xI G, 60, .inl tape_f)), (codes, .inr (1, [.ref codes_q, .int u4.1])), (codes_q, .inl (xI G, 60, .inl u4.2))] H := hP
      have hD : va_D A [(t, .inr (0, [.ref tape, .ref codes, .ref (xK G kk), .int u5.2, .int u3.2.1])), (tape, .inr (1, [.ref tape_q, .int tape_m])), (tape_q, .inl (xI G, 60, .inl tape_f)), (codes, .inr (1, [.ref codes_q, .int u4.1])), (codes_q, .inl (xI G, 60, .inl u4.2))] := hD
      refine lv_istore_n (lv' := [(2, .int u5.1), (0, .ref t), (1, .int op), (3, .int v14_1)]) hx hb dX0_readProduct_44 rfl hl (by decide) rfl (fun ls hl => ?_)
      refine lv_iinc (v := (v14_1 + (1 : Int32))) (lv' := [(3, .int (v14_1 + (1 : Int32))), (2, .int u5.1), (0, .ref t), (1, .int op)]) hx hb dX0_readProduct_45 hl (k := 3) rfl (xInc_1 _) (by decide) rfl (fun ls hl => ?_)
      refine lv_goto (tgt := 14) hx hb dX0_readProduct_48 (by decide) ?_
      exact ih14 u5.1 (v14_1 + (1 : Int32)) u5.2 u3.2.1 u4.1 u4.2 H locs ls ⟨hP, hD, hS, lv_sub hl [2, 3, 1, 0] rfl⟩ hF
def B_X0_readSum_14 (kk : Nat) (tape_m : Int32) (tape_f : Nat → Int32) (op : Int32) (R_rf : Nat → Int32 → Int32 → Int32 → (Nat → Int32) → Int32 → (Nat → Int32) → Int32 → Option (Int32 × Int32 × Int32 × (Nat → Int32))) (k14 : (Int32 × Int32 × Int32 × Int32 × Int32 × (Nat → Int32)) → Option (Int32 × Int32 × Int32 × (Nat → Int32))) (v14 : (Int32 × Int32 × Int32 × Int32 × Int32 × (Nat → Int32))) : Option (Int32 × Int32 × Int32 × (Nat → Int32)) := if (60 : Int32) ≤ v14.2.1 then (some (v14.2.2.1, v14.2.2.2.1, v14.2.2.2.2.1, v14.2.2.2.2.2)) else (if v14.1 = 0 then (some (v14.2.2.1, v14.2.2.2.1, v14.2.2.2.2.1, v14.2.2.2.2.2)) else (bd (F_X0_readProduct R_rf kk v14.2.2.1 v14.2.2.2.1 tape_m tape_f v14.2.2.2.2.1 v14.2.2.2.2.2 op) (fun (u3 : (Int32 × Int32 × Int32 × (Nat → Int32))) => bd (F_X1_add 60 u3.2.2.1 u3.2.2.2 (-v14.1)) (fun (u4 : (Int32 × (Nat → Int32))) => bd (F_X0_takesOneOf u3.1 u3.2.1 tape_m tape_f 3) (fun (u5 : (Int32 × Int32)) => k14 (u5.1, (v14.2.1 + (1 : Int32)), u5.2, u3.2.1, u4.1, u4.2))))))
def F_X0_readSum (R_rf : Nat → Int32 → Int32 → Int32 → (Nat → Int32) → Int32 → (Nat → Int32) → Int32 → Option (Int32 × Int32 × Int32 × (Nat → Int32))) (kk : Nat) (rat : Int32) (flt : Int32) (tape_m : Int32) (tape_f : Nat → Int32) (codes_m : Int32) (codes_f : Nat → Int32) (op : Int32) : Option (Int32 × Int32 × Int32 × (Nat → Int32)) := bd (F_X0_readProduct R_rf kk rat flt tape_m tape_f codes_m codes_f op) (fun (u1 : (Int32 × Int32 × Int32 × (Nat → Int32))) => bd (F_X0_takesOneOf u1.1 u1.2.1 tape_m tape_f 3) (fun (u2 : (Int32 × Int32)) => lp (B_X0_readSum_14 kk tape_m tape_f op R_rf) fuelC (u2.1, (0 : Int32), u2.2, u1.2.1, u1.2.2.1, u1.2.2.2)))
theorem hdX0_readSum : yX0_readSum.cls ≠ "java/lang/invoke/MethodHandle" ∧ yX0_readSum.cls ≠ "java/lang/invoke/VarHandle" ∧ (parseMethodDescriptor yX0_readSum.desc).map (fun d => d.parameters.length) = some 1 := by decide +kernel
set_option maxHeartbeats 4000000 in
set_option maxRecDepth 100000 in
theorem c_X0_readSum (G : xG) (fd ld : Nat) (R_rf : Nat → Int32 → Int32 → Int32 → (Nat → Int32) → Int32 → (Nat → Int32) → Int32 → Option (Int32 × Int32 × Int32 × (Nat → Int32))) (h_rf : ∀ (t : Nat) (tape : Nat) (codes : Nat) (tape_q : Nat) (codes_q : Nat) (kk : Nat) (rat : Int32) (flt : Int32) (tape_m : Int32) (tape_f : Nat → Int32) (codes_m : Int32) (codes_f : Nat → Int32) (op : Int32) (hkk : kk < 6) (u : (Int32 × Int32 × Int32 × (Nat → Int32))) (hF : R_rf kk rat flt tape_m tape_f codes_m codes_f op = some u), Kv G yX0_readFactor (Cond.code yX0_readFactor cX0_readFactor 3 none :: TBL) { frames := fd, cells := 0, slots := 0, locals := ld } [.ref t, .int op] [(t, .inr (0, [.ref tape, .ref codes, .ref (xK G kk), .int rat, .int flt])), (tape, .inr (1, [.ref tape_q, .int tape_m])), (tape_q, .inl (xI G, 60, .inl tape_f)), (codes, .inr (1, [.ref codes_q, .int codes_m])), (codes_q, .inl (xI G, 60, .inl codes_f))] [(t, .inr (0, [.ref tape, .ref codes, .ref (xK G kk), .int u.1, .int u.2.1])), (tape, .inr (1, [.ref tape_q, .int tape_m])), (tape_q, .inl (xI G, 60, .inl tape_f)), (codes, .inr (1, [.ref codes_q, .int u.2.2.1])), (codes_q, .inl (xI G, 60, .inl u.2.2.2))]) (t : Nat) (tape : Nat) (codes : Nat) (tape_q : Nat) (codes_q : Nat) (kk : Nat) (rat : Int32) (flt : Int32) (tape_m : Int32) (tape_f : Nat → Int32) (codes_m : Int32) (codes_f : Nat → Int32) (op : Int32) (hkk : kk < 6) (u : (Int32 × Int32 × Int32 × (Nat → Int32))) (hF : F_X0_readSum R_rf kk rat flt tape_m tape_f codes_m codes_f op = some u) : Kv G yX0_readSum (Cond.code yX0_readSum cX0_readSum 4 none :: TBL) { frames := fd + 6, cells := 0, slots := 0, locals := ld + 130 } [.ref t, .int op] [(t, .inr (0, [.ref tape, .ref codes, .ref (xK G kk), .int rat, .int flt])), (tape, .inr (1, [.ref tape_q, .int tape_m])), (tape_q, .inl (xI G, 60, .inl tape_f)), (codes, .inr (1, [.ref codes_q, .int codes_m])), (codes_q, .inl (xI G, 60, .inl codes_f))] [(t, .inr (0, [.ref tape, .ref codes, .ref (xK G kk), .int u.1, .int u.2.1])), (tape, .inr (1, [.ref tape_q, .int tape_m])), (tape_q, .inl (xI G, 60, .inl tape_f)), (codes, .inr (1, [.ref codes_q, .int u.2.2.1])), (codes_q, .inl (xI G, 60, .inl u.2.2.2))] := by
  intro l sz
  refine Met.ofW (cc := cX0_readSum) (maxL := 4) (ret := none) (by decide) rfl ?_
  intro p e s m args below meth c s₁ B hml hv
  obtain ⟨rfl, hsz, hP, hD0, hm⟩ := hv
  have hx := B.exec
  have hb := B.bytes
  have hr := B.returns
  have hts := atoms_spec (ws := Cond.code yX0_readSum cX0_readSum 4 none :: TBL) B.pre
  have hown : s.vm.findClass RX0 = some m.cls := findClass_of_methodNamed B.named
  have hlocks := B.notSynchronized
  subst hsz
  have hD := hD0.self (sz := s.heap.size)
  generalize hAe : va_A [(t, .inr (0, [.ref tape, .ref codes, .ref (xK G kk), .int rat, .int flt])), (tape, .inr (1, [.ref tape_q, .int tape_m])), (tape_q, .inl (xI G, 60, .inl tape_f)), (codes, .inr (1, [.ref codes_q, .int codes_m])), (codes_q, .inl (xI G, 60, .inl codes_f))] s.heap.size = A at hD hm ⊢
  have hA : ∀ q : Nat, s.heap.size ≤ q → A q := fun q h => by rw [← hAe]; exact Or.inr h
  have hK := hm.1
  have hZ : xAnd p m c cX0_readSum 4 s _ (Cond.code yX0_readSum cX0_readSum 4 none :: TBL) RX0 G A := ⟨⟨hx, hb, hml, hown, hts⟩, tcons, hA, hm⟩
  have hP : va_P G.1 vwCl [(t, .inr (0, [.ref tape, .ref codes, .ref (xK G kk), .int rat, .int flt])), (tape, .inr (1, [.ref tape_q, .int tape_m])), (tape_q, .inl (xI G, 60, .inl tape_f)), (codes, .inr (1, [.ref codes_q, .int codes_m])), (codes_q, .inl (xI G, 60, .inl codes_f))] s.heap := hP
  have hl := lv_entry ([.ref t, .int op]) (n := 4) (Nat.le_of_ble_eq_true rfl)
  rw [lg_entry_eq]
  generalize (lg_sl ([.ref t, .int op]) ++ List.replicate (4 - (lg_sl ([.ref t, .int op])).length) Slot.unset).toArray = ls at hl ⊢
  have hl : lv_has ls 4 [(0, .ref t), (1, .int op)] := hl
  generalize hQ : MQ below _ _ s _ _ _ = Q
  refine xGo (A := A) hP (fun H locs hP hS => ?_)
  unfold F_X0_readSum at hF
  refine lv_aload_n hx hb dX0_readSum_0 rfl (lv_at hl 0 rfl) ?_
  refine lv_iload_n hx hb dX0_readSum_1 rfl (lv_at hl 1 rfl) ?_
  obtain ⟨u1, e1, hF⟩ := bdS hF
  refine xEndV (xRunV (As := [.int op]) (rest := []) hZ (c_X0_readProduct G fd ld R_rf h_rf t tape codes tape_q codes_q kk rat flt tape_m tape_f codes_m codes_f op hkk u1 e1 l H.size) m650 m651 m652 m26 m648 1 ⟨rfl, hdX0_readProduct⟩ ⟨by show fd + 5 + 1 ≤ fd + 6; omega, by show 8 + (4 + 11) + (ld + 107) ≤ ld + 130; omega⟩ ⟨rfl, rfl⟩ hP hD hS 0 0 rfl rfl rfl [0, 1, 2, 3, 4] rfl rfl rfl hl.1 rfl (Nat.le_of_ble_eq_true rfl) dX0_readSum_2 ⟨Nat.zero_le _, Nat.zero_le _⟩) hP hD hS hA [0, 1, 2, 3, 4] rfl rfl rfl (fun H locs hP hD hS => ?_)
  have hP : va_P G.1 vwCl [(t, .inr (0, [.ref tape, .ref codes, .ref (xK G kk), .int u1.1, .int u1.2.1])), (tape, .inr (1, [.ref tape_q, .int tape_m])), (tape_q, .inl (xI G, 60, .inl tape_f)), (codes, .inr (1, [.ref codes_q, .int u1.2.2.1])), (codes_q, .inl (xI G, 60, .inl u1.2.2.2))] H := hP
  have hD : va_D A [(t, .inr (0, [.ref tape, .ref codes, .ref (xK G kk), .int u1.1, .int u1.2.1])), (tape, .inr (1, [.ref tape_q, .int tape_m])), (tape_q, .inl (xI G, 60, .inl tape_f)), (codes, .inr (1, [.ref codes_q, .int u1.2.2.1])), (codes_q, .inl (xI G, 60, .inl u1.2.2.2))] := hD
  refine lv_aload_n hx hb dX0_readSum_5 rfl (lv_at hl 0 rfl) ?_
  refine va_ldcS hx hb hown hm.2.2.1.2.2.2.1 dX0_readSum_6 ?_
  obtain ⟨u2, e2, hF⟩ := bdS hF
  refine xEndI (xRunV (As := [.ref (xK G 3)]) (rest := []) hZ (c_X0_takesOneOf G t tape codes tape_q kk u1.1 u1.2.1 tape_m tape_f 3 (by decide) u2 e2 l H.size) m527 m528 m529 m26 m530 1 ⟨rfl, hdX0_takesOneOf⟩ ⟨by show 4 + 1 ≤ fd + 6; omega, by show 8 + (3 + 11) + (85) ≤ ld + 130; omega⟩ ⟨rfl, rfl⟩ hP hD hS 0 0 rfl rfl rfl [0, 1, 2] rfl rfl rfl hl.1 rfl (Nat.le_of_ble_eq_true rfl) dX0_readSum_8 ⟨Nat.zero_le _, Nat.zero_le _⟩) hP hD hS hA [0, 1, 2] rfl rfl rfl (fun H locs n2 hP hD hS => ?_)
  have hP : va_P G.1 vwCl [(t, .inr (0, [.ref tape, .ref codes, .ref (xK G kk), .int u2.2, .int u1.2.1])), (tape, .inr (1, [.ref tape_q, .int tape_m])), (tape_q, .inl (xI G, 60, .inl tape_f)), (codes, .inr (1, [.ref codes_q, .int u1.2.2.1])), (codes_q, .inl (xI G, 60, .inl u1.2.2.2))] H := hP
  have hD : va_D A [(t, .inr (0, [.ref tape, .ref codes, .ref (xK G kk), .int u2.2, .int u1.2.1])), (tape, .inr (1, [.ref tape_q, .int tape_m])), (tape_q, .inl (xI G, 60, .inl tape_f)), (codes, .inr (1, [.ref codes_q, .int u1.2.2.1])), (codes_q, .inl (xI G, 60, .inl u1.2.2.2))] := hD
  refine lv_istore_n (lv' := [(2, .int u2.1), (0, .ref t), (1, .int op)]) hx hb dX0_readSum_11 rfl hl (by decide) rfl (fun ls hl => ?_)
  refine lv_iconst (v := 0) hx hb dX0_readSum_12 (by decide) ?_
  refine lv_istore_n (lv' := [(3, .int (0 : Int32)), (2, .int u2.1), (0, .ref t), (1, .int op)]) hx hb dX0_readSum_13 rfl hl (by decide) rfl (fun ls hl => ?_)
  refine xLoop6 (body := (B_X0_readSum_14 kk tape_m tape_f op R_rf)) (fun (v14_0 : Int32) (v14_1 : Int32) (v14_2 : Int32) (v14_3 : Int32) (v14_4 : Int32) (v14_5 : Nat → Int32) H locs ls => va_P G.1 vwCl [(t, .inr (0, [.ref tape, .ref codes, .ref (xK G kk), .int v14_2, .int v14_3])), (tape, .inr (1, [.ref tape_q, .int tape_m])), (tape_q, .inl (xI G, 60, .inl tape_f)), (codes, .inr (1, [.ref codes_q, .int v14_4])), (codes_q, .inl (xI G, 60, .inl v14_5))] H ∧ va_D A [(t, .inr (0, [.ref tape, .ref codes, .ref (xK G kk), .int v14_2, .int v14_3])), (tape, .inr (1, [.ref tape_q, .int tape_m])), (tape_q, .inl (xI G, 60, .inl tape_f)), (codes, .inr (1, [.ref codes_q, .int v14_4])), (codes_q, .inl (xI G, 60, .inl v14_5))] ∧ va_S A s.heap H locs ∧ lv_has ls 4 [(0, .ref t), (1, .int op), (2, .int v14_0), (3, .int v14_1)]) (fun N14 v14_0 v14_1 v14_2 v14_3 v14_4 v14_5 ih14 H locs ls hI hF => ?_) fuelC u2.1 (0 : Int32) u2.2 u1.2.1 u1.2.2.1 u1.2.2.2 H locs ls ⟨hP, hD, hS, lv_sub hl [2, 3, 1, 0] rfl⟩ hF
  obtain ⟨hP, hD, hS, hl⟩ := hI
  unfold B_X0_readSum_14 at hF
  refine lv_iload_n hx hb dX0_readSum_14 rfl (lv_at hl 3 rfl) ?_
  refine lv_bipush (v := 60) hx hb dX0_readSum_15 (by decide) ?_
  refine lv_icmp_ge (tgt := 51) hx hb dX0_readSum_17 (by decide) (fun c17 => ?_) (fun c17 => ?_)
  · have hF := itP c17 hF
    obtain rfl := Option.some.inj hF
    rw [← hQ]
    exact W.vret hx hb hr (fun t ht hW => ⟨⟨(), rfl, trivial, xLf hP ht⟩, hS.F ht⟩) hS.2.2 dX0_readSum_51
  · have hF := itN c17 hF
    refine lv_iload_n hx hb dX0_readSum_20 rfl (lv_at hl 2 rfl) ?_
    refine lv_if_eq (tgt := 51) hx hb dX0_readSum_21 (by decide) (fun c21 => ?_) (fun c21 => ?_)
    · have hF := itP c21 hF
      obtain rfl := Option.some.inj hF
      rw [← hQ]
      exact W.vret hx hb hr (fun t ht hW => ⟨⟨(), rfl, trivial, xLf hP ht⟩, hS.F ht⟩) hS.2.2 dX0_readSum_51
    · have hF := itN c21 hF
      refine lv_aload_n hx hb dX0_readSum_24 rfl (lv_at hl 0 rfl) ?_
      refine lv_iload_n hx hb dX0_readSum_25 rfl (lv_at hl 1 rfl) ?_
      obtain ⟨u3, e3, hF⟩ := bdS hF
      refine xEndV (xRunV (As := [.int op]) (rest := []) hZ (c_X0_readProduct G fd ld R_rf h_rf t tape codes tape_q codes_q kk v14_2 v14_3 tape_m tape_f v14_4 v14_5 op hkk u3 e3 l H.size) m650 m651 m652 m26 m648 1 ⟨rfl, hdX0_readProduct⟩ ⟨by show fd + 5 + 1 ≤ fd + 6; omega, by show 8 + (4 + 11) + (ld + 107) ≤ ld + 130; omega⟩ ⟨rfl, rfl⟩ hP hD hS 0 0 rfl rfl rfl [0, 1, 2, 3, 4] rfl rfl rfl hl.1 rfl (Nat.le_of_ble_eq_true rfl) dX0_readSum_26 ⟨Nat.zero_le _, Nat.zero_le _⟩) hP hD hS hA [0, 1, 2, 3, 4] rfl rfl rfl (fun H locs hP hD hS => ?_)
      have hP : va_P G.1 vwCl [(t, .inr (0, [.ref tape, .ref codes, .ref (xK G kk), .int u3.1, .int u3.2.1])), (tape, .inr (1, [.ref tape_q, .int tape_m])), (tape_q, .inl (xI G, 60, .inl tape_f)), (codes, .inr (1, [.ref codes_q, .int u3.2.2.1])), (codes_q, .inl (xI G, 60, .inl u3.2.2.2))] H := hP
      have hD : va_D A [(t, .inr (0, [.ref tape, .ref codes, .ref (xK G kk), .int u3.1, .int u3.2.1])), (tape, .inr (1, [.ref tape_q, .int tape_m])), (tape_q, .inl (xI G, 60, .inl tape_f)), (codes, .inr (1, [.ref codes_q, .int u3.2.2.1])), (codes_q, .inl (xI G, 60, .inl u3.2.2.2))] := hD
      refine lv_aload_n hx hb dX0_readSum_29 rfl (lv_at hl 0 rfl) ?_
      refine va_get (ci := 0) (v := .ref codes) (C := RX0) (T := TX0) (N := 5) hx hb hts (fun w h => tcons w (xin0 w h)) hown hK hP 0 rfl rfl 1 (by decide) (hts _ (tcons _ m92)) (fun _ h9 => h9) rfl dX0_readSum_30 ?_
      refine lv_iload_n hx hb dX0_readSum_33 rfl (lv_at hl 2 rfl) ?_
      refine lv_ineg hx hb dX0_readSum_34 ?_
      obtain ⟨u4, e4, hF⟩ := bdS hF
      refine xEndV (xRunV (As := [.int (-v14_0)]) (rest := []) hZ (c_X1_add G codes codes_q 60 u3.2.2.1 u3.2.2.2 (-v14_0) u4 e4 l H.size) m518 m178 m179 m49 m180 1 ⟨rfl, hdX1_add⟩ ⟨by show 0 + 1 ≤ fd + 6; omega, by show 8 + (2 + 11) + (0) ≤ ld + 130; omega⟩ ⟨rfl, rfl⟩ hP hD hS 3 1 rfl rfl rfl [3, 4] rfl rfl rfl hl.1 rfl (Nat.le_of_ble_eq_true rfl) dX0_readSum_35 ⟨Nat.zero_le _, Nat.zero_le _⟩) hP hD hS hA [3, 4] rfl rfl rfl (fun H locs hP hD hS => ?_)
      have hP : va_P G.1 vwCl [(t, .inr (0, [.ref tape, .ref codes, .ref (xK G kk), .int u3.1, .int u3.2.1])), (tape, .inr (1, [.ref tape_q, .int tape_m])), (tape_q, .inl (xI G, 60, .inl tape_f)), (codes, .inr (1, [.ref codes_q, .int u4.1])), (codes_q, .inl (xI G, 60, .inl u4.2))] H := hP
      have hD : va_D A [(t, .inr (0, [.ref tape, .ref codes, .ref (xK G kk), .int u3.1, .int u3.2.1])), (tape, .inr (1, [.ref tape_q, .int tape_m])), (tape_q, .inl (xI G, 60, .inl tape_f)), (codes, .inr (1, [.ref codes_q, .int u4.1])), (codes_q, .inl (xI G, 60, .inl u4.2))] := hD
      refine lv_aload_n hx hb dX0_readSum_38 rfl (lv_at hl 0 rfl) ?_
      refine va_ldcS hx hb hown hm.2.2.1.2.2.2.1 dX0_readSum_39 ?_
      obtain ⟨u5, e5, hF⟩ := bdS hF
      refine xEndI (xRunV (As := [.ref (xK G 3)]) (rest := []) hZ (c_X0_takesOneOf G t tape codes tape_q kk u3.1 u3.2.1 tape_m tape_f 3 (by decide) u5 e5 l H.size) m527 m528 m529 m26 m530 1 ⟨rfl, hdX0_takesOneOf⟩ ⟨by show 4 + 1 ≤ fd + 6; omega, by show 8 + (3 + 11) + (85) ≤ ld + 130; omega⟩ ⟨rfl, rfl⟩ hP hD hS 0 0 rfl rfl rfl [0, 1, 2] rfl rfl rfl hl.1 rfl (Nat.le_of_ble_eq_true rfl) dX0_readSum_41 ⟨Nat.zero_le _, Nat.zero_le _⟩) hP hD hS hA [0, 1, 2] rfl rfl rfl (fun H locs n5 hP hD hS => ?_)
      have hP : va_P G.1 vwCl [(t, .inr (0, [.ref tape, .ref codes, .ref (xK G kk), .int u5.2, .int u3.2.1])), (tape, .inr (1, [.ref tape_q, .int tape_m])), (tape_q, .inl (xI G, 60, .inl tape_f)), (codes, .inr (1, [.ref codes_q, .int u4.1])), (codes_q, .inl (xI G, 60, .inl u4.2))] H := hP
      have hD : va_D A [(t, .inr (0, [.ref tape, .ref codes, .ref (xK G kk), .int u5.2, .int u3.2.1])), (tape, .inr (1, [.ref tape_q, .int tape_m])), (tape_q, .inl (xI G, 60, .inl tape_f)), (codes, .inr (1, [.ref codes_q, .int u4.1])), (codes_q, .inl (xI G, 60, .inl u4.2))] := hD
      refine lv_istore_n (lv' := [(2, .int u5.1), (0, .ref t), (1, .int op), (3, .int v14_1)]) hx hb dX0_readSum_44 rfl hl (by decide) rfl (fun ls hl => ?_)
      refine lv_iinc (v := (v14_1 + (1 : Int32))) (lv' := [(3, .int (v14_1 + (1 : Int32))), (2, .int u5.1), (0, .ref t), (1, .int op)]) hx hb dX0_readSum_45 hl (k := 3) rfl (xInc_1 _) (by decide) rfl (fun ls hl => ?_)
      refine lv_goto (tgt := 14) hx hb dX0_readSum_48 (by decide) ?_
      exact ih14 u5.1 (v14_1 + (1 : Int32)) u5.2 u3.2.1 u4.1 u4.2 H locs ls ⟨hP, hD, hS, lv_sub hl [2, 3, 1, 0] rfl⟩ hF
def F_X0_readComparison (R_rf : Nat → Int32 → Int32 → Int32 → (Nat → Int32) → Int32 → (Nat → Int32) → Int32 → Option (Int32 × Int32 × Int32 × (Nat → Int32))) (kk : Nat) (rat : Int32) (flt : Int32) (tape_m : Int32) (tape_f : Nat → Int32) (codes_m : Int32) (codes_f : Nat → Int32) (op : Int32) : Option (Int32 × Int32 × Int32 × (Nat → Int32)) := bd (F_X0_readSum R_rf kk rat flt tape_m tape_f codes_m codes_f op) (fun (u1 : (Int32 × Int32 × Int32 × (Nat → Int32))) => bd (F_X0_takesOneOf u1.1 u1.2.1 tape_m tape_f 2) (fun (u2 : (Int32 × Int32)) => if u2.1 = 0 then (some (u2.2, u1.2.1, u1.2.2.1, u1.2.2.2)) else (bd (F_X0_readSum R_rf kk u2.2 u1.2.1 tape_m tape_f u1.2.2.1 u1.2.2.2 op) (fun (u3 : (Int32 × Int32 × Int32 × (Nat → Int32))) => bd (F_X1_add 60 u3.2.2.1 u3.2.2.2 (-u2.1)) (fun (u4 : (Int32 × (Nat → Int32))) => some (u3.1, u3.2.1, u4.1, u4.2))))))
theorem hdX0_readComparison : yX0_readComparison.cls ≠ "java/lang/invoke/MethodHandle" ∧ yX0_readComparison.cls ≠ "java/lang/invoke/VarHandle" ∧ (parseMethodDescriptor yX0_readComparison.desc).map (fun d => d.parameters.length) = some 1 := by decide +kernel
set_option maxHeartbeats 4000000 in
set_option maxRecDepth 100000 in
theorem c_X0_readComparison (G : xG) (fd ld : Nat) (R_rf : Nat → Int32 → Int32 → Int32 → (Nat → Int32) → Int32 → (Nat → Int32) → Int32 → Option (Int32 × Int32 × Int32 × (Nat → Int32))) (h_rf : ∀ (t : Nat) (tape : Nat) (codes : Nat) (tape_q : Nat) (codes_q : Nat) (kk : Nat) (rat : Int32) (flt : Int32) (tape_m : Int32) (tape_f : Nat → Int32) (codes_m : Int32) (codes_f : Nat → Int32) (op : Int32) (hkk : kk < 6) (u : (Int32 × Int32 × Int32 × (Nat → Int32))) (hF : R_rf kk rat flt tape_m tape_f codes_m codes_f op = some u), Kv G yX0_readFactor (Cond.code yX0_readFactor cX0_readFactor 3 none :: TBL) { frames := fd, cells := 0, slots := 0, locals := ld } [.ref t, .int op] [(t, .inr (0, [.ref tape, .ref codes, .ref (xK G kk), .int rat, .int flt])), (tape, .inr (1, [.ref tape_q, .int tape_m])), (tape_q, .inl (xI G, 60, .inl tape_f)), (codes, .inr (1, [.ref codes_q, .int codes_m])), (codes_q, .inl (xI G, 60, .inl codes_f))] [(t, .inr (0, [.ref tape, .ref codes, .ref (xK G kk), .int u.1, .int u.2.1])), (tape, .inr (1, [.ref tape_q, .int tape_m])), (tape_q, .inl (xI G, 60, .inl tape_f)), (codes, .inr (1, [.ref codes_q, .int u.2.2.1])), (codes_q, .inl (xI G, 60, .inl u.2.2.2))]) (t : Nat) (tape : Nat) (codes : Nat) (tape_q : Nat) (codes_q : Nat) (kk : Nat) (rat : Int32) (flt : Int32) (tape_m : Int32) (tape_f : Nat → Int32) (codes_m : Int32) (codes_f : Nat → Int32) (op : Int32) (hkk : kk < 6) (u : (Int32 × Int32 × Int32 × (Nat → Int32))) (hF : F_X0_readComparison R_rf kk rat flt tape_m tape_f codes_m codes_f op = some u) : Kv G yX0_readComparison (Cond.code yX0_readComparison cX0_readComparison 3 none :: TBL) { frames := fd + 7, cells := 0, slots := 0, locals := ld + 153 } [.ref t, .int op] [(t, .inr (0, [.ref tape, .ref codes, .ref (xK G kk), .int rat, .int flt])), (tape, .inr (1, [.ref tape_q, .int tape_m])), (tape_q, .inl (xI G, 60, .inl tape_f)), (codes, .inr (1, [.ref codes_q, .int codes_m])), (codes_q, .inl (xI G, 60, .inl codes_f))] [(t, .inr (0, [.ref tape, .ref codes, .ref (xK G kk), .int u.1, .int u.2.1])), (tape, .inr (1, [.ref tape_q, .int tape_m])), (tape_q, .inl (xI G, 60, .inl tape_f)), (codes, .inr (1, [.ref codes_q, .int u.2.2.1])), (codes_q, .inl (xI G, 60, .inl u.2.2.2))] := by
  intro l sz
  refine Met.ofW (cc := cX0_readComparison) (maxL := 3) (ret := none) (by decide) rfl ?_
  intro p e s m args below meth c s₁ B hml hv
  obtain ⟨rfl, hsz, hP, hD0, hm⟩ := hv
  have hx := B.exec
  have hb := B.bytes
  have hr := B.returns
  have hts := atoms_spec (ws := Cond.code yX0_readComparison cX0_readComparison 3 none :: TBL) B.pre
  have hown : s.vm.findClass RX0 = some m.cls := findClass_of_methodNamed B.named
  have hlocks := B.notSynchronized
  subst hsz
  have hD := hD0.self (sz := s.heap.size)
  generalize hAe : va_A [(t, .inr (0, [.ref tape, .ref codes, .ref (xK G kk), .int rat, .int flt])), (tape, .inr (1, [.ref tape_q, .int tape_m])), (tape_q, .inl (xI G, 60, .inl tape_f)), (codes, .inr (1, [.ref codes_q, .int codes_m])), (codes_q, .inl (xI G, 60, .inl codes_f))] s.heap.size = A at hD hm ⊢
  have hA : ∀ q : Nat, s.heap.size ≤ q → A q := fun q h => by rw [← hAe]; exact Or.inr h
  have hK := hm.1
  have hZ : xAnd p m c cX0_readComparison 3 s _ (Cond.code yX0_readComparison cX0_readComparison 3 none :: TBL) RX0 G A := ⟨⟨hx, hb, hml, hown, hts⟩, tcons, hA, hm⟩
  have hP : va_P G.1 vwCl [(t, .inr (0, [.ref tape, .ref codes, .ref (xK G kk), .int rat, .int flt])), (tape, .inr (1, [.ref tape_q, .int tape_m])), (tape_q, .inl (xI G, 60, .inl tape_f)), (codes, .inr (1, [.ref codes_q, .int codes_m])), (codes_q, .inl (xI G, 60, .inl codes_f))] s.heap := hP
  have hl := lv_entry ([.ref t, .int op]) (n := 3) (Nat.le_of_ble_eq_true rfl)
  rw [lg_entry_eq]
  generalize (lg_sl ([.ref t, .int op]) ++ List.replicate (3 - (lg_sl ([.ref t, .int op])).length) Slot.unset).toArray = ls at hl ⊢
  have hl : lv_has ls 3 [(0, .ref t), (1, .int op)] := hl
  generalize hQ : MQ below _ _ s _ _ _ = Q
  refine xGo (A := A) hP (fun H locs hP hS => ?_)
  unfold F_X0_readComparison at hF
  refine lv_aload_n hx hb dX0_readComparison_0 rfl (lv_at hl 0 rfl) ?_
  refine lv_iload_n hx hb dX0_readComparison_1 rfl (lv_at hl 1 rfl) ?_
  obtain ⟨u1, e1, hF⟩ := bdS hF
  refine xEndV (xRunV (As := [.int op]) (rest := []) hZ (c_X0_readSum G fd ld R_rf h_rf t tape codes tape_q codes_q kk rat flt tape_m tape_f codes_m codes_f op hkk u1 e1 l H.size) m524 m525 m526 m26 m649 1 ⟨rfl, hdX0_readSum⟩ ⟨by show fd + 6 + 1 ≤ fd + 7; omega, by show 8 + (4 + 11) + (ld + 130) ≤ ld + 153; omega⟩ ⟨rfl, rfl⟩ hP hD hS 0 0 rfl rfl rfl [0, 1, 2, 3, 4] rfl rfl rfl hl.1 rfl (Nat.le_of_ble_eq_true rfl) dX0_readComparison_2 ⟨Nat.zero_le _, Nat.zero_le _⟩) hP hD hS hA [0, 1, 2, 3, 4] rfl rfl rfl (fun H locs hP hD hS => ?_)
  have hP : va_P G.1 vwCl [(t, .inr (0, [.ref tape, .ref codes, .ref (xK G kk), .int u1.1, .int u1.2.1])), (tape, .inr (1, [.ref tape_q, .int tape_m])), (tape_q, .inl (xI G, 60, .inl tape_f)), (codes, .inr (1, [.ref codes_q, .int u1.2.2.1])), (codes_q, .inl (xI G, 60, .inl u1.2.2.2))] H := hP
  have hD : va_D A [(t, .inr (0, [.ref tape, .ref codes, .ref (xK G kk), .int u1.1, .int u1.2.1])), (tape, .inr (1, [.ref tape_q, .int tape_m])), (tape_q, .inl (xI G, 60, .inl tape_f)), (codes, .inr (1, [.ref codes_q, .int u1.2.2.1])), (codes_q, .inl (xI G, 60, .inl u1.2.2.2))] := hD
  refine lv_aload_n hx hb dX0_readComparison_5 rfl (lv_at hl 0 rfl) ?_
  refine va_ldcS hx hb hown hm.2.2.1.2.2.1 dX0_readComparison_6 ?_
  obtain ⟨u2, e2, hF⟩ := bdS hF
  refine xEndI (xRunV (As := [.ref (xK G 2)]) (rest := []) hZ (c_X0_takesOneOf G t tape codes tape_q kk u1.1 u1.2.1 tape_m tape_f 2 (by decide) u2 e2 l H.size) m527 m528 m529 m26 m530 1 ⟨rfl, hdX0_takesOneOf⟩ ⟨by show 4 + 1 ≤ fd + 7; omega, by show 8 + (3 + 11) + (85) ≤ ld + 153; omega⟩ ⟨rfl, rfl⟩ hP hD hS 0 0 rfl rfl rfl [0, 1, 2] rfl rfl rfl hl.1 rfl (Nat.le_of_ble_eq_true rfl) dX0_readComparison_8 ⟨Nat.zero_le _, Nat.zero_le _⟩) hP hD hS hA [0, 1, 2] rfl rfl rfl (fun H locs n2 hP hD hS => ?_)
  have hP : va_P G.1 vwCl [(t, .inr (0, [.ref tape, .ref codes, .ref (xK G kk), .int u2.2, .int u1.2.1])), (tape, .inr (1, [.ref tape_q, .int tape_m])), (tape_q, .inl (xI G, 60, .inl tape_f)), (codes, .inr (1, [.ref codes_q, .int u1.2.2.1])), (codes_q, .inl (xI G, 60, .inl u1.2.2.2))] H := hP
  have hD : va_D A [(t, .inr (0, [.ref tape, .ref codes, .ref (xK G kk), .int u2.2, .int u1.2.1])), (tape, .inr (1, [.ref tape_q, .int tape_m])), (tape_q, .inl (xI G, 60, .inl tape_f)), (codes, .inr (1, [.ref codes_q, .int u1.2.2.1])), (codes_q, .inl (xI G, 60, .inl u1.2.2.2))] := hD
  refine lv_istore_n (lv' := [(2, .int u2.1), (0, .ref t), (1, .int op)]) hx hb dX0_readComparison_11 rfl hl (by decide) rfl (fun ls hl => ?_)
  refine lv_iload_n hx hb dX0_readComparison_12 rfl (lv_at hl 0 rfl) ?_
  refine lv_if_eq (tgt := 30) hx hb dX0_readComparison_13 (by decide) (fun c13 => ?_) (fun c13 => ?_)
  · have hF := itP c13 hF
    obtain rfl := Option.some.inj hF
    rw [← hQ]
    exact W.vret hx hb hr (fun t ht hW => ⟨⟨(), rfl, trivial, xLf hP ht⟩, hS.F ht⟩) hS.2.2 dX0_readComparison_30
  · have hF := itN c13 hF
    refine lv_aload_n hx hb dX0_readComparison_16 rfl (lv_at hl 1 rfl) ?_
    refine lv_iload_n hx hb dX0_readComparison_17 rfl (lv_at hl 2 rfl) ?_
    obtain ⟨u3, e3, hF⟩ := bdS hF
    refine xEndV (xRunV (As := [.int op]) (rest := []) hZ (c_X0_readSum G fd ld R_rf h_rf t tape codes tape_q codes_q kk u2.2 u1.2.1 tape_m tape_f u1.2.2.1 u1.2.2.2 op hkk u3 e3 l H.size) m524 m525 m526 m26 m649 1 ⟨rfl, hdX0_readSum⟩ ⟨by show fd + 6 + 1 ≤ fd + 7; omega, by show 8 + (4 + 11) + (ld + 130) ≤ ld + 153; omega⟩ ⟨rfl, rfl⟩ hP hD hS 0 0 rfl rfl rfl [0, 1, 2, 3, 4] rfl rfl rfl hl.1 rfl (Nat.le_of_ble_eq_true rfl) dX0_readComparison_18 ⟨Nat.zero_le _, Nat.zero_le _⟩) hP hD hS hA [0, 1, 2, 3, 4] rfl rfl rfl (fun H locs hP hD hS => ?_)
    have hP : va_P G.1 vwCl [(t, .inr (0, [.ref tape, .ref codes, .ref (xK G kk), .int u3.1, .int u3.2.1])), (tape, .inr (1, [.ref tape_q, .int tape_m])), (tape_q, .inl (xI G, 60, .inl tape_f)), (codes, .inr (1, [.ref codes_q, .int u3.2.2.1])), (codes_q, .inl (xI G, 60, .inl u3.2.2.2))] H := hP
    have hD : va_D A [(t, .inr (0, [.ref tape, .ref codes, .ref (xK G kk), .int u3.1, .int u3.2.1])), (tape, .inr (1, [.ref tape_q, .int tape_m])), (tape_q, .inl (xI G, 60, .inl tape_f)), (codes, .inr (1, [.ref codes_q, .int u3.2.2.1])), (codes_q, .inl (xI G, 60, .inl u3.2.2.2))] := hD
    refine lv_aload_n hx hb dX0_readComparison_21 rfl (lv_at hl 1 rfl) ?_
    refine va_get (ci := 0) (v := .ref codes) (C := RX0) (T := TX0) (N := 5) hx hb hts (fun w h => tcons w (xin0 w h)) hown hK hP 0 rfl rfl 1 (by decide) (hts _ (tcons _ m92)) (fun _ h9 => h9) rfl dX0_readComparison_22 ?_
    refine lv_iload_n hx hb dX0_readComparison_25 rfl (lv_at hl 0 rfl) ?_
    refine lv_ineg hx hb dX0_readComparison_26 ?_
    obtain ⟨u4, e4, hF⟩ := bdS hF
    refine xEndV (xRunV (As := [.int (-u2.1)]) (rest := []) hZ (c_X1_add G codes codes_q 60 u3.2.2.1 u3.2.2.2 (-u2.1) u4 e4 l H.size) m518 m178 m179 m49 m180 1 ⟨rfl, hdX1_add⟩ ⟨by show 0 + 1 ≤ fd + 7; omega, by show 8 + (2 + 11) + (0) ≤ ld + 153; omega⟩ ⟨rfl, rfl⟩ hP hD hS 3 1 rfl rfl rfl [3, 4] rfl rfl rfl hl.1 rfl (Nat.le_of_ble_eq_true rfl) dX0_readComparison_27 ⟨Nat.zero_le _, Nat.zero_le _⟩) hP hD hS hA [3, 4] rfl rfl rfl (fun H locs hP hD hS => ?_)
    have hP : va_P G.1 vwCl [(t, .inr (0, [.ref tape, .ref codes, .ref (xK G kk), .int u3.1, .int u3.2.1])), (tape, .inr (1, [.ref tape_q, .int tape_m])), (tape_q, .inl (xI G, 60, .inl tape_f)), (codes, .inr (1, [.ref codes_q, .int u4.1])), (codes_q, .inl (xI G, 60, .inl u4.2))] H := hP
    have hD : va_D A [(t, .inr (0, [.ref tape, .ref codes, .ref (xK G kk), .int u3.1, .int u3.2.1])), (tape, .inr (1, [.ref tape_q, .int tape_m])), (tape_q, .inl (xI G, 60, .inl tape_f)), (codes, .inr (1, [.ref codes_q, .int u4.1])), (codes_q, .inl (xI G, 60, .inl u4.2))] := hD
    obtain rfl := Option.some.inj hF
    rw [← hQ]
    exact W.vret hx hb hr (fun t ht hW => ⟨⟨(), rfl, trivial, xLf hP ht⟩, hS.F ht⟩) hS.2.2 dX0_readComparison_30
def B_X0_readAnd_7 (kk : Nat) (tape_m : Int32) (tape_f : Nat → Int32) (op : Int32) (R_rf : Nat → Int32 → Int32 → Int32 → (Nat → Int32) → Int32 → (Nat → Int32) → Int32 → Option (Int32 × Int32 × Int32 × (Nat → Int32))) (k7 : (Int32 × Int32 × Int32 × Int32 × (Nat → Int32)) → Option (Int32 × Int32 × Int32 × (Nat → Int32))) (v7 : (Int32 × Int32 × Int32 × Int32 × (Nat → Int32))) : Option (Int32 × Int32 × Int32 × (Nat → Int32)) := if (60 : Int32) ≤ v7.1 then (some (v7.2.1, v7.2.2.1, v7.2.2.2.1, v7.2.2.2.2)) else (bd (F_X0_takes v7.2.1 v7.2.2.1 tape_m tape_f (38 : Int32)) (fun (u2 : (Int32 × Int32)) => if u2.1 = 0 then (some (u2.2, v7.2.2.1, v7.2.2.2.1, v7.2.2.2.2)) else (bd (F_X0_readComparison R_rf kk u2.2 v7.2.2.1 tape_m tape_f v7.2.2.2.1 v7.2.2.2.2 op) (fun (u3 : (Int32 × Int32 × Int32 × (Nat → Int32))) => bd (F_X1_add 60 u3.2.2.1 u3.2.2.2 (-38 : Int32)) (fun (u4 : (Int32 × (Nat → Int32))) => k7 ((v7.1 + (1 : Int32)), u3.1, u3.2.1, u4.1, u4.2))))))
def F_X0_readAnd (R_rf : Nat → Int32 → Int32 → Int32 → (Nat → Int32) → Int32 → (Nat → Int32) → Int32 → Option (Int32 × Int32 × Int32 × (Nat → Int32))) (kk : Nat) (rat : Int32) (flt : Int32) (tape_m : Int32) (tape_f : Nat → Int32) (codes_m : Int32) (codes_f : Nat → Int32) (op : Int32) : Option (Int32 × Int32 × Int32 × (Nat → Int32)) := bd (F_X0_readComparison R_rf kk rat flt tape_m tape_f codes_m codes_f op) (fun (u1 : (Int32 × Int32 × Int32 × (Nat → Int32))) => lp (B_X0_readAnd_7 kk tape_m tape_f op R_rf) fuelC ((0 : Int32), u1.1, u1.2.1, u1.2.2.1, u1.2.2.2))
theorem hdX0_readAnd : yX0_readAnd.cls ≠ "java/lang/invoke/MethodHandle" ∧ yX0_readAnd.cls ≠ "java/lang/invoke/VarHandle" ∧ (parseMethodDescriptor yX0_readAnd.desc).map (fun d => d.parameters.length) = some 1 := by decide +kernel
set_option maxHeartbeats 4000000 in
set_option maxRecDepth 100000 in
theorem c_X0_readAnd (G : xG) (fd ld : Nat) (R_rf : Nat → Int32 → Int32 → Int32 → (Nat → Int32) → Int32 → (Nat → Int32) → Int32 → Option (Int32 × Int32 × Int32 × (Nat → Int32))) (h_rf : ∀ (t : Nat) (tape : Nat) (codes : Nat) (tape_q : Nat) (codes_q : Nat) (kk : Nat) (rat : Int32) (flt : Int32) (tape_m : Int32) (tape_f : Nat → Int32) (codes_m : Int32) (codes_f : Nat → Int32) (op : Int32) (hkk : kk < 6) (u : (Int32 × Int32 × Int32 × (Nat → Int32))) (hF : R_rf kk rat flt tape_m tape_f codes_m codes_f op = some u), Kv G yX0_readFactor (Cond.code yX0_readFactor cX0_readFactor 3 none :: TBL) { frames := fd, cells := 0, slots := 0, locals := ld } [.ref t, .int op] [(t, .inr (0, [.ref tape, .ref codes, .ref (xK G kk), .int rat, .int flt])), (tape, .inr (1, [.ref tape_q, .int tape_m])), (tape_q, .inl (xI G, 60, .inl tape_f)), (codes, .inr (1, [.ref codes_q, .int codes_m])), (codes_q, .inl (xI G, 60, .inl codes_f))] [(t, .inr (0, [.ref tape, .ref codes, .ref (xK G kk), .int u.1, .int u.2.1])), (tape, .inr (1, [.ref tape_q, .int tape_m])), (tape_q, .inl (xI G, 60, .inl tape_f)), (codes, .inr (1, [.ref codes_q, .int u.2.2.1])), (codes_q, .inl (xI G, 60, .inl u.2.2.2))]) (t : Nat) (tape : Nat) (codes : Nat) (tape_q : Nat) (codes_q : Nat) (kk : Nat) (rat : Int32) (flt : Int32) (tape_m : Int32) (tape_f : Nat → Int32) (codes_m : Int32) (codes_f : Nat → Int32) (op : Int32) (hkk : kk < 6) (u : (Int32 × Int32 × Int32 × (Nat → Int32))) (hF : F_X0_readAnd R_rf kk rat flt tape_m tape_f codes_m codes_f op = some u) : Kv G yX0_readAnd (Cond.code yX0_readAnd cX0_readAnd 3 none :: TBL) { frames := fd + 8, cells := 0, slots := 0, locals := ld + 175 } [.ref t, .int op] [(t, .inr (0, [.ref tape, .ref codes, .ref (xK G kk), .int rat, .int flt])), (tape, .inr (1, [.ref tape_q, .int tape_m])), (tape_q, .inl (xI G, 60, .inl tape_f)), (codes, .inr (1, [.ref codes_q, .int codes_m])), (codes_q, .inl (xI G, 60, .inl codes_f))] [(t, .inr (0, [.ref tape, .ref codes, .ref (xK G kk), .int u.1, .int u.2.1])), (tape, .inr (1, [.ref tape_q, .int tape_m])), (tape_q, .inl (xI G, 60, .inl tape_f)), (codes, .inr (1, [.ref codes_q, .int u.2.2.1])), (codes_q, .inl (xI G, 60, .inl u.2.2.2))] := by
  intro l sz
  refine Met.ofW (cc := cX0_readAnd) (maxL := 3) (ret := none) (by decide) rfl ?_
  intro p e s m args below meth c s₁ B hml hv
  obtain ⟨rfl, hsz, hP, hD0, hm⟩ := hv
  have hx := B.exec
  have hb := B.bytes
  have hr := B.returns
  have hts := atoms_spec (ws := Cond.code yX0_readAnd cX0_readAnd 3 none :: TBL) B.pre
  have hown : s.vm.findClass RX0 = some m.cls := findClass_of_methodNamed B.named
  have hlocks := B.notSynchronized
  subst hsz
  have hD := hD0.self (sz := s.heap.size)
  generalize hAe : va_A [(t, .inr (0, [.ref tape, .ref codes, .ref (xK G kk), .int rat, .int flt])), (tape, .inr (1, [.ref tape_q, .int tape_m])), (tape_q, .inl (xI G, 60, .inl tape_f)), (codes, .inr (1, [.ref codes_q, .int codes_m])), (codes_q, .inl (xI G, 60, .inl codes_f))] s.heap.size = A at hD hm ⊢
  have hA : ∀ q : Nat, s.heap.size ≤ q → A q := fun q h => by rw [← hAe]; exact Or.inr h
  have hK := hm.1
  have hZ : xAnd p m c cX0_readAnd 3 s _ (Cond.code yX0_readAnd cX0_readAnd 3 none :: TBL) RX0 G A := ⟨⟨hx, hb, hml, hown, hts⟩, tcons, hA, hm⟩
  have hP : va_P G.1 vwCl [(t, .inr (0, [.ref tape, .ref codes, .ref (xK G kk), .int rat, .int flt])), (tape, .inr (1, [.ref tape_q, .int tape_m])), (tape_q, .inl (xI G, 60, .inl tape_f)), (codes, .inr (1, [.ref codes_q, .int codes_m])), (codes_q, .inl (xI G, 60, .inl codes_f))] s.heap := hP
  have hl := lv_entry ([.ref t, .int op]) (n := 3) (Nat.le_of_ble_eq_true rfl)
  rw [lg_entry_eq]
  generalize (lg_sl ([.ref t, .int op]) ++ List.replicate (3 - (lg_sl ([.ref t, .int op])).length) Slot.unset).toArray = ls at hl ⊢
  have hl : lv_has ls 3 [(0, .ref t), (1, .int op)] := hl
  generalize hQ : MQ below _ _ s _ _ _ = Q
  refine xGo (A := A) hP (fun H locs hP hS => ?_)
  unfold F_X0_readAnd at hF
  refine lv_aload_n hx hb dX0_readAnd_0 rfl (lv_at hl 0 rfl) ?_
  refine lv_iload_n hx hb dX0_readAnd_1 rfl (lv_at hl 1 rfl) ?_
  obtain ⟨u1, e1, hF⟩ := bdS hF
  refine xEndV (xRunV (As := [.int op]) (rest := []) hZ (c_X0_readComparison G fd ld R_rf h_rf t tape codes tape_q codes_q kk rat flt tape_m tape_f codes_m codes_f op hkk u1 e1 l H.size) m520 m521 m522 m26 m523 1 ⟨rfl, hdX0_readComparison⟩ ⟨by show fd + 7 + 1 ≤ fd + 8; omega, by show 8 + (3 + 11) + (ld + 153) ≤ ld + 175; omega⟩ ⟨rfl, rfl⟩ hP hD hS 0 0 rfl rfl rfl [0, 1, 2, 3, 4] rfl rfl rfl hl.1 rfl (Nat.le_of_ble_eq_true rfl) dX0_readAnd_2 ⟨Nat.zero_le _, Nat.zero_le _⟩) hP hD hS hA [0, 1, 2, 3, 4] rfl rfl rfl (fun H locs hP hD hS => ?_)
  have hP : va_P G.1 vwCl [(t, .inr (0, [.ref tape, .ref codes, .ref (xK G kk), .int u1.1, .int u1.2.1])), (tape, .inr (1, [.ref tape_q, .int tape_m])), (tape_q, .inl (xI G, 60, .inl tape_f)), (codes, .inr (1, [.ref codes_q, .int u1.2.2.1])), (codes_q, .inl (xI G, 60, .inl u1.2.2.2))] H := hP
  have hD : va_D A [(t, .inr (0, [.ref tape, .ref codes, .ref (xK G kk), .int u1.1, .int u1.2.1])), (tape, .inr (1, [.ref tape_q, .int tape_m])), (tape_q, .inl (xI G, 60, .inl tape_f)), (codes, .inr (1, [.ref codes_q, .int u1.2.2.1])), (codes_q, .inl (xI G, 60, .inl u1.2.2.2))] := hD
  refine lv_iconst (v := 0) hx hb dX0_readAnd_5 (by decide) ?_
  refine lv_istore_n (lv' := [(2, .int (0 : Int32)), (0, .ref t), (1, .int op)]) hx hb dX0_readAnd_6 rfl hl (by decide) rfl (fun ls hl => ?_)
  refine xLoop5 (body := (B_X0_readAnd_7 kk tape_m tape_f op R_rf)) (fun (v7_0 : Int32) (v7_1 : Int32) (v7_2 : Int32) (v7_3 : Int32) (v7_4 : Nat → Int32) H locs ls => va_P G.1 vwCl [(t, .inr (0, [.ref tape, .ref codes, .ref (xK G kk), .int v7_1, .int v7_2])), (tape, .inr (1, [.ref tape_q, .int tape_m])), (tape_q, .inl (xI G, 60, .inl tape_f)), (codes, .inr (1, [.ref codes_q, .int v7_3])), (codes_q, .inl (xI G, 60, .inl v7_4))] H ∧ va_D A [(t, .inr (0, [.ref tape, .ref codes, .ref (xK G kk), .int v7_1, .int v7_2])), (tape, .inr (1, [.ref tape_q, .int tape_m])), (tape_q, .inl (xI G, 60, .inl tape_f)), (codes, .inr (1, [.ref codes_q, .int v7_3])), (codes_q, .inl (xI G, 60, .inl v7_4))] ∧ va_S A s.heap H locs ∧ lv_has ls 3 [(0, .ref t), (1, .int op), (2, .int v7_0)]) (fun N7 v7_0 v7_1 v7_2 v7_3 v7_4 ih7 H locs ls hI hF => ?_) fuelC (0 : Int32) u1.1 u1.2.1 u1.2.2.1 u1.2.2.2 H locs ls ⟨hP, hD, hS, lv_sub hl [1, 2, 0] rfl⟩ hF
  obtain ⟨hP, hD, hS, hl⟩ := hI
  unfold B_X0_readAnd_7 at hF
  refine lv_iload_n hx hb dX0_readAnd_7 rfl (lv_at hl 2 rfl) ?_
  refine lv_bipush (v := 60) hx hb dX0_readAnd_8 (by decide) ?_
  refine lv_icmp_ge (tgt := 42) hx hb dX0_readAnd_10 (by decide) (fun c10 => ?_) (fun c10 => ?_)
  · have hF := itP c10 hF
    obtain rfl := Option.some.inj hF
    rw [← hQ]
    exact W.vret hx hb hr (fun t ht hW => ⟨⟨(), rfl, trivial, xLf hP ht⟩, hS.F ht⟩) hS.2.2 dX0_readAnd_42
  · have hF := itN c10 hF
    refine lv_aload_n hx hb dX0_readAnd_13 rfl (lv_at hl 0 rfl) ?_
    refine lv_bipush (v := 38) hx hb dX0_readAnd_14 (by decide) ?_
    obtain ⟨u2, e2, hF⟩ := bdS hF
    refine xEndI (xRunV (As := [.int (38 : Int32)]) (rest := []) hZ (c_X0_takes G t tape codes tape_q kk v7_1 v7_2 tape_m tape_f (38 : Int32) u2 e2 l H.size) m509 m510 m511 m26 m512 1 ⟨rfl, hdX0_takes⟩ ⟨by show 2 + 1 ≤ fd + 8; omega, by show 8 + (2 + 11) + (41) ≤ ld + 175; omega⟩ ⟨rfl, rfl⟩ hP hD hS 0 0 rfl rfl rfl [0, 1, 2] rfl rfl rfl hl.1 rfl (Nat.le_of_ble_eq_true rfl) dX0_readAnd_16 ⟨Nat.zero_le _, Nat.zero_le _⟩) hP hD hS hA [0, 1, 2] rfl rfl rfl (fun H locs n2 hP hD hS => ?_)
    have hP : va_P G.1 vwCl [(t, .inr (0, [.ref tape, .ref codes, .ref (xK G kk), .int u2.2, .int v7_2])), (tape, .inr (1, [.ref tape_q, .int tape_m])), (tape_q, .inl (xI G, 60, .inl tape_f)), (codes, .inr (1, [.ref codes_q, .int v7_3])), (codes_q, .inl (xI G, 60, .inl v7_4))] H := hP
    have hD : va_D A [(t, .inr (0, [.ref tape, .ref codes, .ref (xK G kk), .int u2.2, .int v7_2])), (tape, .inr (1, [.ref tape_q, .int tape_m])), (tape_q, .inl (xI G, 60, .inl tape_f)), (codes, .inr (1, [.ref codes_q, .int v7_3])), (codes_q, .inl (xI G, 60, .inl v7_4))] := hD
    refine lv_if_eq (tgt := 42) hx hb dX0_readAnd_19 (by decide) (fun c19 => ?_) (fun c19 => ?_)
    · have hF := itP c19 hF
      obtain rfl := Option.some.inj hF
      rw [← hQ]
      exact W.vret hx hb hr (fun t ht hW => ⟨⟨(), rfl, trivial, xLf hP ht⟩, hS.F ht⟩) hS.2.2 dX0_readAnd_42
    · have hF := itN c19 hF
      refine lv_aload_n hx hb dX0_readAnd_22 rfl (lv_at hl 0 rfl) ?_
      refine lv_iload_n hx hb dX0_readAnd_23 rfl (lv_at hl 1 rfl) ?_
      obtain ⟨u3, e3, hF⟩ := bdS hF
      refine xEndV (xRunV (As := [.int op]) (rest := []) hZ (c_X0_readComparison G fd ld R_rf h_rf t tape codes tape_q codes_q kk u2.2 v7_2 tape_m tape_f v7_3 v7_4 op hkk u3 e3 l H.size) m520 m521 m522 m26 m523 1 ⟨rfl, hdX0_readComparison⟩ ⟨by show fd + 7 + 1 ≤ fd + 8; omega, by show 8 + (3 + 11) + (ld + 153) ≤ ld + 175; omega⟩ ⟨rfl, rfl⟩ hP hD hS 0 0 rfl rfl rfl [0, 1, 2, 3, 4] rfl rfl rfl hl.1 rfl (Nat.le_of_ble_eq_true rfl) dX0_readAnd_24 ⟨Nat.zero_le _, Nat.zero_le _⟩) hP hD hS hA [0, 1, 2, 3, 4] rfl rfl rfl (fun H locs hP hD hS => ?_)
      have hP : va_P G.1 vwCl [(t, .inr (0, [.ref tape, .ref codes, .ref (xK G kk), .int u3.1, .int u3.2.1])), (tape, .inr (1, [.ref tape_q, .int tape_m])), (tape_q, .inl (xI G, 60, .inl tape_f)), (codes, .inr (1, [.ref codes_q, .int u3.2.2.1])), (codes_q, .inl (xI G, 60, .inl u3.2.2.2))] H := hP
      have hD : va_D A [(t, .inr (0, [.ref tape, .ref codes, .ref (xK G kk), .int u3.1, .int u3.2.1])), (tape, .inr (1, [.ref tape_q, .int tape_m])), (tape_q, .inl (xI G, 60, .inl tape_f)), (codes, .inr (1, [.ref codes_q, .int u3.2.2.1])), (codes_q, .inl (xI G, 60, .inl u3.2.2.2))] := hD
      refine lv_aload_n hx hb dX0_readAnd_27 rfl (lv_at hl 0 rfl) ?_
      refine va_get (ci := 0) (v := .ref codes) (C := RX0) (T := TX0) (N := 5) hx hb hts (fun w h => tcons w (xin0 w h)) hown hK hP 0 rfl rfl 1 (by decide) (hts _ (tcons _ m92)) (fun _ h9 => h9) rfl dX0_readAnd_28 ?_
      refine lv_bipush (v := -38) hx hb dX0_readAnd_31 (by decide) ?_
      obtain ⟨u4, e4, hF⟩ := bdS hF
      refine xEndV (xRunV (As := [.int (-38 : Int32)]) (rest := []) hZ (c_X1_add G codes codes_q 60 u3.2.2.1 u3.2.2.2 (-38 : Int32) u4 e4 l H.size) m518 m178 m179 m49 m180 1 ⟨rfl, hdX1_add⟩ ⟨by show 0 + 1 ≤ fd + 8; omega, by show 8 + (2 + 11) + (0) ≤ ld + 175; omega⟩ ⟨rfl, rfl⟩ hP hD hS 3 1 rfl rfl rfl [3, 4] rfl rfl rfl hl.1 rfl (Nat.le_of_ble_eq_true rfl) dX0_readAnd_33 ⟨Nat.zero_le _, Nat.zero_le _⟩) hP hD hS hA [3, 4] rfl rfl rfl (fun H locs hP hD hS => ?_)
      have hP : va_P G.1 vwCl [(t, .inr (0, [.ref tape, .ref codes, .ref (xK G kk), .int u3.1, .int u3.2.1])), (tape, .inr (1, [.ref tape_q, .int tape_m])), (tape_q, .inl (xI G, 60, .inl tape_f)), (codes, .inr (1, [.ref codes_q, .int u4.1])), (codes_q, .inl (xI G, 60, .inl u4.2))] H := hP
      have hD : va_D A [(t, .inr (0, [.ref tape, .ref codes, .ref (xK G kk), .int u3.1, .int u3.2.1])), (tape, .inr (1, [.ref tape_q, .int tape_m])), (tape_q, .inl (xI G, 60, .inl tape_f)), (codes, .inr (1, [.ref codes_q, .int u4.1])), (codes_q, .inl (xI G, 60, .inl u4.2))] := hD
      refine lv_iinc (v := (v7_0 + (1 : Int32))) (lv' := [(2, .int (v7_0 + (1 : Int32))), (0, .ref t), (1, .int op)]) hx hb dX0_readAnd_36 hl (k := 2) rfl (xInc_1 _) (by decide) rfl (fun ls hl => ?_)
      refine lv_goto (tgt := 7) hx hb dX0_readAnd_39 (by decide) ?_
      exact ih7 (v7_0 + (1 : Int32)) u3.1 u3.2.1 u4.1 u4.2 H locs ls ⟨hP, hD, hS, lv_sub hl [1, 2, 0] rfl⟩ hF
def B_X0_readOr_7 (kk : Nat) (tape_m : Int32) (tape_f : Nat → Int32) (op : Int32) (R_rf : Nat → Int32 → Int32 → Int32 → (Nat → Int32) → Int32 → (Nat → Int32) → Int32 → Option (Int32 × Int32 × Int32 × (Nat → Int32))) (k7 : (Int32 × Int32 × Int32 × Int32 × (Nat → Int32)) → Option (Int32 × Int32 × Int32 × (Nat → Int32))) (v7 : (Int32 × Int32 × Int32 × Int32 × (Nat → Int32))) : Option (Int32 × Int32 × Int32 × (Nat → Int32)) := if (60 : Int32) ≤ v7.1 then (some (v7.2.1, v7.2.2.1, v7.2.2.2.1, v7.2.2.2.2)) else (bd (F_X0_takes v7.2.1 v7.2.2.1 tape_m tape_f (124 : Int32)) (fun (u2 : (Int32 × Int32)) => if u2.1 = 0 then (some (u2.2, v7.2.2.1, v7.2.2.2.1, v7.2.2.2.2)) else (bd (F_X0_readAnd R_rf kk u2.2 v7.2.2.1 tape_m tape_f v7.2.2.2.1 v7.2.2.2.2 op) (fun (u3 : (Int32 × Int32 × Int32 × (Nat → Int32))) => bd (F_X1_add 60 u3.2.2.1 u3.2.2.2 (-124 : Int32)) (fun (u4 : (Int32 × (Nat → Int32))) => k7 ((v7.1 + (1 : Int32)), u3.1, u3.2.1, u4.1, u4.2))))))
def F_X0_readOr (R_rf : Nat → Int32 → Int32 → Int32 → (Nat → Int32) → Int32 → (Nat → Int32) → Int32 → Option (Int32 × Int32 × Int32 × (Nat → Int32))) (kk : Nat) (rat : Int32) (flt : Int32) (tape_m : Int32) (tape_f : Nat → Int32) (codes_m : Int32) (codes_f : Nat → Int32) (op : Int32) : Option (Int32 × Int32 × Int32 × (Nat → Int32)) := bd (F_X0_readAnd R_rf kk rat flt tape_m tape_f codes_m codes_f op) (fun (u1 : (Int32 × Int32 × Int32 × (Nat → Int32))) => lp (B_X0_readOr_7 kk tape_m tape_f op R_rf) fuelC ((0 : Int32), u1.1, u1.2.1, u1.2.2.1, u1.2.2.2))
theorem hdX0_readOr : yX0_readOr.cls ≠ "java/lang/invoke/MethodHandle" ∧ yX0_readOr.cls ≠ "java/lang/invoke/VarHandle" ∧ (parseMethodDescriptor yX0_readOr.desc).map (fun d => d.parameters.length) = some 1 := by decide +kernel
set_option maxHeartbeats 4000000 in
set_option maxRecDepth 100000 in
theorem c_X0_readOr (G : xG) (fd ld : Nat) (R_rf : Nat → Int32 → Int32 → Int32 → (Nat → Int32) → Int32 → (Nat → Int32) → Int32 → Option (Int32 × Int32 × Int32 × (Nat → Int32))) (h_rf : ∀ (t : Nat) (tape : Nat) (codes : Nat) (tape_q : Nat) (codes_q : Nat) (kk : Nat) (rat : Int32) (flt : Int32) (tape_m : Int32) (tape_f : Nat → Int32) (codes_m : Int32) (codes_f : Nat → Int32) (op : Int32) (hkk : kk < 6) (u : (Int32 × Int32 × Int32 × (Nat → Int32))) (hF : R_rf kk rat flt tape_m tape_f codes_m codes_f op = some u), Kv G yX0_readFactor (Cond.code yX0_readFactor cX0_readFactor 3 none :: TBL) { frames := fd, cells := 0, slots := 0, locals := ld } [.ref t, .int op] [(t, .inr (0, [.ref tape, .ref codes, .ref (xK G kk), .int rat, .int flt])), (tape, .inr (1, [.ref tape_q, .int tape_m])), (tape_q, .inl (xI G, 60, .inl tape_f)), (codes, .inr (1, [.ref codes_q, .int codes_m])), (codes_q, .inl (xI G, 60, .inl codes_f))] [(t, .inr (0, [.ref tape, .ref codes, .ref (xK G kk), .int u.1, .int u.2.1])), (tape, .inr (1, [.ref tape_q, .int tape_m])), (tape_q, .inl (xI G, 60, .inl tape_f)), (codes, .inr (1, [.ref codes_q, .int u.2.2.1])), (codes_q, .inl (xI G, 60, .inl u.2.2.2))]) (t : Nat) (tape : Nat) (codes : Nat) (tape_q : Nat) (codes_q : Nat) (kk : Nat) (rat : Int32) (flt : Int32) (tape_m : Int32) (tape_f : Nat → Int32) (codes_m : Int32) (codes_f : Nat → Int32) (op : Int32) (hkk : kk < 6) (u : (Int32 × Int32 × Int32 × (Nat → Int32))) (hF : F_X0_readOr R_rf kk rat flt tape_m tape_f codes_m codes_f op = some u) : Kv G yX0_readOr (Cond.code yX0_readOr cX0_readOr 3 none :: TBL) { frames := fd + 9, cells := 0, slots := 0, locals := ld + 197 } [.ref t, .int op] [(t, .inr (0, [.ref tape, .ref codes, .ref (xK G kk), .int rat, .int flt])), (tape, .inr (1, [.ref tape_q, .int tape_m])), (tape_q, .inl (xI G, 60, .inl tape_f)), (codes, .inr (1, [.ref codes_q, .int codes_m])), (codes_q, .inl (xI G, 60, .inl codes_f))] [(t, .inr (0, [.ref tape, .ref codes, .ref (xK G kk), .int u.1, .int u.2.1])), (tape, .inr (1, [.ref tape_q, .int tape_m])), (tape_q, .inl (xI G, 60, .inl tape_f)), (codes, .inr (1, [.ref codes_q, .int u.2.2.1])), (codes_q, .inl (xI G, 60, .inl u.2.2.2))] := by
  intro l sz
  refine Met.ofW (cc := cX0_readOr) (maxL := 3) (ret := none) (by decide) rfl ?_
  intro p e s m args below meth c s₁ B hml hv
  obtain ⟨rfl, hsz, hP, hD0, hm⟩ := hv
  have hx := B.exec
  have hb := B.bytes
  have hr := B.returns
  have hts := atoms_spec (ws := Cond.code yX0_readOr cX0_readOr 3 none :: TBL) B.pre
  have hown : s.vm.findClass RX0 = some m.cls := findClass_of_methodNamed B.named
  have hlocks := B.notSynchronized
  subst hsz
  have hD := hD0.self (sz := s.heap.size)
  generalize hAe : va_A [(t, .inr (0, [.ref tape, .ref codes, .ref (xK G kk), .int rat, .int flt])), (tape, .inr (1, [.ref tape_q, .int tape_m])), (tape_q, .inl (xI G, 60, .inl tape_f)), (codes, .inr (1, [.ref codes_q, .int codes_m])), (codes_q, .inl (xI G, 60, .inl codes_f))] s.heap.size = A at hD hm ⊢
  have hA : ∀ q : Nat, s.heap.size ≤ q → A q := fun q h => by rw [← hAe]; exact Or.inr h
  have hK := hm.1
  have hZ : xAnd p m c cX0_readOr 3 s _ (Cond.code yX0_readOr cX0_readOr 3 none :: TBL) RX0 G A := ⟨⟨hx, hb, hml, hown, hts⟩, tcons, hA, hm⟩
  have hP : va_P G.1 vwCl [(t, .inr (0, [.ref tape, .ref codes, .ref (xK G kk), .int rat, .int flt])), (tape, .inr (1, [.ref tape_q, .int tape_m])), (tape_q, .inl (xI G, 60, .inl tape_f)), (codes, .inr (1, [.ref codes_q, .int codes_m])), (codes_q, .inl (xI G, 60, .inl codes_f))] s.heap := hP
  have hl := lv_entry ([.ref t, .int op]) (n := 3) (Nat.le_of_ble_eq_true rfl)
  rw [lg_entry_eq]
  generalize (lg_sl ([.ref t, .int op]) ++ List.replicate (3 - (lg_sl ([.ref t, .int op])).length) Slot.unset).toArray = ls at hl ⊢
  have hl : lv_has ls 3 [(0, .ref t), (1, .int op)] := hl
  generalize hQ : MQ below _ _ s _ _ _ = Q
  refine xGo (A := A) hP (fun H locs hP hS => ?_)
  unfold F_X0_readOr at hF
  refine lv_aload_n hx hb dX0_readOr_0 rfl (lv_at hl 0 rfl) ?_
  refine lv_iload_n hx hb dX0_readOr_1 rfl (lv_at hl 1 rfl) ?_
  obtain ⟨u1, e1, hF⟩ := bdS hF
  refine xEndV (xRunV (As := [.int op]) (rest := []) hZ (c_X0_readAnd G fd ld R_rf h_rf t tape codes tape_q codes_q kk rat flt tape_m tape_f codes_m codes_f op hkk u1 e1 l H.size) m506 m507 m508 m26 m519 1 ⟨rfl, hdX0_readAnd⟩ ⟨by show fd + 8 + 1 ≤ fd + 9; omega, by show 8 + (3 + 11) + (ld + 175) ≤ ld + 197; omega⟩ ⟨rfl, rfl⟩ hP hD hS 0 0 rfl rfl rfl [0, 1, 2, 3, 4] rfl rfl rfl hl.1 rfl (Nat.le_of_ble_eq_true rfl) dX0_readOr_2 ⟨Nat.zero_le _, Nat.zero_le _⟩) hP hD hS hA [0, 1, 2, 3, 4] rfl rfl rfl (fun H locs hP hD hS => ?_)
  have hP : va_P G.1 vwCl [(t, .inr (0, [.ref tape, .ref codes, .ref (xK G kk), .int u1.1, .int u1.2.1])), (tape, .inr (1, [.ref tape_q, .int tape_m])), (tape_q, .inl (xI G, 60, .inl tape_f)), (codes, .inr (1, [.ref codes_q, .int u1.2.2.1])), (codes_q, .inl (xI G, 60, .inl u1.2.2.2))] H := hP
  have hD : va_D A [(t, .inr (0, [.ref tape, .ref codes, .ref (xK G kk), .int u1.1, .int u1.2.1])), (tape, .inr (1, [.ref tape_q, .int tape_m])), (tape_q, .inl (xI G, 60, .inl tape_f)), (codes, .inr (1, [.ref codes_q, .int u1.2.2.1])), (codes_q, .inl (xI G, 60, .inl u1.2.2.2))] := hD
  refine lv_iconst (v := 0) hx hb dX0_readOr_5 (by decide) ?_
  refine lv_istore_n (lv' := [(2, .int (0 : Int32)), (0, .ref t), (1, .int op)]) hx hb dX0_readOr_6 rfl hl (by decide) rfl (fun ls hl => ?_)
  refine xLoop5 (body := (B_X0_readOr_7 kk tape_m tape_f op R_rf)) (fun (v7_0 : Int32) (v7_1 : Int32) (v7_2 : Int32) (v7_3 : Int32) (v7_4 : Nat → Int32) H locs ls => va_P G.1 vwCl [(t, .inr (0, [.ref tape, .ref codes, .ref (xK G kk), .int v7_1, .int v7_2])), (tape, .inr (1, [.ref tape_q, .int tape_m])), (tape_q, .inl (xI G, 60, .inl tape_f)), (codes, .inr (1, [.ref codes_q, .int v7_3])), (codes_q, .inl (xI G, 60, .inl v7_4))] H ∧ va_D A [(t, .inr (0, [.ref tape, .ref codes, .ref (xK G kk), .int v7_1, .int v7_2])), (tape, .inr (1, [.ref tape_q, .int tape_m])), (tape_q, .inl (xI G, 60, .inl tape_f)), (codes, .inr (1, [.ref codes_q, .int v7_3])), (codes_q, .inl (xI G, 60, .inl v7_4))] ∧ va_S A s.heap H locs ∧ lv_has ls 3 [(0, .ref t), (1, .int op), (2, .int v7_0)]) (fun N7 v7_0 v7_1 v7_2 v7_3 v7_4 ih7 H locs ls hI hF => ?_) fuelC (0 : Int32) u1.1 u1.2.1 u1.2.2.1 u1.2.2.2 H locs ls ⟨hP, hD, hS, lv_sub hl [1, 2, 0] rfl⟩ hF
  obtain ⟨hP, hD, hS, hl⟩ := hI
  unfold B_X0_readOr_7 at hF
  refine lv_iload_n hx hb dX0_readOr_7 rfl (lv_at hl 2 rfl) ?_
  refine lv_bipush (v := 60) hx hb dX0_readOr_8 (by decide) ?_
  refine lv_icmp_ge (tgt := 42) hx hb dX0_readOr_10 (by decide) (fun c10 => ?_) (fun c10 => ?_)
  · have hF := itP c10 hF
    obtain rfl := Option.some.inj hF
    rw [← hQ]
    exact W.vret hx hb hr (fun t ht hW => ⟨⟨(), rfl, trivial, xLf hP ht⟩, hS.F ht⟩) hS.2.2 dX0_readOr_42
  · have hF := itN c10 hF
    refine lv_aload_n hx hb dX0_readOr_13 rfl (lv_at hl 0 rfl) ?_
    refine lv_bipush (v := 124) hx hb dX0_readOr_14 (by decide) ?_
    obtain ⟨u2, e2, hF⟩ := bdS hF
    refine xEndI (xRunV (As := [.int (124 : Int32)]) (rest := []) hZ (c_X0_takes G t tape codes tape_q kk v7_1 v7_2 tape_m tape_f (124 : Int32) u2 e2 l H.size) m509 m510 m511 m26 m512 1 ⟨rfl, hdX0_takes⟩ ⟨by show 2 + 1 ≤ fd + 9; omega, by show 8 + (2 + 11) + (41) ≤ ld + 197; omega⟩ ⟨rfl, rfl⟩ hP hD hS 0 0 rfl rfl rfl [0, 1, 2] rfl rfl rfl hl.1 rfl (Nat.le_of_ble_eq_true rfl) dX0_readOr_16 ⟨Nat.zero_le _, Nat.zero_le _⟩) hP hD hS hA [0, 1, 2] rfl rfl rfl (fun H locs n2 hP hD hS => ?_)
    have hP : va_P G.1 vwCl [(t, .inr (0, [.ref tape, .ref codes, .ref (xK G kk), .int u2.2, .int v7_2])), (tape, .inr (1, [.ref tape_q, .int tape_m])), (tape_q, .inl (xI G, 60, .inl tape_f)), (codes, .inr (1, [.ref codes_q, .int v7_3])), (codes_q, .inl (xI G, 60, .inl v7_4))] H := hP
    have hD : va_D A [(t, .inr (0, [.ref tape, .ref codes, .ref (xK G kk), .int u2.2, .int v7_2])), (tape, .inr (1, [.ref tape_q, .int tape_m])), (tape_q, .inl (xI G, 60, .inl tape_f)), (codes, .inr (1, [.ref codes_q, .int v7_3])), (codes_q, .inl (xI G, 60, .inl v7_4))] := hD
    refine lv_if_eq (tgt := 42) hx hb dX0_readOr_19 (by decide) (fun c19 => ?_) (fun c19 => ?_)
    · have hF := itP c19 hF
      obtain rfl := Option.some.inj hF
      rw [← hQ]
      exact W.vret hx hb hr (fun t ht hW => ⟨⟨(), rfl, trivial, xLf hP ht⟩, hS.F ht⟩) hS.2.2 dX0_readOr_42
    · have hF := itN c19 hF
      refine lv_aload_n hx hb dX0_readOr_22 rfl (lv_at hl 0 rfl) ?_
      refine lv_iload_n hx hb dX0_readOr_23 rfl (lv_at hl 1 rfl) ?_
      obtain ⟨u3, e3, hF⟩ := bdS hF
      refine xEndV (xRunV (As := [.int op]) (rest := []) hZ (c_X0_readAnd G fd ld R_rf h_rf t tape codes tape_q codes_q kk u2.2 v7_2 tape_m tape_f v7_3 v7_4 op hkk u3 e3 l H.size) m506 m507 m508 m26 m519 1 ⟨rfl, hdX0_readAnd⟩ ⟨by show fd + 8 + 1 ≤ fd + 9; omega, by show 8 + (3 + 11) + (ld + 175) ≤ ld + 197; omega⟩ ⟨rfl, rfl⟩ hP hD hS 0 0 rfl rfl rfl [0, 1, 2, 3, 4] rfl rfl rfl hl.1 rfl (Nat.le_of_ble_eq_true rfl) dX0_readOr_24 ⟨Nat.zero_le _, Nat.zero_le _⟩) hP hD hS hA [0, 1, 2, 3, 4] rfl rfl rfl (fun H locs hP hD hS => ?_)
      have hP : va_P G.1 vwCl [(t, .inr (0, [.ref tape, .ref codes, .ref (xK G kk), .int u3.1, .int u3.2.1])), (tape, .inr (1, [.ref tape_q, .int tape_m])), (tape_q, .inl (xI G, 60, .inl tape_f)), (codes, .inr (1, [.ref codes_q, .int u3.2.2.1])), (codes_q, .inl (xI G, 60, .inl u3.2.2.2))] H := hP
      have hD : va_D A [(t, .inr (0, [.ref tape, .ref codes, .ref (xK G kk), .int u3.1, .int u3.2.1])), (tape, .inr (1, [.ref tape_q, .int tape_m])), (tape_q, .inl (xI G, 60, .inl tape_f)), (codes, .inr (1, [.ref codes_q, .int u3.2.2.1])), (codes_q, .inl (xI G, 60, .inl u3.2.2.2))] := hD
      refine lv_aload_n hx hb dX0_readOr_27 rfl (lv_at hl 0 rfl) ?_
      refine va_get (ci := 0) (v := .ref codes) (C := RX0) (T := TX0) (N := 5) hx hb hts (fun w h => tcons w (xin0 w h)) hown hK hP 0 rfl rfl 1 (by decide) (hts _ (tcons _ m92)) (fun _ h9 => h9) rfl dX0_readOr_28 ?_
      refine lv_bipush (v := -124) hx hb dX0_readOr_31 (by decide) ?_
      obtain ⟨u4, e4, hF⟩ := bdS hF
      refine xEndV (xRunV (As := [.int (-124 : Int32)]) (rest := []) hZ (c_X1_add G codes codes_q 60 u3.2.2.1 u3.2.2.2 (-124 : Int32) u4 e4 l H.size) m518 m178 m179 m49 m180 1 ⟨rfl, hdX1_add⟩ ⟨by show 0 + 1 ≤ fd + 9; omega, by show 8 + (2 + 11) + (0) ≤ ld + 197; omega⟩ ⟨rfl, rfl⟩ hP hD hS 3 1 rfl rfl rfl [3, 4] rfl rfl rfl hl.1 rfl (Nat.le_of_ble_eq_true rfl) dX0_readOr_33 ⟨Nat.zero_le _, Nat.zero_le _⟩) hP hD hS hA [3, 4] rfl rfl rfl (fun H locs hP hD hS => ?_)
      have hP : va_P G.1 vwCl [(t, .inr (0, [.ref tape, .ref codes, .ref (xK G kk), .int u3.1, .int u3.2.1])), (tape, .inr (1, [.ref tape_q, .int tape_m])), (tape_q, .inl (xI G, 60, .inl tape_f)), (codes, .inr (1, [.ref codes_q, .int u4.1])), (codes_q, .inl (xI G, 60, .inl u4.2))] H := hP
      have hD : va_D A [(t, .inr (0, [.ref tape, .ref codes, .ref (xK G kk), .int u3.1, .int u3.2.1])), (tape, .inr (1, [.ref tape_q, .int tape_m])), (tape_q, .inl (xI G, 60, .inl tape_f)), (codes, .inr (1, [.ref codes_q, .int u4.1])), (codes_q, .inl (xI G, 60, .inl u4.2))] := hD
      refine lv_iinc (v := (v7_0 + (1 : Int32))) (lv' := [(2, .int (v7_0 + (1 : Int32))), (0, .ref t), (1, .int op)]) hx hb dX0_readOr_36 hl (k := 2) rfl (xInc_1 _) (by decide) rfl (fun ls hl => ?_)
      refine lv_goto (tgt := 7) hx hb dX0_readOr_39 (by decide) ?_
      exact ih7 (v7_0 + (1 : Int32)) u3.1 u3.2.1 u4.1 u4.2 H locs ls ⟨hP, hD, hS, lv_sub hl [1, 2, 0] rfl⟩ hF
def F_X0_readFactor (R_rf : Nat → Int32 → Int32 → Int32 → (Nat → Int32) → Int32 → (Nat → Int32) → Int32 → Option (Int32 × Int32 × Int32 × (Nat → Int32))) (kk : Nat) (rat : Int32) (flt : Int32) (tape_m : Int32) (tape_f : Nat → Int32) (codes_m : Int32) (codes_f : Nat → Int32) (op : Int32) : Option (Int32 × Int32 × Int32 × (Nat → Int32)) := if flt = 0 then (bd (F_X0_next rat tape_m tape_f) (fun (u1 : Int32) => bd (F_J0_indexOf_0f7a4 kk ((u1.toUInt32 % 65536).toInt32)) (fun (u2 : Int32) => bd (F_X0_isDigit rat tape_m tape_f) (fun (u3 : Int32) => if u3 = 0 then (if u2 < 0 then (if (5 : Int32) ≤ op then (if (5 : Int32) ≤ op then (some (rat, (1 : Int32), codes_m, codes_f)) else (bd (F_X0_takes rat flt tape_m tape_f (40 : Int32)) (fun (u4 : (Int32 × Int32)) => if u4.1 = 0 then (some (u4.2, (1 : Int32), codes_m, codes_f)) else (bd (F_X0_readOr R_rf kk u4.2 flt tape_m tape_f codes_m codes_f (op + (1 : Int32))) (fun (u5 : (Int32 × Int32 × Int32 × (Nat → Int32))) => bd (F_X0_takes u5.1 u5.2.1 tape_m tape_f (41 : Int32)) (fun (u6 : (Int32 × Int32)) => if u6.1 = 0 then (some (u6.2, (1 : Int32), u5.2.2.1, u5.2.2.2)) else (some (u6.2, (0 : Int32), u5.2.2.1, u5.2.2.2)))))))) else (bd (F_X0_takes rat flt tape_m tape_f (33 : Int32)) (fun (u4 : (Int32 × Int32)) => if u4.1 = 0 then (if (5 : Int32) ≤ op then (some (u4.2, (1 : Int32), codes_m, codes_f)) else (bd (F_X0_takes u4.2 flt tape_m tape_f (40 : Int32)) (fun (u5 : (Int32 × Int32)) => if u5.1 = 0 then (some (u5.2, (1 : Int32), codes_m, codes_f)) else (bd (F_X0_readOr R_rf kk u5.2 flt tape_m tape_f codes_m codes_f (op + (1 : Int32))) (fun (u6 : (Int32 × Int32 × Int32 × (Nat → Int32))) => bd (F_X0_takes u6.1 u6.2.1 tape_m tape_f (41 : Int32)) (fun (u7 : (Int32 × Int32)) => if u7.1 = 0 then (some (u7.2, (1 : Int32), u6.2.2.1, u6.2.2.2)) else (some (u7.2, (0 : Int32), u6.2.2.1, u6.2.2.2)))))))) else (bd (R_rf kk u4.2 flt tape_m tape_f codes_m codes_f (op + (1 : Int32))) (fun (u5 : (Int32 × Int32 × Int32 × (Nat → Int32))) => bd (F_X1_add 60 u5.2.2.1 u5.2.2.2 (-33 : Int32)) (fun (u6 : (Int32 × (Nat → Int32))) => some (u5.1, u5.2.1, u6.1, u6.2))))))) else (bd (F_X1_add 60 codes_m codes_f ((-1 : Int32) - u2)) (fun (u4 : (Int32 × (Nat → Int32))) => some ((rat + (1 : Int32)), flt, u4.1, u4.2)))) else (bd (F_X0_readNumber rat tape_m tape_f codes_m codes_f) (fun (u4 : (Int32 × Int32 × (Nat → Int32))) => some (u4.1, flt, u4.2.1, u4.2.2))))))) else (some (rat, flt, codes_m, codes_f))
set_option maxHeartbeats 4000000 in
set_option maxRecDepth 100000 in
theorem c_X0_readFactor (G : xG) (fd ld : Nat) (R_rf : Nat → Int32 → Int32 → Int32 → (Nat → Int32) → Int32 → (Nat → Int32) → Int32 → Option (Int32 × Int32 × Int32 × (Nat → Int32))) (h_rf : ∀ (t : Nat) (tape : Nat) (codes : Nat) (tape_q : Nat) (codes_q : Nat) (kk : Nat) (rat : Int32) (flt : Int32) (tape_m : Int32) (tape_f : Nat → Int32) (codes_m : Int32) (codes_f : Nat → Int32) (op : Int32) (hkk : kk < 6) (u : (Int32 × Int32 × Int32 × (Nat → Int32))) (hF : R_rf kk rat flt tape_m tape_f codes_m codes_f op = some u), Kv G yX0_readFactor (Cond.code yX0_readFactor cX0_readFactor 3 none :: TBL) { frames := fd, cells := 0, slots := 0, locals := ld } [.ref t, .int op] [(t, .inr (0, [.ref tape, .ref codes, .ref (xK G kk), .int rat, .int flt])), (tape, .inr (1, [.ref tape_q, .int tape_m])), (tape_q, .inl (xI G, 60, .inl tape_f)), (codes, .inr (1, [.ref codes_q, .int codes_m])), (codes_q, .inl (xI G, 60, .inl codes_f))] [(t, .inr (0, [.ref tape, .ref codes, .ref (xK G kk), .int u.1, .int u.2.1])), (tape, .inr (1, [.ref tape_q, .int tape_m])), (tape_q, .inl (xI G, 60, .inl tape_f)), (codes, .inr (1, [.ref codes_q, .int u.2.2.1])), (codes_q, .inl (xI G, 60, .inl u.2.2.2))]) (t : Nat) (tape : Nat) (codes : Nat) (tape_q : Nat) (codes_q : Nat) (kk : Nat) (rat : Int32) (flt : Int32) (tape_m : Int32) (tape_f : Nat → Int32) (codes_m : Int32) (codes_f : Nat → Int32) (op : Int32) (hkk : kk < 6) (u : (Int32 × Int32 × Int32 × (Nat → Int32))) (hF : F_X0_readFactor R_rf kk rat flt tape_m tape_f codes_m codes_f op = some u) : Kv G yX0_readFactor (Cond.code yX0_readFactor cX0_readFactor 3 none :: TBL) { frames := fd + 10, cells := 0, slots := 0, locals := ld + 219 } [.ref t, .int op] [(t, .inr (0, [.ref tape, .ref codes, .ref (xK G kk), .int rat, .int flt])), (tape, .inr (1, [.ref tape_q, .int tape_m])), (tape_q, .inl (xI G, 60, .inl tape_f)), (codes, .inr (1, [.ref codes_q, .int codes_m])), (codes_q, .inl (xI G, 60, .inl codes_f))] [(t, .inr (0, [.ref tape, .ref codes, .ref (xK G kk), .int u.1, .int u.2.1])), (tape, .inr (1, [.ref tape_q, .int tape_m])), (tape_q, .inl (xI G, 60, .inl tape_f)), (codes, .inr (1, [.ref codes_q, .int u.2.2.1])), (codes_q, .inl (xI G, 60, .inl u.2.2.2))] := by
  intro l sz
  refine Met.ofW (cc := cX0_readFactor) (maxL := 3) (ret := none) (by decide) rfl ?_
  intro p e s m args below meth c s₁ B hml hv
  obtain ⟨rfl, hsz, hP, hD0, hm⟩ := hv
  have hx := B.exec
  have hb := B.bytes
  have hr := B.returns
  have hts := atoms_spec (ws := Cond.code yX0_readFactor cX0_readFactor 3 none :: TBL) B.pre
  have hown : s.vm.findClass RX0 = some m.cls := findClass_of_methodNamed B.named
  have hlocks := B.notSynchronized
  subst hsz
  have hD := hD0.self (sz := s.heap.size)
  generalize hAe : va_A [(t, .inr (0, [.ref tape, .ref codes, .ref (xK G kk), .int rat, .int flt])), (tape, .inr (1, [.ref tape_q, .int tape_m])), (tape_q, .inl (xI G, 60, .inl tape_f)), (codes, .inr (1, [.ref codes_q, .int codes_m])), (codes_q, .inl (xI G, 60, .inl codes_f))] s.heap.size = A at hD hm ⊢
  have hA : ∀ q : Nat, s.heap.size ≤ q → A q := fun q h => by rw [← hAe]; exact Or.inr h
  have hK := hm.1
  have hZ : xAnd p m c cX0_readFactor 3 s _ (Cond.code yX0_readFactor cX0_readFactor 3 none :: TBL) RX0 G A := ⟨⟨hx, hb, hml, hown, hts⟩, tcons, hA, hm⟩
  have hP : va_P G.1 vwCl [(t, .inr (0, [.ref tape, .ref codes, .ref (xK G kk), .int rat, .int flt])), (tape, .inr (1, [.ref tape_q, .int tape_m])), (tape_q, .inl (xI G, 60, .inl tape_f)), (codes, .inr (1, [.ref codes_q, .int codes_m])), (codes_q, .inl (xI G, 60, .inl codes_f))] s.heap := hP
  have hl := lv_entry ([.ref t, .int op]) (n := 3) (Nat.le_of_ble_eq_true rfl)
  rw [lg_entry_eq]
  generalize (lg_sl ([.ref t, .int op]) ++ List.replicate (3 - (lg_sl ([.ref t, .int op])).length) Slot.unset).toArray = ls at hl ⊢
  have hl : lv_has ls 3 [(0, .ref t), (1, .int op)] := hl
  generalize hQ : MQ below _ _ s _ _ _ = Q
  refine xGo (A := A) hP (fun H locs hP hS => ?_)
  unfold F_X0_readFactor at hF
  refine lv_aload_n hx hb dX0_readFactor_0 rfl (lv_at hl 0 rfl) ?_
  refine va_get (ci := 0) (v := .int flt) (C := RX0) (T := TX0) (N := 5) hx hb hts (fun w h => tcons w (xin0 w h)) hown hK hP 0 rfl rfl 4 (by decide) (hts _ (tcons _ m95)) (fun _ h9 => h9) rfl dX0_readFactor_1 ?_
  refine lv_if_eq (tgt := 8) hx hb dX0_readFactor_4 (by decide) (fun c4 => ?_) (fun c4 => ?_)
  · have hF := itP c4 hF
    refine lv_aload_n hx hb dX0_readFactor_8 rfl (lv_at hl 0 rfl) ?_
    refine va_get (ci := 0) (v := .ref (xK G kk)) (C := RX0) (T := TX0) (N := 5) hx hb hts (fun w h => tcons w (xin0 w h)) hown hK hP 0 rfl rfl 2 (by decide) (hts _ (tcons _ m93)) (fun _ h9 => h9) rfl dX0_readFactor_9 ?_
    refine lv_aload_n hx hb dX0_readFactor_12 rfl (lv_at hl 0 rfl) ?_
    obtain ⟨u1, e1, hF⟩ := bdS hF
    refine xEndI (xRunV (As := []) (rest := [.ref (xK G kk)]) hZ (c_X0_next G t tape codes tape_q kk rat flt tape_m tape_f u1 e1 l H.size) m513 m514 m515 m26 m516 0 ⟨rfl, hdX0_next⟩ ⟨by show 1 + 1 ≤ fd + 10; omega, by show 8 + (1 + 11) + (21) ≤ ld + 219; omega⟩ ⟨rfl, rfl⟩ hP hD hS 0 0 rfl rfl rfl [0, 1, 2] rfl rfl rfl hl.1 rfl (Nat.le_of_ble_eq_true rfl) dX0_readFactor_13 ⟨Nat.zero_le _, Nat.zero_le _⟩) hP hD hS hA [0, 1, 2] rfl rfl rfl (fun H locs n1 hP hD hS => ?_)
    have hP : va_P G.1 vwCl [(t, .inr (0, [.ref tape, .ref codes, .ref (xK G kk), .int rat, .int flt])), (tape, .inr (1, [.ref tape_q, .int tape_m])), (tape_q, .inl (xI G, 60, .inl tape_f)), (codes, .inr (1, [.ref codes_q, .int codes_m])), (codes_q, .inl (xI G, 60, .inl codes_f))] H := hP
    have hD : va_D A [(t, .inr (0, [.ref tape, .ref codes, .ref (xK G kk), .int rat, .int flt])), (tape, .inr (1, [.ref tape_q, .int tape_m])), (tape_q, .inl (xI G, 60, .inl tape_f)), (codes, .inr (1, [.ref codes_q, .int codes_m])), (codes_q, .inl (xI G, 60, .inl codes_f))] := hD
    refine lv_i2c hx hb dX0_readFactor_16 rfl ?_
    obtain ⟨u2, e2, hF⟩ := bdS hF
    refine xEndI (xRunVs (As := [.int ((u1.toUInt32 % 65536).toInt32)]) (rest := []) hZ (c_J0_indexOf_0f7a4 G kk ((u1.toUInt32 % 65536).toInt32) hkk u2 e2 l H.size) m581 m582 m583 m534 m584 1 ⟨rfl, hdJ0_indexOf_0f7a4⟩ ⟨by show 3 + 1 ≤ fd + 10; omega, by show 8 + (2 + 11) + (85) ≤ ld + 219; omega⟩ ⟨rfl, rfl⟩ hP hD hS (vk_recv hm.2.2.2.2.2.2.2.2.1 hkk hS) [] rfl rfl rfl hl.1 rfl (Nat.le_of_ble_eq_true rfl) dX0_readFactor_17 ⟨Nat.zero_le _, Nat.zero_le _⟩) hP hD hS hA [] rfl rfl rfl (fun H locs n2 hP hD hS => ?_)
    have hP : va_P G.1 vwCl [(t, .inr (0, [.ref tape, .ref codes, .ref (xK G kk), .int rat, .int flt])), (tape, .inr (1, [.ref tape_q, .int tape_m])), (tape_q, .inl (xI G, 60, .inl tape_f)), (codes, .inr (1, [.ref codes_q, .int codes_m])), (codes_q, .inl (xI G, 60, .inl codes_f))] H := hP
    have hD : va_D A [(t, .inr (0, [.ref tape, .ref codes, .ref (xK G kk), .int rat, .int flt])), (tape, .inr (1, [.ref tape_q, .int tape_m])), (tape_q, .inl (xI G, 60, .inl tape_f)), (codes, .inr (1, [.ref codes_q, .int codes_m])), (codes_q, .inl (xI G, 60, .inl codes_f))] := hD
    refine lv_istore_n (lv' := [(2, .int u2), (0, .ref t), (1, .int op)]) hx hb dX0_readFactor_20 rfl hl (by decide) rfl (fun ls hl => ?_)
    refine lv_aload_n hx hb dX0_readFactor_21 rfl (lv_at hl 1 rfl) ?_
    obtain ⟨u3, e3, hF⟩ := bdS hF
    refine xEndI (xRunV (As := []) (rest := []) hZ (c_X0_isDigit G t tape codes tape_q kk rat flt tape_m tape_f u3 e3 l H.size) m637 m638 m639 m26 m640 0 ⟨rfl, hdX0_isDigit⟩ ⟨by show 2 + 1 ≤ fd + 10; omega, by show 8 + (1 + 11) + (41) ≤ ld + 219; omega⟩ ⟨rfl, rfl⟩ hP hD hS 0 0 rfl rfl rfl [0, 1, 2] rfl rfl rfl hl.1 rfl (Nat.le_of_ble_eq_true rfl) dX0_readFactor_22 ⟨Nat.zero_le _, Nat.zero_le _⟩) hP hD hS hA [0, 1, 2] rfl rfl rfl (fun H locs n3 hP hD hS => ?_)
    have hP : va_P G.1 vwCl [(t, .inr (0, [.ref tape, .ref codes, .ref (xK G kk), .int rat, .int flt])), (tape, .inr (1, [.ref tape_q, .int tape_m])), (tape_q, .inl (xI G, 60, .inl tape_f)), (codes, .inr (1, [.ref codes_q, .int codes_m])), (codes_q, .inl (xI G, 60, .inl codes_f))] H := hP
    have hD : va_D A [(t, .inr (0, [.ref tape, .ref codes, .ref (xK G kk), .int rat, .int flt])), (tape, .inr (1, [.ref tape_q, .int tape_m])), (tape_q, .inl (xI G, 60, .inl tape_f)), (codes, .inr (1, [.ref codes_q, .int codes_m])), (codes_q, .inl (xI G, 60, .inl codes_f))] := hD
    refine lv_if_eq (tgt := 35) hx hb dX0_readFactor_25 (by decide) (fun c25 => ?_) (fun c25 => ?_)
    · have hF := itP c25 hF
      refine lv_iload_n hx hb dX0_readFactor_35 rfl (lv_at hl 0 rfl) ?_
      refine lv_if_lt (tgt := 62) hx hb dX0_readFactor_36 (by decide) (fun c36 => ?_) (fun c36 => ?_)
      · have hF := itP c36 hF
        refine lv_iload_n hx hb dX0_readFactor_62 rfl (lv_at hl 2 rfl) ?_
        refine lv_iconst (v := 5) hx hb dX0_readFactor_63 (by decide) ?_
        refine lv_icmp_ge (tgt := 95) hx hb dX0_readFactor_64 (by decide) (fun c64 => ?_) (fun c64 => ?_)
        · have hF := itP c64 hF
          refine lv_iload_n hx hb dX0_readFactor_95 rfl (lv_at hl 2 rfl) ?_
          refine lv_iconst (v := 5) hx hb dX0_readFactor_96 (by decide) ?_
          refine lv_icmp_ge (tgt := 137) hx hb dX0_readFactor_97 (by decide) (fun c97 => ?_) (fun c97 => ?_)
          · have hF := itP c97 hF
            refine lv_aload_n hx hb dX0_readFactor_137 rfl (lv_at hl 1 rfl) ?_
            refine lv_iconst (v := 1) hx hb dX0_readFactor_138 (by decide) ?_
            refine va_put (ci := 0) (v := .int (1 : Int32)) (ty := .boolean) (C := RX0) (T := TX0) (N := 5) hx hb hts (fun w h => tcons w (xin0 w h)) tyX0 tyX0_ok nmX0 hown hK hP hD hS 0 rfl rfl 4 (by decide) (hts _ (tcons _ m95)) (fun _ h9 => h9) rfl (by decide +kernel) (by decide) (by decide) (Nat.le_of_ble_eq_true rfl) dX0_readFactor_139 (fun H locs hP hD hS => ?_)
            have hP : va_P G.1 vwCl [(t, .inr (0, [.ref tape, .ref codes, .ref (xK G kk), .int rat, .int (1 : Int32)])), (tape, .inr (1, [.ref tape_q, .int tape_m])), (tape_q, .inl (xI G, 60, .inl tape_f)), (codes, .inr (1, [.ref codes_q, .int codes_m])), (codes_q, .inl (xI G, 60, .inl codes_f))] H := hP
            have hD : va_D A [(t, .inr (0, [.ref tape, .ref codes, .ref (xK G kk), .int rat, .int (1 : Int32)])), (tape, .inr (1, [.ref tape_q, .int tape_m])), (tape_q, .inl (xI G, 60, .inl tape_f)), (codes, .inr (1, [.ref codes_q, .int codes_m])), (codes_q, .inl (xI G, 60, .inl codes_f))] := hD
            obtain rfl := Option.some.inj hF
            rw [← hQ]
            exact W.vret hx hb hr (fun t ht hW => ⟨⟨(), rfl, trivial, xLf hP ht⟩, hS.F ht⟩) hS.2.2 dX0_readFactor_142
          · have hF := itN c97 hF
            refine lv_aload_n hx hb dX0_readFactor_100 rfl (lv_at hl 1 rfl) ?_
            refine lv_bipush (v := 40) hx hb dX0_readFactor_101 (by decide) ?_
            obtain ⟨u4, e4, hF⟩ := bdS hF
            refine xEndI (xRunV (As := [.int (40 : Int32)]) (rest := []) hZ (c_X0_takes G t tape codes tape_q kk rat flt tape_m tape_f (40 : Int32) u4 e4 l H.size) m509 m510 m511 m26 m512 1 ⟨rfl, hdX0_takes⟩ ⟨by show 2 + 1 ≤ fd + 10; omega, by show 8 + (2 + 11) + (41) ≤ ld + 219; omega⟩ ⟨rfl, rfl⟩ hP hD hS 0 0 rfl rfl rfl [0, 1, 2] rfl rfl rfl hl.1 rfl (Nat.le_of_ble_eq_true rfl) dX0_readFactor_103 ⟨Nat.zero_le _, Nat.zero_le _⟩) hP hD hS hA [0, 1, 2] rfl rfl rfl (fun H locs n4 hP hD hS => ?_)
            have hP : va_P G.1 vwCl [(t, .inr (0, [.ref tape, .ref codes, .ref (xK G kk), .int u4.2, .int flt])), (tape, .inr (1, [.ref tape_q, .int tape_m])), (tape_q, .inl (xI G, 60, .inl tape_f)), (codes, .inr (1, [.ref codes_q, .int codes_m])), (codes_q, .inl (xI G, 60, .inl codes_f))] H := hP
            have hD : va_D A [(t, .inr (0, [.ref tape, .ref codes, .ref (xK G kk), .int u4.2, .int flt])), (tape, .inr (1, [.ref tape_q, .int tape_m])), (tape_q, .inl (xI G, 60, .inl tape_f)), (codes, .inr (1, [.ref codes_q, .int codes_m])), (codes_q, .inl (xI G, 60, .inl codes_f))] := hD
            refine lv_if_eq (tgt := 137) hx hb dX0_readFactor_106 (by decide) (fun c106 => ?_) (fun c106 => ?_)
            · have hF := itP c106 hF
              refine lv_aload_n hx hb dX0_readFactor_137 rfl (lv_at hl 1 rfl) ?_
              refine lv_iconst (v := 1) hx hb dX0_readFactor_138 (by decide) ?_
              refine va_put (ci := 0) (v := .int (1 : Int32)) (ty := .boolean) (C := RX0) (T := TX0) (N := 5) hx hb hts (fun w h => tcons w (xin0 w h)) tyX0 tyX0_ok nmX0 hown hK hP hD hS 0 rfl rfl 4 (by decide) (hts _ (tcons _ m95)) (fun _ h9 => h9) rfl (by decide +kernel) (by decide) (by decide) (Nat.le_of_ble_eq_true rfl) dX0_readFactor_139 (fun H locs hP hD hS => ?_)
              have hP : va_P G.1 vwCl [(t, .inr (0, [.ref tape, .ref codes, .ref (xK G kk), .int u4.2, .int (1 : Int32)])), (tape, .inr (1, [.ref tape_q, .int tape_m])), (tape_q, .inl (xI G, 60, .inl tape_f)), (codes, .inr (1, [.ref codes_q, .int codes_m])), (codes_q, .inl (xI G, 60, .inl codes_f))] H := hP
              have hD : va_D A [(t, .inr (0, [.ref tape, .ref codes, .ref (xK G kk), .int u4.2, .int (1 : Int32)])), (tape, .inr (1, [.ref tape_q, .int tape_m])), (tape_q, .inl (xI G, 60, .inl tape_f)), (codes, .inr (1, [.ref codes_q, .int codes_m])), (codes_q, .inl (xI G, 60, .inl codes_f))] := hD
              obtain rfl := Option.some.inj hF
              rw [← hQ]
              exact W.vret hx hb hr (fun t ht hW => ⟨⟨(), rfl, trivial, xLf hP ht⟩, hS.F ht⟩) hS.2.2 dX0_readFactor_142
            · have hF := itN c106 hF
              refine lv_aload_n hx hb dX0_readFactor_109 rfl (lv_at hl 1 rfl) ?_
              refine lv_iload_n hx hb dX0_readFactor_110 rfl (lv_at hl 2 rfl) ?_
              refine lv_iconst (v := 1) hx hb dX0_readFactor_111 (by decide) ?_
              refine lv_iadd hx hb dX0_readFactor_112 ?_
              obtain ⟨u5, e5, hF⟩ := bdS hF
              refine xEndV (xRunV (As := [.int (op + (1 : Int32))]) (rest := []) hZ (c_X0_readOr G fd ld R_rf h_rf t tape codes tape_q codes_q kk u4.2 flt tape_m tape_f codes_m codes_f (op + (1 : Int32)) hkk u5 e5 l H.size) m502 m503 m504 m26 m505 1 ⟨rfl, hdX0_readOr⟩ ⟨by show fd + 9 + 1 ≤ fd + 10; omega, by show 8 + (3 + 11) + (ld + 197) ≤ ld + 219; omega⟩ ⟨rfl, rfl⟩ hP hD hS 0 0 rfl rfl rfl [0, 1, 2, 3, 4] rfl rfl rfl hl.1 rfl (Nat.le_of_ble_eq_true rfl) dX0_readFactor_113 ⟨Nat.zero_le _, Nat.zero_le _⟩) hP hD hS hA [0, 1, 2, 3, 4] rfl rfl rfl (fun H locs hP hD hS => ?_)
              have hP : va_P G.1 vwCl [(t, .inr (0, [.ref tape, .ref codes, .ref (xK G kk), .int u5.1, .int u5.2.1])), (tape, .inr (1, [.ref tape_q, .int tape_m])), (tape_q, .inl (xI G, 60, .inl tape_f)), (codes, .inr (1, [.ref codes_q, .int u5.2.2.1])), (codes_q, .inl (xI G, 60, .inl u5.2.2.2))] H := hP
              have hD : va_D A [(t, .inr (0, [.ref tape, .ref codes, .ref (xK G kk), .int u5.1, .int u5.2.1])), (tape, .inr (1, [.ref tape_q, .int tape_m])), (tape_q, .inl (xI G, 60, .inl tape_f)), (codes, .inr (1, [.ref codes_q, .int u5.2.2.1])), (codes_q, .inl (xI G, 60, .inl u5.2.2.2))] := hD
              refine lv_aload_n hx hb dX0_readFactor_116 rfl (lv_at hl 1 rfl) ?_
              refine lv_aload_n hx hb dX0_readFactor_117 rfl (lv_at hl 1 rfl) ?_
              refine lv_bipush (v := 41) hx hb dX0_readFactor_118 (by decide) ?_
              obtain ⟨u6, e6, hF⟩ := bdS hF
              refine xEndI (xRunV (As := [.int (41 : Int32)]) (rest := [.ref t]) hZ (c_X0_takes G t tape codes tape_q kk u5.1 u5.2.1 tape_m tape_f (41 : Int32) u6 e6 l H.size) m509 m510 m511 m26 m512 1 ⟨rfl, hdX0_takes⟩ ⟨by show 2 + 1 ≤ fd + 10; omega, by show 8 + (2 + 11) + (41) ≤ ld + 219; omega⟩ ⟨rfl, rfl⟩ hP hD hS 0 0 rfl rfl rfl [0, 1, 2] rfl rfl rfl hl.1 rfl (Nat.le_of_ble_eq_true rfl) dX0_readFactor_120 ⟨Nat.zero_le _, Nat.zero_le _⟩) hP hD hS hA [0, 1, 2] rfl rfl rfl (fun H locs n6 hP hD hS => ?_)
              have hP : va_P G.1 vwCl [(t, .inr (0, [.ref tape, .ref codes, .ref (xK G kk), .int u6.2, .int u5.2.1])), (tape, .inr (1, [.ref tape_q, .int tape_m])), (tape_q, .inl (xI G, 60, .inl tape_f)), (codes, .inr (1, [.ref codes_q, .int u5.2.2.1])), (codes_q, .inl (xI G, 60, .inl u5.2.2.2))] H := hP
              have hD : va_D A [(t, .inr (0, [.ref tape, .ref codes, .ref (xK G kk), .int u6.2, .int u5.2.1])), (tape, .inr (1, [.ref tape_q, .int tape_m])), (tape_q, .inl (xI G, 60, .inl tape_f)), (codes, .inr (1, [.ref codes_q, .int u5.2.2.1])), (codes_q, .inl (xI G, 60, .inl u5.2.2.2))] := hD
              refine lv_if_ne (tgt := 130) hx hb dX0_readFactor_123 (by decide) (fun c123 => ?_) (fun c123 => ?_)
              · have hF := itN c123 hF
                refine lv_iconst (v := 0) hx hb dX0_readFactor_130 (by decide) ?_
                refine va_put (ci := 0) (v := .int (0 : Int32)) (ty := .boolean) (C := RX0) (T := TX0) (N := 5) hx hb hts (fun w h => tcons w (xin0 w h)) tyX0 tyX0_ok nmX0 hown hK hP hD hS 0 rfl rfl 4 (by decide) (hts _ (tcons _ m95)) (fun _ h9 => h9) rfl (by decide +kernel) (by decide) (by decide) (Nat.le_of_ble_eq_true rfl) dX0_readFactor_131 (fun H locs hP hD hS => ?_)
                have hP : va_P G.1 vwCl [(t, .inr (0, [.ref tape, .ref codes, .ref (xK G kk), .int u6.2, .int (0 : Int32)])), (tape, .inr (1, [.ref tape_q, .int tape_m])), (tape_q, .inl (xI G, 60, .inl tape_f)), (codes, .inr (1, [.ref codes_q, .int u5.2.2.1])), (codes_q, .inl (xI G, 60, .inl u5.2.2.2))] H := hP
                have hD : va_D A [(t, .inr (0, [.ref tape, .ref codes, .ref (xK G kk), .int u6.2, .int (0 : Int32)])), (tape, .inr (1, [.ref tape_q, .int tape_m])), (tape_q, .inl (xI G, 60, .inl tape_f)), (codes, .inr (1, [.ref codes_q, .int u5.2.2.1])), (codes_q, .inl (xI G, 60, .inl u5.2.2.2))] := hD
                refine lv_goto (tgt := 142) hx hb dX0_readFactor_134 (by decide) ?_
                obtain rfl := Option.some.inj hF
                rw [← hQ]
                exact W.vret hx hb hr (fun t ht hW => ⟨⟨(), rfl, trivial, xLf hP ht⟩, hS.F ht⟩) hS.2.2 dX0_readFactor_142
              · have hF := itP c123 hF
                refine lv_iconst (v := 1) hx hb dX0_readFactor_126 (by decide) ?_
                refine lv_goto (tgt := 131) hx hb dX0_readFactor_127 (by decide) ?_
                refine va_put (ci := 0) (v := .int (1 : Int32)) (ty := .boolean) (C := RX0) (T := TX0) (N := 5) hx hb hts (fun w h => tcons w (xin0 w h)) tyX0 tyX0_ok nmX0 hown hK hP hD hS 0 rfl rfl 4 (by decide) (hts _ (tcons _ m95)) (fun _ h9 => h9) rfl (by decide +kernel) (by decide) (by decide) (Nat.le_of_ble_eq_true rfl) dX0_readFactor_131 (fun H locs hP hD hS => ?_)
                have hP : va_P G.1 vwCl [(t, .inr (0, [.ref tape, .ref codes, .ref (xK G kk), .int u6.2, .int (1 : Int32)])), (tape, .inr (1, [.ref tape_q, .int tape_m])), (tape_q, .inl (xI G, 60, .inl tape_f)), (codes, .inr (1, [.ref codes_q, .int u5.2.2.1])), (codes_q, .inl (xI G, 60, .inl u5.2.2.2))] H := hP
                have hD : va_D A [(t, .inr (0, [.ref tape, .ref codes, .ref (xK G kk), .int u6.2, .int (1 : Int32)])), (tape, .inr (1, [.ref tape_q, .int tape_m])), (tape_q, .inl (xI G, 60, .inl tape_f)), (codes, .inr (1, [.ref codes_q, .int u5.2.2.1])), (codes_q, .inl (xI G, 60, .inl u5.2.2.2))] := hD
                refine lv_goto (tgt := 142) hx hb dX0_readFactor_134 (by decide) ?_
                obtain rfl := Option.some.inj hF
                rw [← hQ]
                exact W.vret hx hb hr (fun t ht hW => ⟨⟨(), rfl, trivial, xLf hP ht⟩, hS.F ht⟩) hS.2.2 dX0_readFactor_142
        · have hF := itN c64 hF
          refine lv_aload_n hx hb dX0_readFactor_67 rfl (lv_at hl 1 rfl) ?_
          refine lv_bipush (v := 33) hx hb dX0_readFactor_68 (by decide) ?_
          obtain ⟨u4, e4, hF⟩ := bdS hF
          refine xEndI (xRunV (As := [.int (33 : Int32)]) (rest := []) hZ (c_X0_takes G t tape codes tape_q kk rat flt tape_m tape_f (33 : Int32) u4 e4 l H.size) m509 m510 m511 m26 m512 1 ⟨rfl, hdX0_takes⟩ ⟨by show 2 + 1 ≤ fd + 10; omega, by show 8 + (2 + 11) + (41) ≤ ld + 219; omega⟩ ⟨rfl, rfl⟩ hP hD hS 0 0 rfl rfl rfl [0, 1, 2] rfl rfl rfl hl.1 rfl (Nat.le_of_ble_eq_true rfl) dX0_readFactor_70 ⟨Nat.zero_le _, Nat.zero_le _⟩) hP hD hS hA [0, 1, 2] rfl rfl rfl (fun H locs n4 hP hD hS => ?_)
          have hP : va_P G.1 vwCl [(t, .inr (0, [.ref tape, .ref codes, .ref (xK G kk), .int u4.2, .int flt])), (tape, .inr (1, [.ref tape_q, .int tape_m])), (tape_q, .inl (xI G, 60, .inl tape_f)), (codes, .inr (1, [.ref codes_q, .int codes_m])), (codes_q, .inl (xI G, 60, .inl codes_f))] H := hP
          have hD : va_D A [(t, .inr (0, [.ref tape, .ref codes, .ref (xK G kk), .int u4.2, .int flt])), (tape, .inr (1, [.ref tape_q, .int tape_m])), (tape_q, .inl (xI G, 60, .inl tape_f)), (codes, .inr (1, [.ref codes_q, .int codes_m])), (codes_q, .inl (xI G, 60, .inl codes_f))] := hD
          refine lv_if_eq (tgt := 95) hx hb dX0_readFactor_73 (by decide) (fun c73 => ?_) (fun c73 => ?_)
          · have hF := itP c73 hF
            refine lv_iload_n hx hb dX0_readFactor_95 rfl (lv_at hl 2 rfl) ?_
            refine lv_iconst (v := 5) hx hb dX0_readFactor_96 (by decide) ?_
            refine lv_icmp_ge (tgt := 137) hx hb dX0_readFactor_97 (by decide) (fun c97 => ?_) (fun c97 => ?_)
            · have hF := itP c97 hF
              refine lv_aload_n hx hb dX0_readFactor_137 rfl (lv_at hl 1 rfl) ?_
              refine lv_iconst (v := 1) hx hb dX0_readFactor_138 (by decide) ?_
              refine va_put (ci := 0) (v := .int (1 : Int32)) (ty := .boolean) (C := RX0) (T := TX0) (N := 5) hx hb hts (fun w h => tcons w (xin0 w h)) tyX0 tyX0_ok nmX0 hown hK hP hD hS 0 rfl rfl 4 (by decide) (hts _ (tcons _ m95)) (fun _ h9 => h9) rfl (by decide +kernel) (by decide) (by decide) (Nat.le_of_ble_eq_true rfl) dX0_readFactor_139 (fun H locs hP hD hS => ?_)
              have hP : va_P G.1 vwCl [(t, .inr (0, [.ref tape, .ref codes, .ref (xK G kk), .int u4.2, .int (1 : Int32)])), (tape, .inr (1, [.ref tape_q, .int tape_m])), (tape_q, .inl (xI G, 60, .inl tape_f)), (codes, .inr (1, [.ref codes_q, .int codes_m])), (codes_q, .inl (xI G, 60, .inl codes_f))] H := hP
              have hD : va_D A [(t, .inr (0, [.ref tape, .ref codes, .ref (xK G kk), .int u4.2, .int (1 : Int32)])), (tape, .inr (1, [.ref tape_q, .int tape_m])), (tape_q, .inl (xI G, 60, .inl tape_f)), (codes, .inr (1, [.ref codes_q, .int codes_m])), (codes_q, .inl (xI G, 60, .inl codes_f))] := hD
              obtain rfl := Option.some.inj hF
              rw [← hQ]
              exact W.vret hx hb hr (fun t ht hW => ⟨⟨(), rfl, trivial, xLf hP ht⟩, hS.F ht⟩) hS.2.2 dX0_readFactor_142
            · have hF := itN c97 hF
              refine lv_aload_n hx hb dX0_readFactor_100 rfl (lv_at hl 1 rfl) ?_
              refine lv_bipush (v := 40) hx hb dX0_readFactor_101 (by decide) ?_
              obtain ⟨u5, e5, hF⟩ := bdS hF
              refine xEndI (xRunV (As := [.int (40 : Int32)]) (rest := []) hZ (c_X0_takes G t tape codes tape_q kk u4.2 flt tape_m tape_f (40 : Int32) u5 e5 l H.size) m509 m510 m511 m26 m512 1 ⟨rfl, hdX0_takes⟩ ⟨by show 2 + 1 ≤ fd + 10; omega, by show 8 + (2 + 11) + (41) ≤ ld + 219; omega⟩ ⟨rfl, rfl⟩ hP hD hS 0 0 rfl rfl rfl [0, 1, 2] rfl rfl rfl hl.1 rfl (Nat.le_of_ble_eq_true rfl) dX0_readFactor_103 ⟨Nat.zero_le _, Nat.zero_le _⟩) hP hD hS hA [0, 1, 2] rfl rfl rfl (fun H locs n5 hP hD hS => ?_)
              have hP : va_P G.1 vwCl [(t, .inr (0, [.ref tape, .ref codes, .ref (xK G kk), .int u5.2, .int flt])), (tape, .inr (1, [.ref tape_q, .int tape_m])), (tape_q, .inl (xI G, 60, .inl tape_f)), (codes, .inr (1, [.ref codes_q, .int codes_m])), (codes_q, .inl (xI G, 60, .inl codes_f))] H := hP
              have hD : va_D A [(t, .inr (0, [.ref tape, .ref codes, .ref (xK G kk), .int u5.2, .int flt])), (tape, .inr (1, [.ref tape_q, .int tape_m])), (tape_q, .inl (xI G, 60, .inl tape_f)), (codes, .inr (1, [.ref codes_q, .int codes_m])), (codes_q, .inl (xI G, 60, .inl codes_f))] := hD
              refine lv_if_eq (tgt := 137) hx hb dX0_readFactor_106 (by decide) (fun c106 => ?_) (fun c106 => ?_)
              · have hF := itP c106 hF
                refine lv_aload_n hx hb dX0_readFactor_137 rfl (lv_at hl 1 rfl) ?_
                refine lv_iconst (v := 1) hx hb dX0_readFactor_138 (by decide) ?_
                refine va_put (ci := 0) (v := .int (1 : Int32)) (ty := .boolean) (C := RX0) (T := TX0) (N := 5) hx hb hts (fun w h => tcons w (xin0 w h)) tyX0 tyX0_ok nmX0 hown hK hP hD hS 0 rfl rfl 4 (by decide) (hts _ (tcons _ m95)) (fun _ h9 => h9) rfl (by decide +kernel) (by decide) (by decide) (Nat.le_of_ble_eq_true rfl) dX0_readFactor_139 (fun H locs hP hD hS => ?_)
                have hP : va_P G.1 vwCl [(t, .inr (0, [.ref tape, .ref codes, .ref (xK G kk), .int u5.2, .int (1 : Int32)])), (tape, .inr (1, [.ref tape_q, .int tape_m])), (tape_q, .inl (xI G, 60, .inl tape_f)), (codes, .inr (1, [.ref codes_q, .int codes_m])), (codes_q, .inl (xI G, 60, .inl codes_f))] H := hP
                have hD : va_D A [(t, .inr (0, [.ref tape, .ref codes, .ref (xK G kk), .int u5.2, .int (1 : Int32)])), (tape, .inr (1, [.ref tape_q, .int tape_m])), (tape_q, .inl (xI G, 60, .inl tape_f)), (codes, .inr (1, [.ref codes_q, .int codes_m])), (codes_q, .inl (xI G, 60, .inl codes_f))] := hD
                obtain rfl := Option.some.inj hF
                rw [← hQ]
                exact W.vret hx hb hr (fun t ht hW => ⟨⟨(), rfl, trivial, xLf hP ht⟩, hS.F ht⟩) hS.2.2 dX0_readFactor_142
              · have hF := itN c106 hF
                refine lv_aload_n hx hb dX0_readFactor_109 rfl (lv_at hl 1 rfl) ?_
                refine lv_iload_n hx hb dX0_readFactor_110 rfl (lv_at hl 2 rfl) ?_
                refine lv_iconst (v := 1) hx hb dX0_readFactor_111 (by decide) ?_
                refine lv_iadd hx hb dX0_readFactor_112 ?_
                obtain ⟨u6, e6, hF⟩ := bdS hF
                refine xEndV (xRunV (As := [.int (op + (1 : Int32))]) (rest := []) hZ (c_X0_readOr G fd ld R_rf h_rf t tape codes tape_q codes_q kk u5.2 flt tape_m tape_f codes_m codes_f (op + (1 : Int32)) hkk u6 e6 l H.size) m502 m503 m504 m26 m505 1 ⟨rfl, hdX0_readOr⟩ ⟨by show fd + 9 + 1 ≤ fd + 10; omega, by show 8 + (3 + 11) + (ld + 197) ≤ ld + 219; omega⟩ ⟨rfl, rfl⟩ hP hD hS 0 0 rfl rfl rfl [0, 1, 2, 3, 4] rfl rfl rfl hl.1 rfl (Nat.le_of_ble_eq_true rfl) dX0_readFactor_113 ⟨Nat.zero_le _, Nat.zero_le _⟩) hP hD hS hA [0, 1, 2, 3, 4] rfl rfl rfl (fun H locs hP hD hS => ?_)
                have hP : va_P G.1 vwCl [(t, .inr (0, [.ref tape, .ref codes, .ref (xK G kk), .int u6.1, .int u6.2.1])), (tape, .inr (1, [.ref tape_q, .int tape_m])), (tape_q, .inl (xI G, 60, .inl tape_f)), (codes, .inr (1, [.ref codes_q, .int u6.2.2.1])), (codes_q, .inl (xI G, 60, .inl u6.2.2.2))] H := hP
                have hD : va_D A [(t, .inr (0, [.ref tape, .ref codes, .ref (xK G kk), .int u6.1, .int u6.2.1])), (tape, .inr (1, [.ref tape_q, .int tape_m])), (tape_q, .inl (xI G, 60, .inl tape_f)), (codes, .inr (1, [.ref codes_q, .int u6.2.2.1])), (codes_q, .inl (xI G, 60, .inl u6.2.2.2))] := hD
                refine lv_aload_n hx hb dX0_readFactor_116 rfl (lv_at hl 1 rfl) ?_
                refine lv_aload_n hx hb dX0_readFactor_117 rfl (lv_at hl 1 rfl) ?_
                refine lv_bipush (v := 41) hx hb dX0_readFactor_118 (by decide) ?_
                obtain ⟨u7, e7, hF⟩ := bdS hF
                refine xEndI (xRunV (As := [.int (41 : Int32)]) (rest := [.ref t]) hZ (c_X0_takes G t tape codes tape_q kk u6.1 u6.2.1 tape_m tape_f (41 : Int32) u7 e7 l H.size) m509 m510 m511 m26 m512 1 ⟨rfl, hdX0_takes⟩ ⟨by show 2 + 1 ≤ fd + 10; omega, by show 8 + (2 + 11) + (41) ≤ ld + 219; omega⟩ ⟨rfl, rfl⟩ hP hD hS 0 0 rfl rfl rfl [0, 1, 2] rfl rfl rfl hl.1 rfl (Nat.le_of_ble_eq_true rfl) dX0_readFactor_120 ⟨Nat.zero_le _, Nat.zero_le _⟩) hP hD hS hA [0, 1, 2] rfl rfl rfl (fun H locs n7 hP hD hS => ?_)
                have hP : va_P G.1 vwCl [(t, .inr (0, [.ref tape, .ref codes, .ref (xK G kk), .int u7.2, .int u6.2.1])), (tape, .inr (1, [.ref tape_q, .int tape_m])), (tape_q, .inl (xI G, 60, .inl tape_f)), (codes, .inr (1, [.ref codes_q, .int u6.2.2.1])), (codes_q, .inl (xI G, 60, .inl u6.2.2.2))] H := hP
                have hD : va_D A [(t, .inr (0, [.ref tape, .ref codes, .ref (xK G kk), .int u7.2, .int u6.2.1])), (tape, .inr (1, [.ref tape_q, .int tape_m])), (tape_q, .inl (xI G, 60, .inl tape_f)), (codes, .inr (1, [.ref codes_q, .int u6.2.2.1])), (codes_q, .inl (xI G, 60, .inl u6.2.2.2))] := hD
                refine lv_if_ne (tgt := 130) hx hb dX0_readFactor_123 (by decide) (fun c123 => ?_) (fun c123 => ?_)
                · have hF := itN c123 hF
                  refine lv_iconst (v := 0) hx hb dX0_readFactor_130 (by decide) ?_
                  refine va_put (ci := 0) (v := .int (0 : Int32)) (ty := .boolean) (C := RX0) (T := TX0) (N := 5) hx hb hts (fun w h => tcons w (xin0 w h)) tyX0 tyX0_ok nmX0 hown hK hP hD hS 0 rfl rfl 4 (by decide) (hts _ (tcons _ m95)) (fun _ h9 => h9) rfl (by decide +kernel) (by decide) (by decide) (Nat.le_of_ble_eq_true rfl) dX0_readFactor_131 (fun H locs hP hD hS => ?_)
                  have hP : va_P G.1 vwCl [(t, .inr (0, [.ref tape, .ref codes, .ref (xK G kk), .int u7.2, .int (0 : Int32)])), (tape, .inr (1, [.ref tape_q, .int tape_m])), (tape_q, .inl (xI G, 60, .inl tape_f)), (codes, .inr (1, [.ref codes_q, .int u6.2.2.1])), (codes_q, .inl (xI G, 60, .inl u6.2.2.2))] H := hP
                  have hD : va_D A [(t, .inr (0, [.ref tape, .ref codes, .ref (xK G kk), .int u7.2, .int (0 : Int32)])), (tape, .inr (1, [.ref tape_q, .int tape_m])), (tape_q, .inl (xI G, 60, .inl tape_f)), (codes, .inr (1, [.ref codes_q, .int u6.2.2.1])), (codes_q, .inl (xI G, 60, .inl u6.2.2.2))] := hD
                  refine lv_goto (tgt := 142) hx hb dX0_readFactor_134 (by decide) ?_
                  obtain rfl := Option.some.inj hF
                  rw [← hQ]
                  exact W.vret hx hb hr (fun t ht hW => ⟨⟨(), rfl, trivial, xLf hP ht⟩, hS.F ht⟩) hS.2.2 dX0_readFactor_142
                · have hF := itP c123 hF
                  refine lv_iconst (v := 1) hx hb dX0_readFactor_126 (by decide) ?_
                  refine lv_goto (tgt := 131) hx hb dX0_readFactor_127 (by decide) ?_
                  refine va_put (ci := 0) (v := .int (1 : Int32)) (ty := .boolean) (C := RX0) (T := TX0) (N := 5) hx hb hts (fun w h => tcons w (xin0 w h)) tyX0 tyX0_ok nmX0 hown hK hP hD hS 0 rfl rfl 4 (by decide) (hts _ (tcons _ m95)) (fun _ h9 => h9) rfl (by decide +kernel) (by decide) (by decide) (Nat.le_of_ble_eq_true rfl) dX0_readFactor_131 (fun H locs hP hD hS => ?_)
                  have hP : va_P G.1 vwCl [(t, .inr (0, [.ref tape, .ref codes, .ref (xK G kk), .int u7.2, .int (1 : Int32)])), (tape, .inr (1, [.ref tape_q, .int tape_m])), (tape_q, .inl (xI G, 60, .inl tape_f)), (codes, .inr (1, [.ref codes_q, .int u6.2.2.1])), (codes_q, .inl (xI G, 60, .inl u6.2.2.2))] H := hP
                  have hD : va_D A [(t, .inr (0, [.ref tape, .ref codes, .ref (xK G kk), .int u7.2, .int (1 : Int32)])), (tape, .inr (1, [.ref tape_q, .int tape_m])), (tape_q, .inl (xI G, 60, .inl tape_f)), (codes, .inr (1, [.ref codes_q, .int u6.2.2.1])), (codes_q, .inl (xI G, 60, .inl u6.2.2.2))] := hD
                  refine lv_goto (tgt := 142) hx hb dX0_readFactor_134 (by decide) ?_
                  obtain rfl := Option.some.inj hF
                  rw [← hQ]
                  exact W.vret hx hb hr (fun t ht hW => ⟨⟨(), rfl, trivial, xLf hP ht⟩, hS.F ht⟩) hS.2.2 dX0_readFactor_142
          · have hF := itN c73 hF
            refine lv_aload_n hx hb dX0_readFactor_76 rfl (lv_at hl 1 rfl) ?_
            refine lv_iload_n hx hb dX0_readFactor_77 rfl (lv_at hl 2 rfl) ?_
            refine lv_iconst (v := 1) hx hb dX0_readFactor_78 (by decide) ?_
            refine lv_iadd hx hb dX0_readFactor_79 ?_
            obtain ⟨u5, e5, hF⟩ := bdS hF
            refine xEndV (xRunV (As := [.int (op + (1 : Int32))]) (rest := []) hZ (h_rf t tape codes tape_q codes_q kk u4.2 flt tape_m tape_f codes_m codes_f (op + (1 : Int32)) hkk u5 e5 l H.size) m645 m646 m647 m26 m580 1 ⟨rfl, hdX0_readFactor⟩ ⟨by show fd + 0 + 1 ≤ fd + 10; omega, by show 8 + (3 + 11) + (ld + 0) ≤ ld + 219; omega⟩ ⟨rfl, rfl⟩ hP hD hS 0 0 rfl rfl rfl [0, 1, 2, 3, 4] rfl rfl rfl hl.1 rfl (Nat.le_of_ble_eq_true rfl) dX0_readFactor_80 ⟨Nat.zero_le _, Nat.zero_le _⟩) hP hD hS hA [0, 1, 2, 3, 4] rfl rfl rfl (fun H locs hP hD hS => ?_)
            have hP : va_P G.1 vwCl [(t, .inr (0, [.ref tape, .ref codes, .ref (xK G kk), .int u5.1, .int u5.2.1])), (tape, .inr (1, [.ref tape_q, .int tape_m])), (tape_q, .inl (xI G, 60, .inl tape_f)), (codes, .inr (1, [.ref codes_q, .int u5.2.2.1])), (codes_q, .inl (xI G, 60, .inl u5.2.2.2))] H := hP
            have hD : va_D A [(t, .inr (0, [.ref tape, .ref codes, .ref (xK G kk), .int u5.1, .int u5.2.1])), (tape, .inr (1, [.ref tape_q, .int tape_m])), (tape_q, .inl (xI G, 60, .inl tape_f)), (codes, .inr (1, [.ref codes_q, .int u5.2.2.1])), (codes_q, .inl (xI G, 60, .inl u5.2.2.2))] := hD
            refine lv_aload_n hx hb dX0_readFactor_83 rfl (lv_at hl 1 rfl) ?_
            refine va_get (ci := 0) (v := .ref codes) (C := RX0) (T := TX0) (N := 5) hx hb hts (fun w h => tcons w (xin0 w h)) hown hK hP 0 rfl rfl 1 (by decide) (hts _ (tcons _ m92)) (fun _ h9 => h9) rfl dX0_readFactor_84 ?_
            refine lv_bipush (v := -33) hx hb dX0_readFactor_87 (by decide) ?_
            obtain ⟨u6, e6, hF⟩ := bdS hF
            refine xEndV (xRunV (As := [.int (-33 : Int32)]) (rest := []) hZ (c_X1_add G codes codes_q 60 u5.2.2.1 u5.2.2.2 (-33 : Int32) u6 e6 l H.size) m518 m178 m179 m49 m180 1 ⟨rfl, hdX1_add⟩ ⟨by show 0 + 1 ≤ fd + 10; omega, by show 8 + (2 + 11) + (0) ≤ ld + 219; omega⟩ ⟨rfl, rfl⟩ hP hD hS 3 1 rfl rfl rfl [3, 4] rfl rfl rfl hl.1 rfl (Nat.le_of_ble_eq_true rfl) dX0_readFactor_89 ⟨Nat.zero_le _, Nat.zero_le _⟩) hP hD hS hA [3, 4] rfl rfl rfl (fun H locs hP hD hS => ?_)
            have hP : va_P G.1 vwCl [(t, .inr (0, [.ref tape, .ref codes, .ref (xK G kk), .int u5.1, .int u5.2.1])), (tape, .inr (1, [.ref tape_q, .int tape_m])), (tape_q, .inl (xI G, 60, .inl tape_f)), (codes, .inr (1, [.ref codes_q, .int u6.1])), (codes_q, .inl (xI G, 60, .inl u6.2))] H := hP
            have hD : va_D A [(t, .inr (0, [.ref tape, .ref codes, .ref (xK G kk), .int u5.1, .int u5.2.1])), (tape, .inr (1, [.ref tape_q, .int tape_m])), (tape_q, .inl (xI G, 60, .inl tape_f)), (codes, .inr (1, [.ref codes_q, .int u6.1])), (codes_q, .inl (xI G, 60, .inl u6.2))] := hD
            refine lv_goto (tgt := 142) hx hb dX0_readFactor_92 (by decide) ?_
            obtain rfl := Option.some.inj hF
            rw [← hQ]
            exact W.vret hx hb hr (fun t ht hW => ⟨⟨(), rfl, trivial, xLf hP ht⟩, hS.F ht⟩) hS.2.2 dX0_readFactor_142
      · have hF := itN c36 hF
        refine lv_aload_n hx hb dX0_readFactor_39 rfl (lv_at hl 1 rfl) ?_
        refine lv_dup hx hb dX0_readFactor_40 rfl ?_
        refine va_get (ci := 0) (v := .int rat) (C := RX0) (T := TX0) (N := 5) hx hb hts (fun w h => tcons w (xin0 w h)) hown hK hP 0 rfl rfl 3 (by decide) (hts _ (tcons _ m94)) (fun _ h9 => h9) rfl dX0_readFactor_41 ?_
        refine lv_iconst (v := 1) hx hb dX0_readFactor_44 (by decide) ?_
        refine lv_iadd hx hb dX0_readFactor_45 ?_
        refine va_put (ci := 0) (v := .int (rat + (1 : Int32))) (ty := .int) (C := RX0) (T := TX0) (N := 5) hx hb hts (fun w h => tcons w (xin0 w h)) tyX0 tyX0_ok nmX0 hown hK hP hD hS 0 rfl rfl 3 (by decide) (hts _ (tcons _ m94)) (fun _ h9 => h9) rfl (by decide +kernel) rfl rfl (Nat.le_of_ble_eq_true rfl) dX0_readFactor_46 (fun H locs hP hD hS => ?_)
        have hP : va_P G.1 vwCl [(t, .inr (0, [.ref tape, .ref codes, .ref (xK G kk), .int (rat + (1 : Int32)), .int flt])), (tape, .inr (1, [.ref tape_q, .int tape_m])), (tape_q, .inl (xI G, 60, .inl tape_f)), (codes, .inr (1, [.ref codes_q, .int codes_m])), (codes_q, .inl (xI G, 60, .inl codes_f))] H := hP
        have hD : va_D A [(t, .inr (0, [.ref tape, .ref codes, .ref (xK G kk), .int (rat + (1 : Int32)), .int flt])), (tape, .inr (1, [.ref tape_q, .int tape_m])), (tape_q, .inl (xI G, 60, .inl tape_f)), (codes, .inr (1, [.ref codes_q, .int codes_m])), (codes_q, .inl (xI G, 60, .inl codes_f))] := hD
        refine lv_aload_n hx hb dX0_readFactor_49 rfl (lv_at hl 1 rfl) ?_
        refine va_get (ci := 0) (v := .ref codes) (C := RX0) (T := TX0) (N := 5) hx hb hts (fun w h => tcons w (xin0 w h)) hown hK hP 0 rfl rfl 1 (by decide) (hts _ (tcons _ m92)) (fun _ h9 => h9) rfl dX0_readFactor_50 ?_
        refine lv_iconst (v := -1) hx hb dX0_readFactor_53 (by decide) ?_
        refine lv_iload_n hx hb dX0_readFactor_54 rfl (lv_at hl 0 rfl) ?_
        refine lv_isub hx hb dX0_readFactor_55 ?_
        obtain ⟨u4, e4, hF⟩ := bdS hF
        refine xEndV (xRunV (As := [.int ((-1 : Int32) - u2)]) (rest := []) hZ (c_X1_add G codes codes_q 60 codes_m codes_f ((-1 : Int32) - u2) u4 e4 l H.size) m518 m178 m179 m49 m180 1 ⟨rfl, hdX1_add⟩ ⟨by show 0 + 1 ≤ fd + 10; omega, by show 8 + (2 + 11) + (0) ≤ ld + 219; omega⟩ ⟨rfl, rfl⟩ hP hD hS 3 1 rfl rfl rfl [3, 4] rfl rfl rfl hl.1 rfl (Nat.le_of_ble_eq_true rfl) dX0_readFactor_56 ⟨Nat.zero_le _, Nat.zero_le _⟩) hP hD hS hA [3, 4] rfl rfl rfl (fun H locs hP hD hS => ?_)
        have hP : va_P G.1 vwCl [(t, .inr (0, [.ref tape, .ref codes, .ref (xK G kk), .int (rat + (1 : Int32)), .int flt])), (tape, .inr (1, [.ref tape_q, .int tape_m])), (tape_q, .inl (xI G, 60, .inl tape_f)), (codes, .inr (1, [.ref codes_q, .int u4.1])), (codes_q, .inl (xI G, 60, .inl u4.2))] H := hP
        have hD : va_D A [(t, .inr (0, [.ref tape, .ref codes, .ref (xK G kk), .int (rat + (1 : Int32)), .int flt])), (tape, .inr (1, [.ref tape_q, .int tape_m])), (tape_q, .inl (xI G, 60, .inl tape_f)), (codes, .inr (1, [.ref codes_q, .int u4.1])), (codes_q, .inl (xI G, 60, .inl u4.2))] := hD
        refine lv_goto (tgt := 142) hx hb dX0_readFactor_59 (by decide) ?_
        obtain rfl := Option.some.inj hF
        rw [← hQ]
        exact W.vret hx hb hr (fun t ht hW => ⟨⟨(), rfl, trivial, xLf hP ht⟩, hS.F ht⟩) hS.2.2 dX0_readFactor_142
    · have hF := itN c25 hF
      refine lv_aload_n hx hb dX0_readFactor_28 rfl (lv_at hl 1 rfl) ?_
      obtain ⟨u4, e4, hF⟩ := bdS hF
      refine xEndV (xRunV (As := []) (rest := []) hZ (c_X0_readNumber G t tape codes tape_q codes_q kk rat flt tape_m tape_f codes_m codes_f u4 e4 l H.size) m641 m642 m643 m26 m644 0 ⟨rfl, hdX0_readNumber⟩ ⟨by show 3 + 1 ≤ fd + 10; omega, by show 8 + (3 + 11) + (61) ≤ ld + 219; omega⟩ ⟨rfl, rfl⟩ hP hD hS 0 0 rfl rfl rfl [0, 1, 2, 3, 4] rfl rfl rfl hl.1 rfl (Nat.le_of_ble_eq_true rfl) dX0_readFactor_29 ⟨Nat.zero_le _, Nat.zero_le _⟩) hP hD hS hA [0, 1, 2, 3, 4] rfl rfl rfl (fun H locs hP hD hS => ?_)
      have hP : va_P G.1 vwCl [(t, .inr (0, [.ref tape, .ref codes, .ref (xK G kk), .int u4.1, .int flt])), (tape, .inr (1, [.ref tape_q, .int tape_m])), (tape_q, .inl (xI G, 60, .inl tape_f)), (codes, .inr (1, [.ref codes_q, .int u4.2.1])), (codes_q, .inl (xI G, 60, .inl u4.2.2))] H := hP
      have hD : va_D A [(t, .inr (0, [.ref tape, .ref codes, .ref (xK G kk), .int u4.1, .int flt])), (tape, .inr (1, [.ref tape_q, .int tape_m])), (tape_q, .inl (xI G, 60, .inl tape_f)), (codes, .inr (1, [.ref codes_q, .int u4.2.1])), (codes_q, .inl (xI G, 60, .inl u4.2.2))] := hD
      refine lv_goto (tgt := 142) hx hb dX0_readFactor_32 (by decide) ?_
      obtain rfl := Option.some.inj hF
      rw [← hQ]
      exact W.vret hx hb hr (fun t ht hW => ⟨⟨(), rfl, trivial, xLf hP ht⟩, hS.F ht⟩) hS.2.2 dX0_readFactor_142
  · have hF := itN c4 hF
    obtain rfl := Option.some.inj hF
    rw [← hQ]
    exact W.vret hx hb hr (fun t ht hW => ⟨⟨(), rfl, trivial, xLf hP ht⟩, hS.F ht⟩) hS.2.2 dX0_readFactor_7
def RS_rf : Nat → Nat → Int32 → Int32 → Int32 → (Nat → Int32) → Int32 → (Nat → Int32) → Int32 → Option (Int32 × Int32 × Int32 × (Nat → Int32))
  | 0 => fun _ _ _ _ _ _ _ _ => none
  | d + 1 => F_X0_readFactor (RS_rf d)
theorem cr_rf (G : xG) : ∀ (d : Nat) (t : Nat) (tape : Nat) (codes : Nat) (tape_q : Nat) (codes_q : Nat) (kk : Nat) (rat : Int32) (flt : Int32) (tape_m : Int32) (tape_f : Nat → Int32) (codes_m : Int32) (codes_f : Nat → Int32) (op : Int32) (hkk : kk < 6) (u : (Int32 × Int32 × Int32 × (Nat → Int32))) (hF : RS_rf d kk rat flt tape_m tape_f codes_m codes_f op = some u), Kv G yX0_readFactor (Cond.code yX0_readFactor cX0_readFactor 3 none :: TBL) { frames := 10 * d, cells := 0, slots := 0, locals := 219 * d } [.ref t, .int op] [(t, .inr (0, [.ref tape, .ref codes, .ref (xK G kk), .int rat, .int flt])), (tape, .inr (1, [.ref tape_q, .int tape_m])), (tape_q, .inl (xI G, 60, .inl tape_f)), (codes, .inr (1, [.ref codes_q, .int codes_m])), (codes_q, .inl (xI G, 60, .inl codes_f))] [(t, .inr (0, [.ref tape, .ref codes, .ref (xK G kk), .int u.1, .int u.2.1])), (tape, .inr (1, [.ref tape_q, .int tape_m])), (tape_q, .inl (xI G, 60, .inl tape_f)), (codes, .inr (1, [.ref codes_q, .int u.2.2.1])), (codes_q, .inl (xI G, 60, .inl u.2.2.2))]
  | 0, _, _, _, _, _, _, _, _, _, _, _, _, _, _, _, hF => by cases hF
  | d + 1, z0, z1, z2, z3, z4, z5, z6, z7, z8, z9, z10, z11, z12, z13, u, hF => c_X0_readFactor G (10 * d) (219 * d) (RS_rf d) (cr_rf G d) z0 z1 z2 z3 z4 z5 z6 z7 z8 z9 z10 z11 z12 z13 u hF
theorem cz_rf (G : xG) (t : Nat) (tape : Nat) (codes : Nat) (tape_q : Nat) (codes_q : Nat) (kk : Nat) (rat : Int32) (flt : Int32) (tape_m : Int32) (tape_f : Nat → Int32) (codes_m : Int32) (codes_f : Nat → Int32) (op : Int32) (hkk : kk < 6) (u : (Int32 × Int32 × Int32 × (Nat → Int32))) (hF : RS_rf 8 kk rat flt tape_m tape_f codes_m codes_f op = some u) : Kv G yX0_readFactor (Cond.code yX0_readFactor cX0_readFactor 3 none :: TBL) { frames := 80, cells := 0, slots := 0, locals := 1752 } [.ref t, .int op] [(t, .inr (0, [.ref tape, .ref codes, .ref (xK G kk), .int rat, .int flt])), (tape, .inr (1, [.ref tape_q, .int tape_m])), (tape_q, .inl (xI G, 60, .inl tape_f)), (codes, .inr (1, [.ref codes_q, .int codes_m])), (codes_q, .inl (xI G, 60, .inl codes_f))] [(t, .inr (0, [.ref tape, .ref codes, .ref (xK G kk), .int u.1, .int u.2.1])), (tape, .inr (1, [.ref tape_q, .int tape_m])), (tape_q, .inl (xI G, 60, .inl tape_f)), (codes, .inr (1, [.ref codes_q, .int u.2.2.1])), (codes_q, .inl (xI G, 60, .inl u.2.2.2))] := cr_rf G 8 t tape codes tape_q codes_q kk rat flt tape_m tape_f codes_m codes_f op hkk u hF
theorem cz_X0_readOr (G : xG) (t : Nat) (tape : Nat) (codes : Nat) (tape_q : Nat) (codes_q : Nat) (kk : Nat) (rat : Int32) (flt : Int32) (tape_m : Int32) (tape_f : Nat → Int32) (codes_m : Int32) (codes_f : Nat → Int32) (op : Int32) (hkk : kk < 6) (u : (Int32 × Int32 × Int32 × (Nat → Int32))) (hF : F_X0_readOr (RS_rf 8) kk rat flt tape_m tape_f codes_m codes_f op = some u) : Kv G yX0_readOr (Cond.code yX0_readOr cX0_readOr 3 none :: TBL) { frames := 89, cells := 0, slots := 0, locals := 1949 } [.ref t, .int op] [(t, .inr (0, [.ref tape, .ref codes, .ref (xK G kk), .int rat, .int flt])), (tape, .inr (1, [.ref tape_q, .int tape_m])), (tape_q, .inl (xI G, 60, .inl tape_f)), (codes, .inr (1, [.ref codes_q, .int codes_m])), (codes_q, .inl (xI G, 60, .inl codes_f))] [(t, .inr (0, [.ref tape, .ref codes, .ref (xK G kk), .int u.1, .int u.2.1])), (tape, .inr (1, [.ref tape_q, .int tape_m])), (tape_q, .inl (xI G, 60, .inl tape_f)), (codes, .inr (1, [.ref codes_q, .int u.2.2.1])), (codes_q, .inl (xI G, 60, .inl u.2.2.2))] := c_X0_readOr G 80 1752 (RS_rf 8) (cz_rf G) t tape codes tape_q codes_q kk rat flt tape_m tape_f codes_m codes_f op hkk u hF
def F_X0_faultOf (tape_m : Int32) (tape_f : Nat → Int32) (codes_f : Nat → Int32) (ks : Nat) : Option (Int32 × Nat × Int32 × Int32 × Int32 × (Nat → Int32)) := bd (F_X1_clear) (fun (u1 : Int32) => bd (F_X0_readOr (RS_rf 8) ks (0 : Int32) (0 : Int32) tape_m tape_f u1 codes_f (0 : Int32)) (fun (u2 : (Int32 × Int32 × Int32 × (Nat → Int32))) => if u2.2.1 = 0 then (bd (F_X1_many tape_m) (fun (u3 : Int32) => if u3 ≤ u2.1 then (some ((-1 : Int32), ks, u2.1, u2.2.1, u2.2.2.1, u2.2.2.2)) else (some (u2.1, ks, u2.1, u2.2.1, u2.2.2.1, u2.2.2.2)))) else (some (u2.1, ks, u2.1, u2.2.1, u2.2.2.1, u2.2.2.2))))
theorem hdX0_faultOf : yX0_faultOf.cls ≠ "java/lang/invoke/MethodHandle" ∧ yX0_faultOf.cls ≠ "java/lang/invoke/VarHandle" ∧ (parseMethodDescriptor yX0_faultOf.desc).map (fun d => d.parameters.length) = some 1 := by decide +kernel
set_option maxHeartbeats 4000000 in
set_option maxRecDepth 100000 in
theorem c_X0_faultOf (G : xG) (t : Nat) (tape : Nat) (codes : Nat) (tape_q : Nat) (codes_q : Nat) (kk : Nat) (rat : Int32) (flt : Int32) (tape_m : Int32) (tape_f : Nat → Int32) (codes_m : Int32) (codes_f : Nat → Int32) (ks : Nat) (hkk : ks < 6) (u : (Int32 × Nat × Int32 × Int32 × Int32 × (Nat → Int32))) (hF : F_X0_faultOf tape_m tape_f codes_f ks = some u) : Ki G .int yX0_faultOf (Cond.code yX0_faultOf cX0_faultOf 2 (some .int) :: TBL) { frames := 90, cells := 0, slots := 0, locals := 1971 } [.ref t, .ref (xK G ks)] [(t, .inr (0, [.ref tape, .ref codes, .ref (xK G kk), .int rat, .int flt])), (tape, .inr (1, [.ref tape_q, .int tape_m])), (tape_q, .inl (xI G, 60, .inl tape_f)), (codes, .inr (1, [.ref codes_q, .int codes_m])), (codes_q, .inl (xI G, 60, .inl codes_f))] [(t, .inr (0, [.ref tape, .ref codes, .ref (xK G u.2.1), .int u.2.2.1, .int u.2.2.2.1])), (tape, .inr (1, [.ref tape_q, .int tape_m])), (tape_q, .inl (xI G, 60, .inl tape_f)), (codes, .inr (1, [.ref codes_q, .int u.2.2.2.2.1])), (codes_q, .inl (xI G, 60, .inl u.2.2.2.2.2))] u.1 := by
  intro l sz
  refine Met.ofW (cc := cX0_faultOf) (maxL := 2) (ret := (some .int)) (by decide) rfl ?_
  intro p e s m args below meth c s₁ B hml hv
  obtain ⟨rfl, hsz, hP, hD0, hm⟩ := hv
  have hx := B.exec
  have hb := B.bytes
  have hr := B.returns
  have hts := atoms_spec (ws := Cond.code yX0_faultOf cX0_faultOf 2 (some .int) :: TBL) B.pre
  have hown : s.vm.findClass RX0 = some m.cls := findClass_of_methodNamed B.named
  have hlocks := B.notSynchronized
  subst hsz
  have hD := hD0.self (sz := s.heap.size)
  generalize hAe : va_A [(t, .inr (0, [.ref tape, .ref codes, .ref (xK G kk), .int rat, .int flt])), (tape, .inr (1, [.ref tape_q, .int tape_m])), (tape_q, .inl (xI G, 60, .inl tape_f)), (codes, .inr (1, [.ref codes_q, .int codes_m])), (codes_q, .inl (xI G, 60, .inl codes_f))] s.heap.size = A at hD hm ⊢
  have hA : ∀ q : Nat, s.heap.size ≤ q → A q := fun q h => by rw [← hAe]; exact Or.inr h
  have hK := hm.1
  have hZ : xAnd p m c cX0_faultOf 2 s _ (Cond.code yX0_faultOf cX0_faultOf 2 (some .int) :: TBL) RX0 G A := ⟨⟨hx, hb, hml, hown, hts⟩, tcons, hA, hm⟩
  have hP : va_P G.1 vwCl [(t, .inr (0, [.ref tape, .ref codes, .ref (xK G kk), .int rat, .int flt])), (tape, .inr (1, [.ref tape_q, .int tape_m])), (tape_q, .inl (xI G, 60, .inl tape_f)), (codes, .inr (1, [.ref codes_q, .int codes_m])), (codes_q, .inl (xI G, 60, .inl codes_f))] s.heap := hP
  have hl := lv_entry ([.ref t, .ref (xK G ks)]) (n := 2) (Nat.le_of_ble_eq_true rfl)
  rw [lg_entry_eq]
  generalize (lg_sl ([.ref t, .ref (xK G ks)]) ++ List.replicate (2 - (lg_sl ([.ref t, .ref (xK G ks)])).length) Slot.unset).toArray = ls at hl ⊢
  have hl : lv_has ls 2 [(0, .ref t), (1, .ref (xK G ks))] := hl
  generalize hQ : MQ below _ _ s _ _ _ = Q
  refine xGo (A := A) hP (fun H locs hP hS => ?_)
  unfold F_X0_faultOf at hF
  refine lv_aload_n hx hb dX0_faultOf_0 rfl (lv_at hl 0 rfl) ?_
  refine lv_aload_n hx hb dX0_faultOf_1 rfl (lv_at hl 1 rfl) ?_
  refine va_put (ci := 0) (v := .ref (xK G ks)) (ty := (.object "java/lang/String")) (C := RX0) (T := TX0) (N := 5) hx hb hts (fun w h => tcons w (xin0 w h)) tyX0 tyX0_ok nmX0 hown hK hP hD hS 0 rfl rfl 2 (by decide) (hts _ (tcons _ m93)) (fun _ h9 => h9) rfl (by decide +kernel) rfl rfl (Nat.le_of_ble_eq_true rfl) dX0_faultOf_2 (fun H locs hP hD hS => ?_)
  have hP : va_P G.1 vwCl [(t, .inr (0, [.ref tape, .ref codes, .ref (xK G ks), .int rat, .int flt])), (tape, .inr (1, [.ref tape_q, .int tape_m])), (tape_q, .inl (xI G, 60, .inl tape_f)), (codes, .inr (1, [.ref codes_q, .int codes_m])), (codes_q, .inl (xI G, 60, .inl codes_f))] H := hP
  have hD : va_D A [(t, .inr (0, [.ref tape, .ref codes, .ref (xK G ks), .int rat, .int flt])), (tape, .inr (1, [.ref tape_q, .int tape_m])), (tape_q, .inl (xI G, 60, .inl tape_f)), (codes, .inr (1, [.ref codes_q, .int codes_m])), (codes_q, .inl (xI G, 60, .inl codes_f))] := hD
  refine lv_aload_n hx hb dX0_faultOf_5 rfl (lv_at hl 0 rfl) ?_
  refine lv_iconst (v := 0) hx hb dX0_faultOf_6 (by decide) ?_
  refine va_put (ci := 0) (v := .int (0 : Int32)) (ty := .int) (C := RX0) (T := TX0) (N := 5) hx hb hts (fun w h => tcons w (xin0 w h)) tyX0 tyX0_ok nmX0 hown hK hP hD hS 0 rfl rfl 3 (by decide) (hts _ (tcons _ m94)) (fun _ h9 => h9) rfl (by decide +kernel) rfl rfl (Nat.le_of_ble_eq_true rfl) dX0_faultOf_7 (fun H locs hP hD hS => ?_)
  have hP : va_P G.1 vwCl [(t, .inr (0, [.ref tape, .ref codes, .ref (xK G ks), .int (0 : Int32), .int flt])), (tape, .inr (1, [.ref tape_q, .int tape_m])), (tape_q, .inl (xI G, 60, .inl tape_f)), (codes, .inr (1, [.ref codes_q, .int codes_m])), (codes_q, .inl (xI G, 60, .inl codes_f))] H := hP
  have hD : va_D A [(t, .inr (0, [.ref tape, .ref codes, .ref (xK G ks), .int (0 : Int32), .int flt])), (tape, .inr (1, [.ref tape_q, .int tape_m])), (tape_q, .inl (xI G, 60, .inl tape_f)), (codes, .inr (1, [.ref codes_q, .int codes_m])), (codes_q, .inl (xI G, 60, .inl codes_f))] := hD
  refine lv_aload_n hx hb dX0_faultOf_10 rfl (lv_at hl 0 rfl) ?_
  refine lv_iconst (v := 0) hx hb dX0_faultOf_11 (by decide) ?_
  refine va_put (ci := 0) (v := .int (0 : Int32)) (ty := .boolean) (C := RX0) (T := TX0) (N := 5) hx hb hts (fun w h => tcons w (xin0 w h)) tyX0 tyX0_ok nmX0 hown hK hP hD hS 0 rfl rfl 4 (by decide) (hts _ (tcons _ m95)) (fun _ h9 => h9) rfl (by decide +kernel) (by decide) (by decide) (Nat.le_of_ble_eq_true rfl) dX0_faultOf_12 (fun H locs hP hD hS => ?_)
  have hP : va_P G.1 vwCl [(t, .inr (0, [.ref tape, .ref codes, .ref (xK G ks), .int (0 : Int32), .int (0 : Int32)])), (tape, .inr (1, [.ref tape_q, .int tape_m])), (tape_q, .inl (xI G, 60, .inl tape_f)), (codes, .inr (1, [.ref codes_q, .int codes_m])), (codes_q, .inl (xI G, 60, .inl codes_f))] H := hP
  have hD : va_D A [(t, .inr (0, [.ref tape, .ref codes, .ref (xK G ks), .int (0 : Int32), .int (0 : Int32)])), (tape, .inr (1, [.ref tape_q, .int tape_m])), (tape_q, .inl (xI G, 60, .inl tape_f)), (codes, .inr (1, [.ref codes_q, .int codes_m])), (codes_q, .inl (xI G, 60, .inl codes_f))] := hD
  refine lv_aload_n hx hb dX0_faultOf_15 rfl (lv_at hl 0 rfl) ?_
  refine va_get (ci := 0) (v := .ref codes) (C := RX0) (T := TX0) (N := 5) hx hb hts (fun w h => tcons w (xin0 w h)) hown hK hP 0 rfl rfl 1 (by decide) (hts _ (tcons _ m92)) (fun _ h9 => h9) rfl dX0_faultOf_16 ?_
  obtain ⟨u1, e1, hF⟩ := bdS hF
  refine xEndV (xRunV (As := []) (rest := []) hZ (c_X1_clear G codes codes_q codes_m u1 e1 l H.size) m501 m252 m253 m49 m254 0 ⟨rfl, hdX1_clear⟩ ⟨Nat.le_of_ble_eq_true rfl, Nat.le_of_ble_eq_true rfl⟩ ⟨rfl, rfl⟩ hP hD hS 3 1 rfl rfl rfl [3] rfl rfl rfl hl.1 rfl (Nat.le_of_ble_eq_true rfl) dX0_faultOf_19 ⟨Nat.zero_le _, Nat.zero_le _⟩) hP hD hS hA [3] rfl rfl rfl (fun H locs hP hD hS => ?_)
  have hP : va_P G.1 vwCl [(t, .inr (0, [.ref tape, .ref codes, .ref (xK G ks), .int (0 : Int32), .int (0 : Int32)])), (tape, .inr (1, [.ref tape_q, .int tape_m])), (tape_q, .inl (xI G, 60, .inl tape_f)), (codes, .inr (1, [.ref codes_q, .int u1])), (codes_q, .inl (xI G, 60, .inl codes_f))] H := hP
  have hD : va_D A [(t, .inr (0, [.ref tape, .ref codes, .ref (xK G ks), .int (0 : Int32), .int (0 : Int32)])), (tape, .inr (1, [.ref tape_q, .int tape_m])), (tape_q, .inl (xI G, 60, .inl tape_f)), (codes, .inr (1, [.ref codes_q, .int u1])), (codes_q, .inl (xI G, 60, .inl codes_f))] := hD
  refine lv_aload_n hx hb dX0_faultOf_22 rfl (lv_at hl 0 rfl) ?_
  refine lv_iconst (v := 0) hx hb dX0_faultOf_23 (by decide) ?_
  obtain ⟨u2, e2, hF⟩ := bdS hF
  refine xEndV (xRunV (As := [.int (0 : Int32)]) (rest := []) hZ (cz_X0_readOr G t tape codes tape_q codes_q ks (0 : Int32) (0 : Int32) tape_m tape_f u1 codes_f (0 : Int32) hkk u2 e2 l H.size) m502 m503 m504 m26 m505 1 ⟨rfl, hdX0_readOr⟩ ⟨Nat.le_of_ble_eq_true rfl, Nat.le_of_ble_eq_true rfl⟩ ⟨rfl, rfl⟩ hP hD hS 0 0 rfl rfl rfl [0, 1, 2, 3, 4] rfl rfl rfl hl.1 rfl (Nat.le_of_ble_eq_true rfl) dX0_faultOf_24 ⟨Nat.zero_le _, Nat.zero_le _⟩) hP hD hS hA [0, 1, 2, 3, 4] rfl rfl rfl (fun H locs hP hD hS => ?_)
  have hP : va_P G.1 vwCl [(t, .inr (0, [.ref tape, .ref codes, .ref (xK G ks), .int u2.1, .int u2.2.1])), (tape, .inr (1, [.ref tape_q, .int tape_m])), (tape_q, .inl (xI G, 60, .inl tape_f)), (codes, .inr (1, [.ref codes_q, .int u2.2.2.1])), (codes_q, .inl (xI G, 60, .inl u2.2.2.2))] H := hP
  have hD : va_D A [(t, .inr (0, [.ref tape, .ref codes, .ref (xK G ks), .int u2.1, .int u2.2.1])), (tape, .inr (1, [.ref tape_q, .int tape_m])), (tape_q, .inl (xI G, 60, .inl tape_f)), (codes, .inr (1, [.ref codes_q, .int u2.2.2.1])), (codes_q, .inl (xI G, 60, .inl u2.2.2.2))] := hD
  refine lv_aload_n hx hb dX0_faultOf_27 rfl (lv_at hl 0 rfl) ?_
  refine va_get (ci := 0) (v := .int u2.2.1) (C := RX0) (T := TX0) (N := 5) hx hb hts (fun w h => tcons w (xin0 w h)) hown hK hP 0 rfl rfl 4 (by decide) (hts _ (tcons _ m95)) (fun _ h9 => h9) rfl dX0_faultOf_28 ?_
  refine lv_if_ne (tgt := 48) hx hb dX0_faultOf_31 (by decide) (fun c31 => ?_) (fun c31 => ?_)
  · have hF := itN c31 hF
    refine lv_aload_n hx hb dX0_faultOf_48 rfl (lv_at hl 0 rfl) ?_
    refine va_get (ci := 0) (v := .int u2.1) (C := RX0) (T := TX0) (N := 5) hx hb hts (fun w h => tcons w (xin0 w h)) hown hK hP 0 rfl rfl 3 (by decide) (hts _ (tcons _ m94)) (fun _ h9 => h9) rfl dX0_faultOf_49 ?_
    refine lv_goto (tgt := 56) hx hb dX0_faultOf_52 (by decide) ?_
    obtain rfl := Option.some.inj hF
    rw [← hQ]
    exact W.iret (v := u2.1) hx hb hr (fun t ht hW => ⟨⟨_, (), rfl, ⟨rfl, rfl⟩, xLf hP ht⟩, hS.F ht⟩) hS.2.2 dX0_faultOf_56
  · have hF := itP c31 hF
    refine lv_aload_n hx hb dX0_faultOf_34 rfl (lv_at hl 0 rfl) ?_
    refine va_get (ci := 0) (v := .int u2.1) (C := RX0) (T := TX0) (N := 5) hx hb hts (fun w h => tcons w (xin0 w h)) hown hK hP 0 rfl rfl 3 (by decide) (hts _ (tcons _ m94)) (fun _ h9 => h9) rfl dX0_faultOf_35 ?_
    refine lv_aload_n hx hb dX0_faultOf_38 rfl (lv_at hl 0 rfl) ?_
    refine va_get (ci := 0) (v := .ref tape) (C := RX0) (T := TX0) (N := 5) hx hb hts (fun w h => tcons w (xin0 w h)) hown hK hP 0 rfl rfl 0 (by decide) (hts _ (tcons _ m96)) (fun _ h9 => h9) rfl dX0_faultOf_39 ?_
    obtain ⟨u3, e3, hF⟩ := bdS hF
    refine xEndI (xRunV (As := []) (rest := [.int u2.1]) hZ (c_X1_many G tape tape_q tape_m u3 e3 l H.size) m653 m126 m127 m49 m128 0 ⟨rfl, hdX1_many⟩ ⟨Nat.le_of_ble_eq_true rfl, Nat.le_of_ble_eq_true rfl⟩ ⟨rfl, rfl⟩ hP hD hS 1 1 rfl rfl rfl [1] rfl rfl rfl hl.1 rfl (Nat.le_of_ble_eq_true rfl) dX0_faultOf_42 ⟨Nat.zero_le _, Nat.zero_le _⟩) hP hD hS hA [1] rfl rfl rfl (fun H locs n3 hP hD hS => ?_)
    have hP : va_P G.1 vwCl [(t, .inr (0, [.ref tape, .ref codes, .ref (xK G ks), .int u2.1, .int u2.2.1])), (tape, .inr (1, [.ref tape_q, .int tape_m])), (tape_q, .inl (xI G, 60, .inl tape_f)), (codes, .inr (1, [.ref codes_q, .int u2.2.2.1])), (codes_q, .inl (xI G, 60, .inl u2.2.2.2))] H := hP
    have hD : va_D A [(t, .inr (0, [.ref tape, .ref codes, .ref (xK G ks), .int u2.1, .int u2.2.1])), (tape, .inr (1, [.ref tape_q, .int tape_m])), (tape_q, .inl (xI G, 60, .inl tape_f)), (codes, .inr (1, [.ref codes_q, .int u2.2.2.1])), (codes_q, .inl (xI G, 60, .inl u2.2.2.2))] := hD
    refine lv_icmp_ge (tgt := 55) hx hb dX0_faultOf_45 (by decide) (fun c45 => ?_) (fun c45 => ?_)
    · have hF := itP c45 hF
      refine lv_iconst (v := -1) hx hb dX0_faultOf_55 (by decide) ?_
      obtain rfl := Option.some.inj hF
      rw [← hQ]
      exact W.iret (v := (-1 : Int32)) hx hb hr (fun t ht hW => ⟨⟨_, (), rfl, ⟨rfl, rfl⟩, xLf hP ht⟩, hS.F ht⟩) hS.2.2 dX0_faultOf_56
    · have hF := itN c45 hF
      refine lv_aload_n hx hb dX0_faultOf_48 rfl (lv_at hl 0 rfl) ?_
      refine va_get (ci := 0) (v := .int u2.1) (C := RX0) (T := TX0) (N := 5) hx hb hts (fun w h => tcons w (xin0 w h)) hown hK hP 0 rfl rfl 3 (by decide) (hts _ (tcons _ m94)) (fun _ h9 => h9) rfl dX0_faultOf_49 ?_
      refine lv_goto (tgt := 56) hx hb dX0_faultOf_52 (by decide) ?_
      obtain rfl := Option.some.inj hF
      rw [← hQ]
      exact W.iret (v := u2.1) hx hb hr (fun t ht hW => ⟨⟨_, (), rfl, ⟨rfl, rfl⟩, xLf hP ht⟩, hS.F ht⟩) hS.2.2 dX0_faultOf_56
