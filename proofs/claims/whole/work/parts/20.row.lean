def F_X7_within (v : Int32) (lo : Int32) (hi : Int32) : Option Int32 := if v < lo then (some (0 : Int32)) else (if hi < v then (some (0 : Int32)) else (some (1 : Int32)))
theorem hdX7_within : yX7_within.cls ≠ "java/lang/invoke/MethodHandle" ∧ yX7_within.cls ≠ "java/lang/invoke/VarHandle" ∧ (parseMethodDescriptor yX7_within.desc).map (fun d => d.parameters.length) = some 3 := by decide +kernel
set_option maxHeartbeats 4000000 in
set_option maxRecDepth 100000 in
theorem c_X7_within (G : xG) (v : Int32) (lo : Int32) (hi : Int32)  (u : Int32) (hF : F_X7_within v lo hi = some u) : Ki G .boolean yX7_within (Cond.code yX7_within cX7_within 3 (some .boolean) :: TBL) { frames := 0, cells := 0, slots := 0, locals := 0 } [.int v, .int lo, .int hi] [] [] u := by
  intro l sz
  refine Met.ofW (cc := cX7_within) (maxL := 3) (ret := (some .boolean)) (by decide) rfl ?_
  intro p e s m args below meth c s₁ B hml hv
  obtain ⟨rfl, hsz, hP, hD0, hm⟩ := hv
  have hx := B.exec
  have hb := B.bytes
  have hr := B.returns
  have hts := atoms_spec (ws := Cond.code yX7_within cX7_within 3 (some .boolean) :: TBL) B.pre
  have hown : s.vm.findClass RX7 = some m.cls := findClass_of_methodNamed B.named
  have hlocks := B.notSynchronized
  subst hsz
  have hD := hD0.self (sz := s.heap.size)
  generalize hAe : va_A [] s.heap.size = A at hD hm ⊢
  have hA : ∀ q : Nat, s.heap.size ≤ q → A q := fun q h => by rw [← hAe]; exact Or.inr h
  have hK := hm.1
  have hZ : xAnd p m c cX7_within 3 s _ (Cond.code yX7_within cX7_within 3 (some .boolean) :: TBL) RX7 G A := ⟨⟨hx, hb, hml, hown, hts⟩, tcons, hA, hm⟩
  have hP : va_P G.1 vwCl [] s.heap := hP
  have hl := lv_entry ([.int v, .int lo, .int hi]) (n := 3) (Nat.le_of_ble_eq_true rfl)
  rw [lg_entry_eq]
  generalize (lg_sl ([.int v, .int lo, .int hi]) ++ List.replicate (3 - (lg_sl ([.int v, .int lo, .int hi])).length) Slot.unset).toArray = ls at hl ⊢
  have hl : lv_has ls 3 [(0, .int v), (1, .int lo), (2, .int hi)] := hl
  generalize hQ : MQ below _ _ s _ _ _ = Q
  refine xGo (A := A) hP (fun H locs hP hS => ?_)
  unfold F_X7_within at hF
  refine lv_iload_n hx hb dX7_within_0 rfl (lv_at hl 0 rfl) ?_
  refine lv_iload_n hx hb dX7_within_1 rfl (lv_at hl 1 rfl) ?_
  refine lv_icmp_lt (tgt := 14) hx hb dX7_within_2 (by decide) (fun c2 => ?_) (fun c2 => ?_)
  · have hF := itP c2 hF
    refine lv_iconst (v := 0) hx hb dX7_within_14 (by decide) ?_
    obtain rfl := Option.some.inj hF
    rw [← hQ]
    exact W.zret (v := (0 : Int32)) hx hb hr (show narrow .boolean (.int (0 : Int32)) = .int (0 : Int32) from by decide) (fun t ht hW => ⟨⟨_, (), rfl, ⟨rfl, (show narrow .boolean (.int (0 : Int32)) = .int (0 : Int32) from by decide)⟩, xLf hP ht⟩, hS.F ht⟩) hS.2.2 dX7_within_15
  · have hF := itN c2 hF
    refine lv_iload_n hx hb dX7_within_5 rfl (lv_at hl 0 rfl) ?_
    refine lv_iload_n hx hb dX7_within_6 rfl (lv_at hl 2 rfl) ?_
    refine lv_icmp_gt (tgt := 14) hx hb dX7_within_7 (by decide) (fun c7 => ?_) (fun c7 => ?_)
    · have hF := itP c7 hF
      refine lv_iconst (v := 0) hx hb dX7_within_14 (by decide) ?_
      obtain rfl := Option.some.inj hF
      rw [← hQ]
      exact W.zret (v := (0 : Int32)) hx hb hr (show narrow .boolean (.int (0 : Int32)) = .int (0 : Int32) from by decide) (fun t ht hW => ⟨⟨_, (), rfl, ⟨rfl, (show narrow .boolean (.int (0 : Int32)) = .int (0 : Int32) from by decide)⟩, xLf hP ht⟩, hS.F ht⟩) hS.2.2 dX7_within_15
    · have hF := itN c7 hF
      refine lv_iconst (v := 1) hx hb dX7_within_10 (by decide) ?_
      refine lv_goto (tgt := 15) hx hb dX7_within_11 (by decide) ?_
      obtain rfl := Option.some.inj hF
      rw [← hQ]
      exact W.zret (v := (1 : Int32)) hx hb hr (show narrow .boolean (.int (1 : Int32)) = .int (1 : Int32) from by decide) (fun t ht hW => ⟨⟨_, (), rfl, ⟨rfl, (show narrow .boolean (.int (1 : Int32)) = .int (1 : Int32) from by decide)⟩, xLf hP ht⟩, hS.F ht⟩) hS.2.2 dX7_within_15
def F_X7_held (v : Int32) (lo : Int32) (hi : Int32) : Option Int32 := some (if lo < (if v < hi then v else hi) then (if v < hi then v else hi) else lo)
theorem hdX7_held : yX7_held.cls ≠ "java/lang/invoke/MethodHandle" ∧ yX7_held.cls ≠ "java/lang/invoke/VarHandle" ∧ (parseMethodDescriptor yX7_held.desc).map (fun d => d.parameters.length) = some 3 := by decide +kernel
set_option maxHeartbeats 4000000 in
set_option maxRecDepth 100000 in
theorem c_X7_held (G : xG) (v : Int32) (lo : Int32) (hi : Int32)  (u : Int32) (hF : F_X7_held v lo hi = some u) : Ki G .int yX7_held (Cond.code yX7_held cX7_held 3 (some .int) :: TBL) { frames := 1, cells := 0, slots := 0, locals := 40 } [.int v, .int lo, .int hi] [] [] u := by
  intro l sz
  refine Met.ofW (cc := cX7_held) (maxL := 3) (ret := (some .int)) (by decide) rfl ?_
  intro p e s m args below meth c s₁ B hml hv
  obtain ⟨rfl, hsz, hP, hD0, hm⟩ := hv
  have hx := B.exec
  have hb := B.bytes
  have hr := B.returns
  have hts := atoms_spec (ws := Cond.code yX7_held cX7_held 3 (some .int) :: TBL) B.pre
  have hown : s.vm.findClass RX7 = some m.cls := findClass_of_methodNamed B.named
  have hlocks := B.notSynchronized
  subst hsz
  have hD := hD0.self (sz := s.heap.size)
  generalize hAe : va_A [] s.heap.size = A at hD hm ⊢
  have hA : ∀ q : Nat, s.heap.size ≤ q → A q := fun q h => by rw [← hAe]; exact Or.inr h
  have hK := hm.1
  have hZ : xAnd p m c cX7_held 3 s _ (Cond.code yX7_held cX7_held 3 (some .int) :: TBL) RX7 G A := ⟨⟨hx, hb, hml, hown, hts⟩, tcons, hA, hm⟩
  have hP : va_P G.1 vwCl [] s.heap := hP
  have hl := lv_entry ([.int v, .int lo, .int hi]) (n := 3) (Nat.le_of_ble_eq_true rfl)
  rw [lg_entry_eq]
  generalize (lg_sl ([.int v, .int lo, .int hi]) ++ List.replicate (3 - (lg_sl ([.int v, .int lo, .int hi])).length) Slot.unset).toArray = ls at hl ⊢
  have hl : lv_has ls 3 [(0, .int v), (1, .int lo), (2, .int hi)] := hl
  generalize hQ : MQ below _ _ s _ _ _ = Q
  refine xGo (A := A) hP (fun H locs hP hS => ?_)
  unfold F_X7_held at hF
  refine lv_iload_n hx hb dX7_held_0 rfl (lv_at hl 1 rfl) ?_
  refine lv_iload_n hx hb dX7_held_1 rfl (lv_at hl 2 rfl) ?_
  refine lv_iload_n hx hb dX7_held_2 rfl (lv_at hl 0 rfl) ?_
  refine va_mmin hx hb (hml.trans hl.1.symm) hown (hts _ (tcons _ m272)) (hts _ (tcons _ m273)) (hts _ (tcons _ m69)) (hts _ (tcons _ m274)) (Nat.le_of_ble_eq_true rfl) (Nat.le_of_ble_eq_true rfl) (Nat.zero_le _) (Nat.zero_le _) dX7_held_3 ?_
  refine va_mmax hx hb (hml.trans hl.1.symm) hown (hts _ (tcons _ m275)) (hts _ (tcons _ m68)) (hts _ (tcons _ m69)) (hts _ (tcons _ m70)) (Nat.le_of_ble_eq_true rfl) (Nat.le_of_ble_eq_true rfl) (Nat.zero_le _) (Nat.zero_le _) dX7_held_6 ?_
  obtain rfl := Option.some.inj hF
  rw [← hQ]
  exact W.iret (v := (if lo < (if v < hi then v else hi) then (if v < hi then v else hi) else lo)) hx hb hr (fun t ht hW => ⟨⟨_, (), rfl, ⟨rfl, rfl⟩, xLf hP ht⟩, hS.F ht⟩) hS.2.2 dX7_held_9
def F_X7_isSaying (v : Int32) : Option Int32 := bd (F_X7_within v (0 : Int32) (63 : Int32)) (fun (u1 : Int32) => some u1)
theorem hdX7_isSaying : yX7_isSaying.cls ≠ "java/lang/invoke/MethodHandle" ∧ yX7_isSaying.cls ≠ "java/lang/invoke/VarHandle" ∧ (parseMethodDescriptor yX7_isSaying.desc).map (fun d => d.parameters.length) = some 1 := by decide +kernel
set_option maxHeartbeats 4000000 in
set_option maxRecDepth 100000 in
theorem c_X7_isSaying (G : xG) (v : Int32)  (u : Int32) (hF : F_X7_isSaying v = some u) : Ki G .boolean yX7_isSaying (Cond.code yX7_isSaying cX7_isSaying 1 (some .boolean) :: TBL) { frames := 1, cells := 0, slots := 0, locals := 22 } [.int v] [] [] u := by
  intro l sz
  refine Met.ofW (cc := cX7_isSaying) (maxL := 1) (ret := (some .boolean)) (by decide) rfl ?_
  intro p e s m args below meth c s₁ B hml hv
  obtain ⟨rfl, hsz, hP, hD0, hm⟩ := hv
  have hx := B.exec
  have hb := B.bytes
  have hr := B.returns
  have hts := atoms_spec (ws := Cond.code yX7_isSaying cX7_isSaying 1 (some .boolean) :: TBL) B.pre
  have hown : s.vm.findClass RX7 = some m.cls := findClass_of_methodNamed B.named
  have hlocks := B.notSynchronized
  subst hsz
  have hD := hD0.self (sz := s.heap.size)
  generalize hAe : va_A [] s.heap.size = A at hD hm ⊢
  have hA : ∀ q : Nat, s.heap.size ≤ q → A q := fun q h => by rw [← hAe]; exact Or.inr h
  have hK := hm.1
  have hZ : xAnd p m c cX7_isSaying 1 s _ (Cond.code yX7_isSaying cX7_isSaying 1 (some .boolean) :: TBL) RX7 G A := ⟨⟨hx, hb, hml, hown, hts⟩, tcons, hA, hm⟩
  have hP : va_P G.1 vwCl [] s.heap := hP
  have hl := lv_entry ([.int v]) (n := 1) (Nat.le_of_ble_eq_true rfl)
  rw [lg_entry_eq]
  generalize (lg_sl ([.int v]) ++ List.replicate (1 - (lg_sl ([.int v])).length) Slot.unset).toArray = ls at hl ⊢
  have hl : lv_has ls 1 [(0, .int v)] := hl
  generalize hQ : MQ below _ _ s _ _ _ = Q
  refine xGo (A := A) hP (fun H locs hP hS => ?_)
  unfold F_X7_isSaying at hF
  refine lv_iload_n hx hb dX7_isSaying_0 rfl (lv_at hl 0 rfl) ?_
  refine lv_iconst (v := 0) hx hb dX7_isSaying_1 (by decide) ?_
  refine lv_bipush (v := 63) hx hb dX7_isSaying_2 (by decide) ?_
  obtain ⟨u1, e1, hF⟩ := bdS hF
  refine xEndI (xRunS (As := [.int v, .int (0 : Int32), .int (63 : Int32)]) (rest := []) hZ (c_X7_within G v (0 : Int32) (63 : Int32) u1 e1 l H.size) m164 m165 m2 m166 3 hdX7_within ⟨Nat.le_of_ble_eq_true rfl, Nat.le_of_ble_eq_true rfl⟩ ⟨rfl, rfl⟩ hP hD hS [] rfl rfl rfl hl.1 rfl (Nat.le_of_ble_eq_true rfl) dX7_isSaying_4 ⟨Nat.zero_le _, Nat.zero_le _⟩) hP hD hS hA [] rfl rfl rfl (fun H locs n1 hP hD hS => ?_)
  have hP : va_P G.1 vwCl [] H := hP
  have hD : va_D A [] := hD
  obtain rfl := Option.some.inj hF
  rw [← hQ]
  exact W.zret (v := u1) hx hb hr n1 (fun t ht hW => ⟨⟨_, (), rfl, ⟨rfl, n1⟩, xLf hP ht⟩, hS.F ht⟩) hS.2.2 dX7_isSaying_7
def F_X7_isKindAndNumber (v : Int32) : Option Int32 := bd (F_X7_within v (0 : Int32) (69 : Int32)) (fun (u1 : Int32) => some u1)
theorem hdX7_isKindAndNumber : yX7_isKindAndNumber.cls ≠ "java/lang/invoke/MethodHandle" ∧ yX7_isKindAndNumber.cls ≠ "java/lang/invoke/VarHandle" ∧ (parseMethodDescriptor yX7_isKindAndNumber.desc).map (fun d => d.parameters.length) = some 1 := by decide +kernel
set_option maxHeartbeats 4000000 in
set_option maxRecDepth 100000 in
theorem c_X7_isKindAndNumber (G : xG) (v : Int32)  (u : Int32) (hF : F_X7_isKindAndNumber v = some u) : Ki G .boolean yX7_isKindAndNumber (Cond.code yX7_isKindAndNumber cX7_isKindAndNumber 1 (some .boolean) :: TBL) { frames := 1, cells := 0, slots := 0, locals := 22 } [.int v] [] [] u := by
  intro l sz
  refine Met.ofW (cc := cX7_isKindAndNumber) (maxL := 1) (ret := (some .boolean)) (by decide) rfl ?_
  intro p e s m args below meth c s₁ B hml hv
  obtain ⟨rfl, hsz, hP, hD0, hm⟩ := hv
  have hx := B.exec
  have hb := B.bytes
  have hr := B.returns
  have hts := atoms_spec (ws := Cond.code yX7_isKindAndNumber cX7_isKindAndNumber 1 (some .boolean) :: TBL) B.pre
  have hown : s.vm.findClass RX7 = some m.cls := findClass_of_methodNamed B.named
  have hlocks := B.notSynchronized
  subst hsz
  have hD := hD0.self (sz := s.heap.size)
  generalize hAe : va_A [] s.heap.size = A at hD hm ⊢
  have hA : ∀ q : Nat, s.heap.size ≤ q → A q := fun q h => by rw [← hAe]; exact Or.inr h
  have hK := hm.1
  have hZ : xAnd p m c cX7_isKindAndNumber 1 s _ (Cond.code yX7_isKindAndNumber cX7_isKindAndNumber 1 (some .boolean) :: TBL) RX7 G A := ⟨⟨hx, hb, hml, hown, hts⟩, tcons, hA, hm⟩
  have hP : va_P G.1 vwCl [] s.heap := hP
  have hl := lv_entry ([.int v]) (n := 1) (Nat.le_of_ble_eq_true rfl)
  rw [lg_entry_eq]
  generalize (lg_sl ([.int v]) ++ List.replicate (1 - (lg_sl ([.int v])).length) Slot.unset).toArray = ls at hl ⊢
  have hl : lv_has ls 1 [(0, .int v)] := hl
  generalize hQ : MQ below _ _ s _ _ _ = Q
  refine xGo (A := A) hP (fun H locs hP hS => ?_)
  unfold F_X7_isKindAndNumber at hF
  refine lv_iload_n hx hb dX7_isKindAndNumber_0 rfl (lv_at hl 0 rfl) ?_
  refine lv_iconst (v := 0) hx hb dX7_isKindAndNumber_1 (by decide) ?_
  refine lv_bipush (v := 69) hx hb dX7_isKindAndNumber_2 (by decide) ?_
  obtain ⟨u1, e1, hF⟩ := bdS hF
  refine xEndI (xRunS (As := [.int v, .int (0 : Int32), .int (69 : Int32)]) (rest := []) hZ (c_X7_within G v (0 : Int32) (69 : Int32) u1 e1 l H.size) m164 m165 m2 m166 3 hdX7_within ⟨Nat.le_of_ble_eq_true rfl, Nat.le_of_ble_eq_true rfl⟩ ⟨rfl, rfl⟩ hP hD hS [] rfl rfl rfl hl.1 rfl (Nat.le_of_ble_eq_true rfl) dX7_isKindAndNumber_4 ⟨Nat.zero_le _, Nat.zero_le _⟩) hP hD hS hA [] rfl rfl rfl (fun H locs n1 hP hD hS => ?_)
  have hP : va_P G.1 vwCl [] H := hP
  have hD : va_D A [] := hD
  obtain rfl := Option.some.inj hF
  rw [← hQ]
  exact W.zret (v := u1) hx hb hr n1 (fun t ht hW => ⟨⟨_, (), rfl, ⟨rfl, n1⟩, xLf hP ht⟩, hS.F ht⟩) hS.2.2 dX7_isKindAndNumber_7
def F_X7_isWidth (v : Int32) : Option Int32 := if v = 0 then (some (1 : Int32)) else (if v = (8 : Int32) then (some (1 : Int32)) else (if v = (16 : Int32) then (some (1 : Int32)) else (if v = (32 : Int32) then (some (1 : Int32)) else (some (0 : Int32)))))
theorem hdX7_isWidth : yX7_isWidth.cls ≠ "java/lang/invoke/MethodHandle" ∧ yX7_isWidth.cls ≠ "java/lang/invoke/VarHandle" ∧ (parseMethodDescriptor yX7_isWidth.desc).map (fun d => d.parameters.length) = some 1 := by decide +kernel
set_option maxHeartbeats 4000000 in
set_option maxRecDepth 100000 in
theorem c_X7_isWidth (G : xG) (v : Int32)  (u : Int32) (hF : F_X7_isWidth v = some u) : Ki G .boolean yX7_isWidth (Cond.code yX7_isWidth cX7_isWidth 1 (some .boolean) :: TBL) { frames := 0, cells := 0, slots := 0, locals := 0 } [.int v] [] [] u := by
  intro l sz
  refine Met.ofW (cc := cX7_isWidth) (maxL := 1) (ret := (some .boolean)) (by decide) rfl ?_
  intro p e s m args below meth c s₁ B hml hv
  obtain ⟨rfl, hsz, hP, hD0, hm⟩ := hv
  have hx := B.exec
  have hb := B.bytes
  have hr := B.returns
  have hts := atoms_spec (ws := Cond.code yX7_isWidth cX7_isWidth 1 (some .boolean) :: TBL) B.pre
  have hown : s.vm.findClass RX7 = some m.cls := findClass_of_methodNamed B.named
  have hlocks := B.notSynchronized
  subst hsz
  have hD := hD0.self (sz := s.heap.size)
  generalize hAe : va_A [] s.heap.size = A at hD hm ⊢
  have hA : ∀ q : Nat, s.heap.size ≤ q → A q := fun q h => by rw [← hAe]; exact Or.inr h
  have hK := hm.1
  have hZ : xAnd p m c cX7_isWidth 1 s _ (Cond.code yX7_isWidth cX7_isWidth 1 (some .boolean) :: TBL) RX7 G A := ⟨⟨hx, hb, hml, hown, hts⟩, tcons, hA, hm⟩
  have hP : va_P G.1 vwCl [] s.heap := hP
  have hl := lv_entry ([.int v]) (n := 1) (Nat.le_of_ble_eq_true rfl)
  rw [lg_entry_eq]
  generalize (lg_sl ([.int v]) ++ List.replicate (1 - (lg_sl ([.int v])).length) Slot.unset).toArray = ls at hl ⊢
  have hl : lv_has ls 1 [(0, .int v)] := hl
  generalize hQ : MQ below _ _ s _ _ _ = Q
  refine xGo (A := A) hP (fun H locs hP hS => ?_)
  unfold F_X7_isWidth at hF
  refine lv_iload_n hx hb dX7_isWidth_0 rfl (lv_at hl 0 rfl) ?_
  refine lv_if_eq (tgt := 22) hx hb dX7_isWidth_1 (by decide) (fun c1 => ?_) (fun c1 => ?_)
  · have hF := itP c1 hF
    refine lv_iconst (v := 1) hx hb dX7_isWidth_22 (by decide) ?_
    refine lv_goto (tgt := 27) hx hb dX7_isWidth_23 (by decide) ?_
    obtain rfl := Option.some.inj hF
    rw [← hQ]
    exact W.zret (v := (1 : Int32)) hx hb hr (show narrow .boolean (.int (1 : Int32)) = .int (1 : Int32) from by decide) (fun t ht hW => ⟨⟨_, (), rfl, ⟨rfl, (show narrow .boolean (.int (1 : Int32)) = .int (1 : Int32) from by decide)⟩, xLf hP ht⟩, hS.F ht⟩) hS.2.2 dX7_isWidth_27
  · have hF := itN c1 hF
    refine lv_iload_n hx hb dX7_isWidth_4 rfl (lv_at hl 0 rfl) ?_
    refine lv_bipush (v := 8) hx hb dX7_isWidth_5 (by decide) ?_
    refine lv_icmp_eq (tgt := 22) hx hb dX7_isWidth_7 (by decide) (fun c7 => ?_) (fun c7 => ?_)
    · have hF := itP c7 hF
      refine lv_iconst (v := 1) hx hb dX7_isWidth_22 (by decide) ?_
      refine lv_goto (tgt := 27) hx hb dX7_isWidth_23 (by decide) ?_
      obtain rfl := Option.some.inj hF
      rw [← hQ]
      exact W.zret (v := (1 : Int32)) hx hb hr (show narrow .boolean (.int (1 : Int32)) = .int (1 : Int32) from by decide) (fun t ht hW => ⟨⟨_, (), rfl, ⟨rfl, (show narrow .boolean (.int (1 : Int32)) = .int (1 : Int32) from by decide)⟩, xLf hP ht⟩, hS.F ht⟩) hS.2.2 dX7_isWidth_27
    · have hF := itN c7 hF
      refine lv_iload_n hx hb dX7_isWidth_10 rfl (lv_at hl 0 rfl) ?_
      refine lv_bipush (v := 16) hx hb dX7_isWidth_11 (by decide) ?_
      refine lv_icmp_eq (tgt := 22) hx hb dX7_isWidth_13 (by decide) (fun c13 => ?_) (fun c13 => ?_)
      · have hF := itP c13 hF
        refine lv_iconst (v := 1) hx hb dX7_isWidth_22 (by decide) ?_
        refine lv_goto (tgt := 27) hx hb dX7_isWidth_23 (by decide) ?_
        obtain rfl := Option.some.inj hF
        rw [← hQ]
        exact W.zret (v := (1 : Int32)) hx hb hr (show narrow .boolean (.int (1 : Int32)) = .int (1 : Int32) from by decide) (fun t ht hW => ⟨⟨_, (), rfl, ⟨rfl, (show narrow .boolean (.int (1 : Int32)) = .int (1 : Int32) from by decide)⟩, xLf hP ht⟩, hS.F ht⟩) hS.2.2 dX7_isWidth_27
      · have hF := itN c13 hF
        refine lv_iload_n hx hb dX7_isWidth_16 rfl (lv_at hl 0 rfl) ?_
        refine lv_bipush (v := 32) hx hb dX7_isWidth_17 (by decide) ?_
        refine lv_icmp_ne (tgt := 26) hx hb dX7_isWidth_19 (by decide) (fun c19 => ?_) (fun c19 => ?_)
        · have hF := itN c19 hF
          refine lv_iconst (v := 0) hx hb dX7_isWidth_26 (by decide) ?_
          obtain rfl := Option.some.inj hF
          rw [← hQ]
          exact W.zret (v := (0 : Int32)) hx hb hr (show narrow .boolean (.int (0 : Int32)) = .int (0 : Int32) from by decide) (fun t ht hW => ⟨⟨_, (), rfl, ⟨rfl, (show narrow .boolean (.int (0 : Int32)) = .int (0 : Int32) from by decide)⟩, xLf hP ht⟩, hS.F ht⟩) hS.2.2 dX7_isWidth_27
        · have hF := itP c19 hF
          refine lv_iconst (v := 1) hx hb dX7_isWidth_22 (by decide) ?_
          refine lv_goto (tgt := 27) hx hb dX7_isWidth_23 (by decide) ?_
          obtain rfl := Option.some.inj hF
          rw [← hQ]
          exact W.zret (v := (1 : Int32)) hx hb hr (show narrow .boolean (.int (1 : Int32)) = .int (1 : Int32) from by decide) (fun t ht hW => ⟨⟨_, (), rfl, ⟨rfl, (show narrow .boolean (.int (1 : Int32)) = .int (1 : Int32) from by decide)⟩, xLf hP ht⟩, hS.F ht⟩) hS.2.2 dX7_isWidth_27
def B_X7_commonDivisor_7 (k7 : (Int32 × Int32 × Int32) → Option Int32) (v7 : (Int32 × Int32 × Int32)) : Option Int32 := if (100 : Int32) ≤ v7.2.2 then (some v7.1) else (if v7.2.1 = 0 then (some v7.1) else (if v7.2.1 = 0 then none else (k7 (v7.2.1, (v7.1 - v7.1 / v7.2.1 * v7.2.1), (v7.2.2 + (1 : Int32))))))
def F_X7_commonDivisor (a : Int32) (b : Int32) : Option Int32 := lp B_X7_commonDivisor_7 fuelC (a, b, (0 : Int32))
theorem hdX7_commonDivisor : yX7_commonDivisor.cls ≠ "java/lang/invoke/MethodHandle" ∧ yX7_commonDivisor.cls ≠ "java/lang/invoke/VarHandle" ∧ (parseMethodDescriptor yX7_commonDivisor.desc).map (fun d => d.parameters.length) = some 2 := by decide +kernel
set_option maxHeartbeats 4000000 in
set_option maxRecDepth 100000 in
theorem c_X7_commonDivisor (G : xG) (a : Int32) (b : Int32)  (u : Int32) (hF : F_X7_commonDivisor a b = some u) : Ki G .int yX7_commonDivisor (Cond.code yX7_commonDivisor cX7_commonDivisor 6 (some .int) :: TBL) { frames := 0, cells := 0, slots := 0, locals := 0 } [.int a, .int b] [] [] u := by
  intro l sz
  refine Met.ofW (cc := cX7_commonDivisor) (maxL := 6) (ret := (some .int)) (by decide) rfl ?_
  intro p e s m args below meth c s₁ B hml hv
  obtain ⟨rfl, hsz, hP, hD0, hm⟩ := hv
  have hx := B.exec
  have hb := B.bytes
  have hr := B.returns
  have hts := atoms_spec (ws := Cond.code yX7_commonDivisor cX7_commonDivisor 6 (some .int) :: TBL) B.pre
  have hown : s.vm.findClass RX7 = some m.cls := findClass_of_methodNamed B.named
  have hlocks := B.notSynchronized
  subst hsz
  have hD := hD0.self (sz := s.heap.size)
  generalize hAe : va_A [] s.heap.size = A at hD hm ⊢
  have hA : ∀ q : Nat, s.heap.size ≤ q → A q := fun q h => by rw [← hAe]; exact Or.inr h
  have hK := hm.1
  have hZ : xAnd p m c cX7_commonDivisor 6 s _ (Cond.code yX7_commonDivisor cX7_commonDivisor 6 (some .int) :: TBL) RX7 G A := ⟨⟨hx, hb, hml, hown, hts⟩, tcons, hA, hm⟩
  have hP : va_P G.1 vwCl [] s.heap := hP
  have hl := lv_entry ([.int a, .int b]) (n := 6) (Nat.le_of_ble_eq_true rfl)
  rw [lg_entry_eq]
  generalize (lg_sl ([.int a, .int b]) ++ List.replicate (6 - (lg_sl ([.int a, .int b])).length) Slot.unset).toArray = ls at hl ⊢
  have hl : lv_has ls 6 [(0, .int a), (1, .int b)] := hl
  generalize hQ : MQ below _ _ s _ _ _ = Q
  refine xGo (A := A) hP (fun H locs hP hS => ?_)
  unfold F_X7_commonDivisor at hF
  refine lv_iload_n hx hb dX7_commonDivisor_0 rfl (lv_at hl 0 rfl) ?_
  refine lv_istore_n (lv' := [(2, .int a), (0, .int a), (1, .int b)]) hx hb dX7_commonDivisor_1 rfl hl (by decide) rfl (fun ls hl => ?_)
  refine lv_iload_n hx hb dX7_commonDivisor_2 rfl (lv_at hl 2 rfl) ?_
  refine lv_istore_n (lv' := [(3, .int b), (2, .int a), (0, .int a), (1, .int b)]) hx hb dX7_commonDivisor_3 rfl hl (by decide) rfl (fun ls hl => ?_)
  refine lv_iconst (v := 0) hx hb dX7_commonDivisor_4 (by decide) ?_
  refine lv_istore (lv' := [(4, .int (0 : Int32)), (3, .int b), (2, .int a), (0, .int a), (1, .int b)]) hx hb dX7_commonDivisor_5 hl (by decide) rfl (fun ls hl => ?_)
  refine xLoop3 (body := B_X7_commonDivisor_7) (fun (v7_0 : Int32) (v7_1 : Int32) (v7_2 : Int32) H locs ls => va_P G.1 vwCl [] H ∧ va_D A [] ∧ va_S A s.heap H locs ∧ lv_has ls 6 [(0, .int a), (1, .int b), (2, .int v7_0), (3, .int v7_1), (4, .int v7_2)]) (fun N7 v7_0 v7_1 v7_2 ih7 H locs ls hI hF => ?_) fuelC a b (0 : Int32) H locs ls ⟨hP, hD, hS, lv_sub hl [3, 4, 2, 1, 0] rfl⟩ hF
  obtain ⟨hP, hD, hS, hl⟩ := hI
  unfold B_X7_commonDivisor_7 at hF
  refine lv_iload hx hb dX7_commonDivisor_7 (lv_at hl 4 rfl) ?_
  refine lv_bipush (v := 100) hx hb dX7_commonDivisor_9 (by decide) ?_
  refine lv_icmp_ge (tgt := 34) hx hb dX7_commonDivisor_11 (by decide) (fun c11 => ?_) (fun c11 => ?_)
  · have hF := itP c11 hF
    refine lv_iload_n hx hb dX7_commonDivisor_34 rfl (lv_at hl 2 rfl) ?_
    obtain rfl := Option.some.inj hF
    rw [← hQ]
    exact W.iret (v := v7_0) hx hb hr (fun t ht hW => ⟨⟨_, (), rfl, ⟨rfl, rfl⟩, xLf hP ht⟩, hS.F ht⟩) hS.2.2 dX7_commonDivisor_35
  · have hF := itN c11 hF
    refine lv_iload_n hx hb dX7_commonDivisor_14 rfl (lv_at hl 3 rfl) ?_
    refine lv_if_eq (tgt := 34) hx hb dX7_commonDivisor_15 (by decide) (fun c15 => ?_) (fun c15 => ?_)
    · have hF := itP c15 hF
      refine lv_iload_n hx hb dX7_commonDivisor_34 rfl (lv_at hl 2 rfl) ?_
      obtain rfl := Option.some.inj hF
      rw [← hQ]
      exact W.iret (v := v7_0) hx hb hr (fun t ht hW => ⟨⟨_, (), rfl, ⟨rfl, rfl⟩, xLf hP ht⟩, hS.F ht⟩) hS.2.2 dX7_commonDivisor_35
    · have hF := itN c15 hF
      refine lv_iload_n hx hb dX7_commonDivisor_18 rfl (lv_at hl 2 rfl) ?_
      refine lv_iload_n hx hb dX7_commonDivisor_19 rfl (lv_at hl 3 rfl) ?_
      obtain ⟨g20, hF⟩ := gdS hF
      refine lv_irem hx hb dX7_commonDivisor_20 g20 ?_
      refine lv_istore (lv' := [(5, .int (v7_0 - v7_0 / v7_1 * v7_1)), (0, .int a), (1, .int b), (2, .int v7_0), (3, .int v7_1), (4, .int v7_2)]) hx hb dX7_commonDivisor_21 hl (by decide) rfl (fun ls hl => ?_)
      refine lv_iload_n hx hb dX7_commonDivisor_23 rfl (lv_at hl 4 rfl) ?_
      refine lv_istore_n (lv' := [(2, .int v7_1), (5, .int (v7_0 - v7_0 / v7_1 * v7_1)), (0, .int a), (1, .int b), (3, .int v7_1), (4, .int v7_2)]) hx hb dX7_commonDivisor_24 rfl hl (by decide) rfl (fun ls hl => ?_)
      refine lv_iload hx hb dX7_commonDivisor_25 (lv_at hl 1 rfl) ?_
      refine lv_istore_n (lv' := [(3, .int (v7_0 - v7_0 / v7_1 * v7_1)), (2, .int v7_1), (5, .int (v7_0 - v7_0 / v7_1 * v7_1)), (0, .int a), (1, .int b), (4, .int v7_2)]) hx hb dX7_commonDivisor_27 rfl hl (by decide) rfl (fun ls hl => ?_)
      refine lv_iinc (v := (v7_2 + (1 : Int32))) (lv' := [(4, .int (v7_2 + (1 : Int32))), (3, .int (v7_0 - v7_0 / v7_1 * v7_1)), (2, .int v7_1), (5, .int (v7_0 - v7_0 / v7_1 * v7_1)), (0, .int a), (1, .int b)]) hx hb dX7_commonDivisor_28 hl (k := 5) rfl (xInc_1 _) (by decide) rfl (fun ls hl => ?_)
      refine lv_goto (tgt := 7) hx hb dX7_commonDivisor_31 (by decide) ?_
      exact ih7 v7_1 (v7_0 - v7_0 / v7_1 * v7_1) (v7_2 + (1 : Int32)) H locs ls ⟨hP, hD, hS, lv_sub hl [4, 5, 2, 1, 0] rfl⟩ hF
def F_X1_many (t_m : Int32) : Option Int32 := some t_m
theorem hdX1_many : yX1_many.cls ≠ "java/lang/invoke/MethodHandle" ∧ yX1_many.cls ≠ "java/lang/invoke/VarHandle" ∧ (parseMethodDescriptor yX1_many.desc).map (fun d => d.parameters.length) = some 0 := by decide +kernel
set_option maxHeartbeats 4000000 in
set_option maxRecDepth 100000 in
theorem c_X1_many (G : xG) (t : Nat) (t_q : Nat) (t_m : Int32)  (u : Int32) (hF : F_X1_many t_m = some u) : Ki G .int yX1_many (Cond.code yX1_many cX1_many 1 (some .int) :: TBL) { frames := 0, cells := 0, slots := 0, locals := 0 } [.ref t] [(t, .inr (1, [.ref t_q, .int t_m]))] [(t, .inr (1, [.ref t_q, .int t_m]))] u := by
  intro l sz
  refine Met.ofW (cc := cX1_many) (maxL := 1) (ret := (some .int)) (by decide) rfl ?_
  intro p e s m args below meth c s₁ B hml hv
  obtain ⟨rfl, hsz, hP, hD0, hm⟩ := hv
  have hx := B.exec
  have hb := B.bytes
  have hr := B.returns
  have hts := atoms_spec (ws := Cond.code yX1_many cX1_many 1 (some .int) :: TBL) B.pre
  have hown : s.vm.findClass RX1 = some m.cls := findClass_of_methodNamed B.named
  have hlocks := B.notSynchronized
  subst hsz
  have hD := hD0.self (sz := s.heap.size)
  generalize hAe : va_A [(t, .inr (1, [.ref t_q, .int t_m]))] s.heap.size = A at hD hm ⊢
  have hA : ∀ q : Nat, s.heap.size ≤ q → A q := fun q h => by rw [← hAe]; exact Or.inr h
  have hK := hm.1
  have hZ : xAnd p m c cX1_many 1 s _ (Cond.code yX1_many cX1_many 1 (some .int) :: TBL) RX1 G A := ⟨⟨hx, hb, hml, hown, hts⟩, tcons, hA, hm⟩
  have hP : va_P G.1 vwCl [(t, .inr (1, [.ref t_q, .int t_m]))] s.heap := hP
  have hl := lv_entry ([.ref t]) (n := 1) (Nat.le_of_ble_eq_true rfl)
  rw [lg_entry_eq]
  generalize (lg_sl ([.ref t]) ++ List.replicate (1 - (lg_sl ([.ref t])).length) Slot.unset).toArray = ls at hl ⊢
  have hl : lv_has ls 1 [(0, .ref t)] := hl
  generalize hQ : MQ below _ _ s _ _ _ = Q
  refine xGo (A := A) hP (fun H locs hP hS => ?_)
  unfold F_X1_many at hF
  refine lv_aload_n hx hb dX1_many_0 rfl (lv_at hl 0 rfl) ?_
  refine va_get (ci := 1) (v := .int t_m) (C := RX1) (T := TX1) (N := 2) hx hb hts (fun w h => tcons w (xin1 w h)) hown hK hP 0 rfl rfl 1 (by decide) (hts _ (tcons _ m66)) (fun _ h9 => h9) rfl dX1_many_1 ?_
  obtain rfl := Option.some.inj hF
  rw [← hQ]
  exact W.iret (v := t_m) hx hb hr (fun t ht hW => ⟨⟨_, (), rfl, ⟨rfl, rfl⟩, xLf hP ht⟩, hS.F ht⟩) hS.2.2 dX1_many_4
def F_X1_has (t_m : Int32) (i : Int32) : Option Int32 := if i < 0 then (some (0 : Int32)) else (if t_m ≤ i then (some (0 : Int32)) else (some (1 : Int32)))
theorem hdX1_has : yX1_has.cls ≠ "java/lang/invoke/MethodHandle" ∧ yX1_has.cls ≠ "java/lang/invoke/VarHandle" ∧ (parseMethodDescriptor yX1_has.desc).map (fun d => d.parameters.length) = some 1 := by decide +kernel
set_option maxHeartbeats 4000000 in
set_option maxRecDepth 100000 in
theorem c_X1_has (G : xG) (t : Nat) (t_q : Nat) (t_m : Int32) (i : Int32)  (u : Int32) (hF : F_X1_has t_m i = some u) : Ki G .boolean yX1_has (Cond.code yX1_has cX1_has 2 (some .boolean) :: TBL) { frames := 0, cells := 0, slots := 0, locals := 0 } [.ref t, .int i] [(t, .inr (1, [.ref t_q, .int t_m]))] [(t, .inr (1, [.ref t_q, .int t_m]))] u := by
  intro l sz
  refine Met.ofW (cc := cX1_has) (maxL := 2) (ret := (some .boolean)) (by decide) rfl ?_
  intro p e s m args below meth c s₁ B hml hv
  obtain ⟨rfl, hsz, hP, hD0, hm⟩ := hv
  have hx := B.exec
  have hb := B.bytes
  have hr := B.returns
  have hts := atoms_spec (ws := Cond.code yX1_has cX1_has 2 (some .boolean) :: TBL) B.pre
  have hown : s.vm.findClass RX1 = some m.cls := findClass_of_methodNamed B.named
  have hlocks := B.notSynchronized
  subst hsz
  have hD := hD0.self (sz := s.heap.size)
  generalize hAe : va_A [(t, .inr (1, [.ref t_q, .int t_m]))] s.heap.size = A at hD hm ⊢
  have hA : ∀ q : Nat, s.heap.size ≤ q → A q := fun q h => by rw [← hAe]; exact Or.inr h
  have hK := hm.1
  have hZ : xAnd p m c cX1_has 2 s _ (Cond.code yX1_has cX1_has 2 (some .boolean) :: TBL) RX1 G A := ⟨⟨hx, hb, hml, hown, hts⟩, tcons, hA, hm⟩
  have hP : va_P G.1 vwCl [(t, .inr (1, [.ref t_q, .int t_m]))] s.heap := hP
  have hl := lv_entry ([.ref t, .int i]) (n := 2) (Nat.le_of_ble_eq_true rfl)
  rw [lg_entry_eq]
  generalize (lg_sl ([.ref t, .int i]) ++ List.replicate (2 - (lg_sl ([.ref t, .int i])).length) Slot.unset).toArray = ls at hl ⊢
  have hl : lv_has ls 2 [(0, .ref t), (1, .int i)] := hl
  generalize hQ : MQ below _ _ s _ _ _ = Q
  refine xGo (A := A) hP (fun H locs hP hS => ?_)
  unfold F_X1_has at hF
  refine lv_iload_n hx hb dX1_has_0 rfl (lv_at hl 1 rfl) ?_
  refine lv_if_lt (tgt := 16) hx hb dX1_has_1 (by decide) (fun c1 => ?_) (fun c1 => ?_)
  · have hF := itP c1 hF
    refine lv_iconst (v := 0) hx hb dX1_has_16 (by decide) ?_
    obtain rfl := Option.some.inj hF
    rw [← hQ]
    exact W.zret (v := (0 : Int32)) hx hb hr (show narrow .boolean (.int (0 : Int32)) = .int (0 : Int32) from by decide) (fun t ht hW => ⟨⟨_, (), rfl, ⟨rfl, (show narrow .boolean (.int (0 : Int32)) = .int (0 : Int32) from by decide)⟩, xLf hP ht⟩, hS.F ht⟩) hS.2.2 dX1_has_17
  · have hF := itN c1 hF
    refine lv_iload_n hx hb dX1_has_4 rfl (lv_at hl 1 rfl) ?_
    refine lv_aload_n hx hb dX1_has_5 rfl (lv_at hl 0 rfl) ?_
    refine va_get (ci := 1) (v := .int t_m) (C := RX1) (T := TX1) (N := 2) hx hb hts (fun w h => tcons w (xin1 w h)) hown hK hP 0 rfl rfl 1 (by decide) (hts _ (tcons _ m66)) (fun _ h9 => h9) rfl dX1_has_6 ?_
    refine lv_icmp_ge (tgt := 16) hx hb dX1_has_9 (by decide) (fun c9 => ?_) (fun c9 => ?_)
    · have hF := itP c9 hF
      refine lv_iconst (v := 0) hx hb dX1_has_16 (by decide) ?_
      obtain rfl := Option.some.inj hF
      rw [← hQ]
      exact W.zret (v := (0 : Int32)) hx hb hr (show narrow .boolean (.int (0 : Int32)) = .int (0 : Int32) from by decide) (fun t ht hW => ⟨⟨_, (), rfl, ⟨rfl, (show narrow .boolean (.int (0 : Int32)) = .int (0 : Int32) from by decide)⟩, xLf hP ht⟩, hS.F ht⟩) hS.2.2 dX1_has_17
    · have hF := itN c9 hF
      refine lv_iconst (v := 1) hx hb dX1_has_12 (by decide) ?_
      refine lv_goto (tgt := 17) hx hb dX1_has_13 (by decide) ?_
      obtain rfl := Option.some.inj hF
      rw [← hQ]
      exact W.zret (v := (1 : Int32)) hx hb hr (show narrow .boolean (.int (1 : Int32)) = .int (1 : Int32) from by decide) (fun t ht hW => ⟨⟨_, (), rfl, ⟨rfl, (show narrow .boolean (.int (1 : Int32)) = .int (1 : Int32) from by decide)⟩, xLf hP ht⟩, hS.F ht⟩) hS.2.2 dX1_has_17
def F_X1_get (n : Nat) (t_m : Int32) (t_f : Nat → Int32) (i : Int32) : Option Int32 := if i < 0 then (some (0 : Int32)) else (if t_m ≤ i then (some (0 : Int32)) else (if (nI n) ≤ i then (some (0 : Int32)) else (if (i < 0 ∨ n ≤ i.toNatClampNeg) then none else (some (t_f i.toNatClampNeg)))))
theorem hdX1_get : yX1_get.cls ≠ "java/lang/invoke/MethodHandle" ∧ yX1_get.cls ≠ "java/lang/invoke/VarHandle" ∧ (parseMethodDescriptor yX1_get.desc).map (fun d => d.parameters.length) = some 1 := by decide +kernel
set_option maxHeartbeats 4000000 in
set_option maxRecDepth 100000 in
theorem c_X1_get (G : xG) (t : Nat) (t_q : Nat) (n : Nat) (t_m : Int32) (t_f : Nat → Int32) (i : Int32)  (u : Int32) (hF : F_X1_get n t_m t_f i = some u) : Ki G .int yX1_get (Cond.code yX1_get cX1_get 2 (some .int) :: TBL) { frames := 0, cells := 0, slots := 0, locals := 0 } [.ref t, .int i] [(t, .inr (1, [.ref t_q, .int t_m])), (t_q, .inl (xI G, n, .inl t_f))] [(t, .inr (1, [.ref t_q, .int t_m])), (t_q, .inl (xI G, n, .inl t_f))] u := by
  intro l sz
  refine Met.ofW (cc := cX1_get) (maxL := 2) (ret := (some .int)) (by decide) rfl ?_
  intro p e s m args below meth c s₁ B hml hv
  obtain ⟨rfl, hsz, hP, hD0, hm⟩ := hv
  have hx := B.exec
  have hb := B.bytes
  have hr := B.returns
  have hts := atoms_spec (ws := Cond.code yX1_get cX1_get 2 (some .int) :: TBL) B.pre
  have hown : s.vm.findClass RX1 = some m.cls := findClass_of_methodNamed B.named
  have hlocks := B.notSynchronized
  subst hsz
  have hD := hD0.self (sz := s.heap.size)
  generalize hAe : va_A [(t, .inr (1, [.ref t_q, .int t_m])), (t_q, .inl (xI G, n, .inl t_f))] s.heap.size = A at hD hm ⊢
  have hA : ∀ q : Nat, s.heap.size ≤ q → A q := fun q h => by rw [← hAe]; exact Or.inr h
  have hK := hm.1
  have hZ : xAnd p m c cX1_get 2 s _ (Cond.code yX1_get cX1_get 2 (some .int) :: TBL) RX1 G A := ⟨⟨hx, hb, hml, hown, hts⟩, tcons, hA, hm⟩
  have hP : va_P G.1 vwCl [(t, .inr (1, [.ref t_q, .int t_m])), (t_q, .inl (xI G, n, .inl t_f))] s.heap := hP
  have hl := lv_entry ([.ref t, .int i]) (n := 2) (Nat.le_of_ble_eq_true rfl)
  rw [lg_entry_eq]
  generalize (lg_sl ([.ref t, .int i]) ++ List.replicate (2 - (lg_sl ([.ref t, .int i])).length) Slot.unset).toArray = ls at hl ⊢
  have hl : lv_has ls 2 [(0, .ref t), (1, .int i)] := hl
  generalize hQ : MQ below _ _ s _ _ _ = Q
  refine xGo (A := A) hP (fun H locs hP hS => ?_)
  unfold F_X1_get at hF
  refine lv_iload_n hx hb dX1_get_0 rfl (lv_at hl 1 rfl) ?_
  refine lv_if_lt (tgt := 30) hx hb dX1_get_1 (by decide) (fun c1 => ?_) (fun c1 => ?_)
  · have hF := itP c1 hF
    refine lv_iconst (v := 0) hx hb dX1_get_30 (by decide) ?_
    obtain rfl := Option.some.inj hF
    rw [← hQ]
    exact W.iret (v := (0 : Int32)) hx hb hr (fun t ht hW => ⟨⟨_, (), rfl, ⟨rfl, rfl⟩, xLf hP ht⟩, hS.F ht⟩) hS.2.2 dX1_get_31
  · have hF := itN c1 hF
    refine lv_iload_n hx hb dX1_get_4 rfl (lv_at hl 1 rfl) ?_
    refine lv_aload_n hx hb dX1_get_5 rfl (lv_at hl 0 rfl) ?_
    refine va_get (ci := 1) (v := .int t_m) (C := RX1) (T := TX1) (N := 2) hx hb hts (fun w h => tcons w (xin1 w h)) hown hK hP 0 rfl rfl 1 (by decide) (hts _ (tcons _ m66)) (fun _ h9 => h9) rfl dX1_get_6 ?_
    refine lv_icmp_ge (tgt := 30) hx hb dX1_get_9 (by decide) (fun c9 => ?_) (fun c9 => ?_)
    · have hF := itP c9 hF
      refine lv_iconst (v := 0) hx hb dX1_get_30 (by decide) ?_
      obtain rfl := Option.some.inj hF
      rw [← hQ]
      exact W.iret (v := (0 : Int32)) hx hb hr (fun t ht hW => ⟨⟨_, (), rfl, ⟨rfl, rfl⟩, xLf hP ht⟩, hS.F ht⟩) hS.2.2 dX1_get_31
    · have hF := itN c9 hF
      refine lv_iload_n hx hb dX1_get_12 rfl (lv_at hl 1 rfl) ?_
      refine lv_aload_n hx hb dX1_get_13 rfl (lv_at hl 0 rfl) ?_
      refine va_get (ci := 1) (v := .ref t_q) (C := RX1) (T := TX1) (N := 2) hx hb hts (fun w h => tcons w (xin1 w h)) hown hK hP 0 rfl rfl 0 (by decide) (hts _ (tcons _ m71)) (fun _ h9 => h9) rfl dX1_get_14 ?_
      refine va_alen (v := (nI n)) hx hb hK hP 1 0 rfl rfl rfl dX1_get_17 ?_
      refine lv_icmp_ge (tgt := 30) hx hb dX1_get_18 (by decide) (fun c18 => ?_) (fun c18 => ?_)
      · have hF := itP c18 hF
        refine lv_iconst (v := 0) hx hb dX1_get_30 (by decide) ?_
        obtain rfl := Option.some.inj hF
        rw [← hQ]
        exact W.iret (v := (0 : Int32)) hx hb hr (fun t ht hW => ⟨⟨_, (), rfl, ⟨rfl, rfl⟩, xLf hP ht⟩, hS.F ht⟩) hS.2.2 dX1_get_31
      · have hF := itN c18 hF
        refine lv_aload_n hx hb dX1_get_21 rfl (lv_at hl 0 rfl) ?_
        refine va_get (ci := 1) (v := .ref t_q) (C := RX1) (T := TX1) (N := 2) hx hb hts (fun w h => tcons w (xin1 w h)) hown hK hP 0 rfl rfl 0 (by decide) (hts _ (tcons _ m71)) (fun _ h9 => h9) rfl dX1_get_22 ?_
        refine lv_iload_n hx hb dX1_get_25 rfl (lv_at hl 1 rfl) ?_
        obtain ⟨g26, hF⟩ := gdS hF
        refine va_iald hx hb hK hP 1 0 rfl rfl g26 dX1_get_26 ?_
        refine lv_goto (tgt := 31) hx hb dX1_get_27 (by decide) ?_
        obtain rfl := Option.some.inj hF
        rw [← hQ]
        exact W.iret (v := (t_f i.toNatClampNeg)) hx hb hr (fun t ht hW => ⟨⟨_, (), rfl, ⟨rfl, rfl⟩, xLf hP ht⟩, hS.F ht⟩) hS.2.2 dX1_get_31
def F_X1_set (n : Nat) (t_m : Int32) (t_f : Nat → Int32) (i : Int32) (v : Int32) : Option (Nat → Int32) := if i < 0 then (some t_f) else (if t_m ≤ i then (some t_f) else (if (nI n) ≤ i then (some t_f) else (if (i < 0 ∨ n ≤ i.toNatClampNeg) then none else (some (upd t_f i.toNatClampNeg v)))))
theorem hdX1_set : yX1_set.cls ≠ "java/lang/invoke/MethodHandle" ∧ yX1_set.cls ≠ "java/lang/invoke/VarHandle" ∧ (parseMethodDescriptor yX1_set.desc).map (fun d => d.parameters.length) = some 2 := by decide +kernel
set_option maxHeartbeats 4000000 in
set_option maxRecDepth 100000 in
theorem c_X1_set (G : xG) (t : Nat) (t_q : Nat) (n : Nat) (t_m : Int32) (t_f : Nat → Int32) (i : Int32) (v : Int32)  (u : (Nat → Int32)) (hF : F_X1_set n t_m t_f i v = some u) : Kv G yX1_set (Cond.code yX1_set cX1_set 3 none :: TBL) { frames := 0, cells := 0, slots := 0, locals := 0 } [.ref t, .int i, .int v] [(t, .inr (1, [.ref t_q, .int t_m])), (t_q, .inl (xI G, n, .inl t_f))] [(t, .inr (1, [.ref t_q, .int t_m])), (t_q, .inl (xI G, n, .inl u))] := by
  intro l sz
  refine Met.ofW (cc := cX1_set) (maxL := 3) (ret := none) (by decide) rfl ?_
  intro p e s m args below meth c s₁ B hml hv
  obtain ⟨rfl, hsz, hP, hD0, hm⟩ := hv
  have hx := B.exec
  have hb := B.bytes
  have hr := B.returns
  have hts := atoms_spec (ws := Cond.code yX1_set cX1_set 3 none :: TBL) B.pre
  have hown : s.vm.findClass RX1 = some m.cls := findClass_of_methodNamed B.named
  have hlocks := B.notSynchronized
  subst hsz
  have hD := hD0.self (sz := s.heap.size)
  generalize hAe : va_A [(t, .inr (1, [.ref t_q, .int t_m])), (t_q, .inl (xI G, n, .inl t_f))] s.heap.size = A at hD hm ⊢
  have hA : ∀ q : Nat, s.heap.size ≤ q → A q := fun q h => by rw [← hAe]; exact Or.inr h
  have hK := hm.1
  have hZ : xAnd p m c cX1_set 3 s _ (Cond.code yX1_set cX1_set 3 none :: TBL) RX1 G A := ⟨⟨hx, hb, hml, hown, hts⟩, tcons, hA, hm⟩
  have hP : va_P G.1 vwCl [(t, .inr (1, [.ref t_q, .int t_m])), (t_q, .inl (xI G, n, .inl t_f))] s.heap := hP
  have hl := lv_entry ([.ref t, .int i, .int v]) (n := 3) (Nat.le_of_ble_eq_true rfl)
  rw [lg_entry_eq]
  generalize (lg_sl ([.ref t, .int i, .int v]) ++ List.replicate (3 - (lg_sl ([.ref t, .int i, .int v])).length) Slot.unset).toArray = ls at hl ⊢
  have hl : lv_has ls 3 [(0, .ref t), (1, .int i), (2, .int v)] := hl
  generalize hQ : MQ below _ _ s _ _ _ = Q
  refine xGo (A := A) hP (fun H locs hP hS => ?_)
  unfold F_X1_set at hF
  refine lv_iload_n hx hb dX1_set_0 rfl (lv_at hl 1 rfl) ?_
  refine lv_if_lt (tgt := 28) hx hb dX1_set_1 (by decide) (fun c1 => ?_) (fun c1 => ?_)
  · have hF := itP c1 hF
    obtain rfl := Option.some.inj hF
    rw [← hQ]
    exact W.vret hx hb hr (fun t ht hW => ⟨⟨(), rfl, trivial, xLf hP ht⟩, hS.F ht⟩) hS.2.2 dX1_set_28
  · have hF := itN c1 hF
    refine lv_iload_n hx hb dX1_set_4 rfl (lv_at hl 1 rfl) ?_
    refine lv_aload_n hx hb dX1_set_5 rfl (lv_at hl 0 rfl) ?_
    refine va_get (ci := 1) (v := .int t_m) (C := RX1) (T := TX1) (N := 2) hx hb hts (fun w h => tcons w (xin1 w h)) hown hK hP 0 rfl rfl 1 (by decide) (hts _ (tcons _ m66)) (fun _ h9 => h9) rfl dX1_set_6 ?_
    refine lv_icmp_ge (tgt := 28) hx hb dX1_set_9 (by decide) (fun c9 => ?_) (fun c9 => ?_)
    · have hF := itP c9 hF
      obtain rfl := Option.some.inj hF
      rw [← hQ]
      exact W.vret hx hb hr (fun t ht hW => ⟨⟨(), rfl, trivial, xLf hP ht⟩, hS.F ht⟩) hS.2.2 dX1_set_28
    · have hF := itN c9 hF
      refine lv_iload_n hx hb dX1_set_12 rfl (lv_at hl 1 rfl) ?_
      refine lv_aload_n hx hb dX1_set_13 rfl (lv_at hl 0 rfl) ?_
      refine va_get (ci := 1) (v := .ref t_q) (C := RX1) (T := TX1) (N := 2) hx hb hts (fun w h => tcons w (xin1 w h)) hown hK hP 0 rfl rfl 0 (by decide) (hts _ (tcons _ m71)) (fun _ h9 => h9) rfl dX1_set_14 ?_
      refine va_alen (v := (nI n)) hx hb hK hP 1 0 rfl rfl rfl dX1_set_17 ?_
      refine lv_icmp_ge (tgt := 28) hx hb dX1_set_18 (by decide) (fun c18 => ?_) (fun c18 => ?_)
      · have hF := itP c18 hF
        obtain rfl := Option.some.inj hF
        rw [← hQ]
        exact W.vret hx hb hr (fun t ht hW => ⟨⟨(), rfl, trivial, xLf hP ht⟩, hS.F ht⟩) hS.2.2 dX1_set_28
      · have hF := itN c18 hF
        refine lv_aload_n hx hb dX1_set_21 rfl (lv_at hl 0 rfl) ?_
        refine va_get (ci := 1) (v := .ref t_q) (C := RX1) (T := TX1) (N := 2) hx hb hts (fun w h => tcons w (xin1 w h)) hown hK hP 0 rfl rfl 0 (by decide) (hts _ (tcons _ m71)) (fun _ h9 => h9) rfl dX1_set_22 ?_
        refine lv_iload_n hx hb dX1_set_25 rfl (lv_at hl 1 rfl) ?_
        refine lv_iload_n hx hb dX1_set_26 rfl (lv_at hl 2 rfl) ?_
        obtain ⟨g27, hF⟩ := gdS hF
        refine va_iast hx hb hK hP hD hS 1 0 rfl rfl g27 dX1_set_27 (fun H locs hP hD hS => ?_)
        have hP : va_P G.1 vwCl [(t, .inr (1, [.ref t_q, .int t_m])), (t_q, .inl (xI G, n, .inl (upd t_f i.toNatClampNeg v)))] H := hP
        have hD : va_D A [(t, .inr (1, [.ref t_q, .int t_m])), (t_q, .inl (xI G, n, .inl (upd t_f i.toNatClampNeg v)))] := hD
        obtain rfl := Option.some.inj hF
        rw [← hQ]
        exact W.vret hx hb hr (fun t ht hW => ⟨⟨(), rfl, trivial, xLf hP ht⟩, hS.F ht⟩) hS.2.2 dX1_set_28
def F_X1_add (n : Nat) (t_m : Int32) (t_f : Nat → Int32) (v : Int32) : Option (Int32 × (Nat → Int32)) := if t_m < 0 then (some (t_m, t_f)) else (if (nI n) ≤ t_m then (some (t_m, t_f)) else (if (t_m < 0 ∨ n ≤ t_m.toNatClampNeg) then none else (some ((t_m + (1 : Int32)), (upd t_f t_m.toNatClampNeg v)))))
theorem hdX1_add : yX1_add.cls ≠ "java/lang/invoke/MethodHandle" ∧ yX1_add.cls ≠ "java/lang/invoke/VarHandle" ∧ (parseMethodDescriptor yX1_add.desc).map (fun d => d.parameters.length) = some 1 := by decide +kernel
set_option maxHeartbeats 4000000 in
set_option maxRecDepth 100000 in
theorem c_X1_add (G : xG) (t : Nat) (t_q : Nat) (n : Nat) (t_m : Int32) (t_f : Nat → Int32) (v : Int32)  (u : (Int32 × (Nat → Int32))) (hF : F_X1_add n t_m t_f v = some u) : Kv G yX1_add (Cond.code yX1_add cX1_add 2 none :: TBL) { frames := 0, cells := 0, slots := 0, locals := 0 } [.ref t, .int v] [(t, .inr (1, [.ref t_q, .int t_m])), (t_q, .inl (xI G, n, .inl t_f))] [(t, .inr (1, [.ref t_q, .int u.1])), (t_q, .inl (xI G, n, .inl u.2))] := by
  intro l sz
  refine Met.ofW (cc := cX1_add) (maxL := 2) (ret := none) (by decide) rfl ?_
  intro p e s m args below meth c s₁ B hml hv
  obtain ⟨rfl, hsz, hP, hD0, hm⟩ := hv
  have hx := B.exec
  have hb := B.bytes
  have hr := B.returns
  have hts := atoms_spec (ws := Cond.code yX1_add cX1_add 2 none :: TBL) B.pre
  have hown : s.vm.findClass RX1 = some m.cls := findClass_of_methodNamed B.named
  have hlocks := B.notSynchronized
  subst hsz
  have hD := hD0.self (sz := s.heap.size)
  generalize hAe : va_A [(t, .inr (1, [.ref t_q, .int t_m])), (t_q, .inl (xI G, n, .inl t_f))] s.heap.size = A at hD hm ⊢
  have hA : ∀ q : Nat, s.heap.size ≤ q → A q := fun q h => by rw [← hAe]; exact Or.inr h
  have hK := hm.1
  have hZ : xAnd p m c cX1_add 2 s _ (Cond.code yX1_add cX1_add 2 none :: TBL) RX1 G A := ⟨⟨hx, hb, hml, hown, hts⟩, tcons, hA, hm⟩
  have hP : va_P G.1 vwCl [(t, .inr (1, [.ref t_q, .int t_m])), (t_q, .inl (xI G, n, .inl t_f))] s.heap := hP
  have hl := lv_entry ([.ref t, .int v]) (n := 2) (Nat.le_of_ble_eq_true rfl)
  rw [lg_entry_eq]
  generalize (lg_sl ([.ref t, .int v]) ++ List.replicate (2 - (lg_sl ([.ref t, .int v])).length) Slot.unset).toArray = ls at hl ⊢
  have hl : lv_has ls 2 [(0, .ref t), (1, .int v)] := hl
  generalize hQ : MQ below _ _ s _ _ _ = Q
  refine xGo (A := A) hP (fun H locs hP hS => ?_)
  unfold F_X1_add at hF
  refine lv_aload_n hx hb dX1_add_0 rfl (lv_at hl 0 rfl) ?_
  refine va_get (ci := 1) (v := .int t_m) (C := RX1) (T := TX1) (N := 2) hx hb hts (fun w h => tcons w (xin1 w h)) hown hK hP 0 rfl rfl 1 (by decide) (hts _ (tcons _ m66)) (fun _ h9 => h9) rfl dX1_add_1 ?_
  refine lv_if_lt (tgt := 39) hx hb dX1_add_4 (by decide) (fun c4 => ?_) (fun c4 => ?_)
  · have hF := itP c4 hF
    obtain rfl := Option.some.inj hF
    rw [← hQ]
    exact W.vret hx hb hr (fun t ht hW => ⟨⟨(), rfl, trivial, xLf hP ht⟩, hS.F ht⟩) hS.2.2 dX1_add_39
  · have hF := itN c4 hF
    refine lv_aload_n hx hb dX1_add_7 rfl (lv_at hl 0 rfl) ?_
    refine va_get (ci := 1) (v := .int t_m) (C := RX1) (T := TX1) (N := 2) hx hb hts (fun w h => tcons w (xin1 w h)) hown hK hP 0 rfl rfl 1 (by decide) (hts _ (tcons _ m66)) (fun _ h9 => h9) rfl dX1_add_8 ?_
    refine lv_aload_n hx hb dX1_add_11 rfl (lv_at hl 0 rfl) ?_
    refine va_get (ci := 1) (v := .ref t_q) (C := RX1) (T := TX1) (N := 2) hx hb hts (fun w h => tcons w (xin1 w h)) hown hK hP 0 rfl rfl 0 (by decide) (hts _ (tcons _ m71)) (fun _ h9 => h9) rfl dX1_add_12 ?_
    refine va_alen (v := (nI n)) hx hb hK hP 1 0 rfl rfl rfl dX1_add_15 ?_
    refine lv_icmp_ge (tgt := 39) hx hb dX1_add_16 (by decide) (fun c16 => ?_) (fun c16 => ?_)
    · have hF := itP c16 hF
      obtain rfl := Option.some.inj hF
      rw [← hQ]
      exact W.vret hx hb hr (fun t ht hW => ⟨⟨(), rfl, trivial, xLf hP ht⟩, hS.F ht⟩) hS.2.2 dX1_add_39
    · have hF := itN c16 hF
      refine lv_aload_n hx hb dX1_add_19 rfl (lv_at hl 0 rfl) ?_
      refine va_get (ci := 1) (v := .ref t_q) (C := RX1) (T := TX1) (N := 2) hx hb hts (fun w h => tcons w (xin1 w h)) hown hK hP 0 rfl rfl 0 (by decide) (hts _ (tcons _ m71)) (fun _ h9 => h9) rfl dX1_add_20 ?_
      refine lv_aload_n hx hb dX1_add_23 rfl (lv_at hl 0 rfl) ?_
      refine va_get (ci := 1) (v := .int t_m) (C := RX1) (T := TX1) (N := 2) hx hb hts (fun w h => tcons w (xin1 w h)) hown hK hP 0 rfl rfl 1 (by decide) (hts _ (tcons _ m66)) (fun _ h9 => h9) rfl dX1_add_24 ?_
      refine lv_iload_n hx hb dX1_add_27 rfl (lv_at hl 1 rfl) ?_
      obtain ⟨g28, hF⟩ := gdS hF
      refine va_iast hx hb hK hP hD hS 1 0 rfl rfl g28 dX1_add_28 (fun H locs hP hD hS => ?_)
      have hP : va_P G.1 vwCl [(t, .inr (1, [.ref t_q, .int t_m])), (t_q, .inl (xI G, n, .inl (upd t_f t_m.toNatClampNeg v)))] H := hP
      have hD : va_D A [(t, .inr (1, [.ref t_q, .int t_m])), (t_q, .inl (xI G, n, .inl (upd t_f t_m.toNatClampNeg v)))] := hD
      refine lv_aload_n hx hb dX1_add_29 rfl (lv_at hl 0 rfl) ?_
      refine lv_dup hx hb dX1_add_30 rfl ?_
      refine va_get (ci := 1) (v := .int t_m) (C := RX1) (T := TX1) (N := 2) hx hb hts (fun w h => tcons w (xin1 w h)) hown hK hP 0 rfl rfl 1 (by decide) (hts _ (tcons _ m66)) (fun _ h9 => h9) rfl dX1_add_31 ?_
      refine lv_iconst (v := 1) hx hb dX1_add_34 (by decide) ?_
      refine lv_iadd hx hb dX1_add_35 ?_
      refine va_put (ci := 1) (v := .int (t_m + (1 : Int32))) (ty := .int) (C := RX1) (T := TX1) (N := 2) hx hb hts (fun w h => tcons w (xin1 w h)) tyX1 tyX1_ok nmX1 hown hK hP hD hS 0 rfl rfl 1 (by decide) (hts _ (tcons _ m66)) (fun _ h9 => h9) rfl (by decide +kernel) rfl rfl (Nat.le_of_ble_eq_true rfl) dX1_add_36 (fun H locs hP hD hS => ?_)
      have hP : va_P G.1 vwCl [(t, .inr (1, [.ref t_q, .int (t_m + (1 : Int32))])), (t_q, .inl (xI G, n, .inl (upd t_f t_m.toNatClampNeg v)))] H := hP
      have hD : va_D A [(t, .inr (1, [.ref t_q, .int (t_m + (1 : Int32))])), (t_q, .inl (xI G, n, .inl (upd t_f t_m.toNatClampNeg v)))] := hD
      obtain rfl := Option.some.inj hF
      rw [← hQ]
      exact W.vret hx hb hr (fun t ht hW => ⟨⟨(), rfl, trivial, xLf hP ht⟩, hS.F ht⟩) hS.2.2 dX1_add_39
def F_X1_clear : Option Int32 := some (0 : Int32)
theorem hdX1_clear : yX1_clear.cls ≠ "java/lang/invoke/MethodHandle" ∧ yX1_clear.cls ≠ "java/lang/invoke/VarHandle" ∧ (parseMethodDescriptor yX1_clear.desc).map (fun d => d.parameters.length) = some 0 := by decide +kernel
set_option maxHeartbeats 4000000 in
set_option maxRecDepth 100000 in
theorem c_X1_clear (G : xG) (t : Nat) (t_q : Nat) (t_m : Int32)  (u : Int32) (hF : F_X1_clear = some u) : Kv G yX1_clear (Cond.code yX1_clear cX1_clear 1 none :: TBL) { frames := 0, cells := 0, slots := 0, locals := 0 } [.ref t] [(t, .inr (1, [.ref t_q, .int t_m]))] [(t, .inr (1, [.ref t_q, .int u]))] := by
  intro l sz
  refine Met.ofW (cc := cX1_clear) (maxL := 1) (ret := none) (by decide) rfl ?_
  intro p e s m args below meth c s₁ B hml hv
  obtain ⟨rfl, hsz, hP, hD0, hm⟩ := hv
  have hx := B.exec
  have hb := B.bytes
  have hr := B.returns
  have hts := atoms_spec (ws := Cond.code yX1_clear cX1_clear 1 none :: TBL) B.pre
  have hown : s.vm.findClass RX1 = some m.cls := findClass_of_methodNamed B.named
  have hlocks := B.notSynchronized
  subst hsz
  have hD := hD0.self (sz := s.heap.size)
  generalize hAe : va_A [(t, .inr (1, [.ref t_q, .int t_m]))] s.heap.size = A at hD hm ⊢
  have hA : ∀ q : Nat, s.heap.size ≤ q → A q := fun q h => by rw [← hAe]; exact Or.inr h
  have hK := hm.1
  have hZ : xAnd p m c cX1_clear 1 s _ (Cond.code yX1_clear cX1_clear 1 none :: TBL) RX1 G A := ⟨⟨hx, hb, hml, hown, hts⟩, tcons, hA, hm⟩
  have hP : va_P G.1 vwCl [(t, .inr (1, [.ref t_q, .int t_m]))] s.heap := hP
  have hl := lv_entry ([.ref t]) (n := 1) (Nat.le_of_ble_eq_true rfl)
  rw [lg_entry_eq]
  generalize (lg_sl ([.ref t]) ++ List.replicate (1 - (lg_sl ([.ref t])).length) Slot.unset).toArray = ls at hl ⊢
  have hl : lv_has ls 1 [(0, .ref t)] := hl
  generalize hQ : MQ below _ _ s _ _ _ = Q
  refine xGo (A := A) hP (fun H locs hP hS => ?_)
  unfold F_X1_clear at hF
  refine lv_aload_n hx hb dX1_clear_0 rfl (lv_at hl 0 rfl) ?_
  refine lv_iconst (v := 0) hx hb dX1_clear_1 (by decide) ?_
  refine va_put (ci := 1) (v := .int (0 : Int32)) (ty := .int) (C := RX1) (T := TX1) (N := 2) hx hb hts (fun w h => tcons w (xin1 w h)) tyX1 tyX1_ok nmX1 hown hK hP hD hS 0 rfl rfl 1 (by decide) (hts _ (tcons _ m66)) (fun _ h9 => h9) rfl (by decide +kernel) rfl rfl (Nat.le_of_ble_eq_true rfl) dX1_clear_2 (fun H locs hP hD hS => ?_)
  have hP : va_P G.1 vwCl [(t, .inr (1, [.ref t_q, .int (0 : Int32)]))] H := hP
  have hD : va_D A [(t, .inr (1, [.ref t_q, .int (0 : Int32)]))] := hD
  obtain rfl := Option.some.inj hF
  rw [← hQ]
  exact W.vret hx hb hr (fun t ht hW => ⟨⟨(), rfl, trivial, xLf hP ht⟩, hS.F ht⟩) hS.2.2 dX1_clear_5
def F_X1_drop (t_m : Int32) (k : Int32) : Option Int32 := some (if (0 : Int32) < (t_m - (if (0 : Int32) < k then k else (0 : Int32))) then (t_m - (if (0 : Int32) < k then k else (0 : Int32))) else (0 : Int32))
theorem hdX1_drop : yX1_drop.cls ≠ "java/lang/invoke/MethodHandle" ∧ yX1_drop.cls ≠ "java/lang/invoke/VarHandle" ∧ (parseMethodDescriptor yX1_drop.desc).map (fun d => d.parameters.length) = some 1 := by decide +kernel
set_option maxHeartbeats 4000000 in
set_option maxRecDepth 100000 in
theorem c_X1_drop (G : xG) (t : Nat) (t_q : Nat) (t_m : Int32) (k : Int32)  (u : Int32) (hF : F_X1_drop t_m k = some u) : Kv G yX1_drop (Cond.code yX1_drop cX1_drop 2 none :: TBL) { frames := 1, cells := 0, slots := 0, locals := 40 } [.ref t, .int k] [(t, .inr (1, [.ref t_q, .int t_m]))] [(t, .inr (1, [.ref t_q, .int u]))] := by
  intro l sz
  refine Met.ofW (cc := cX1_drop) (maxL := 2) (ret := none) (by decide) rfl ?_
  intro p e s m args below meth c s₁ B hml hv
  obtain ⟨rfl, hsz, hP, hD0, hm⟩ := hv
  have hx := B.exec
  have hb := B.bytes
  have hr := B.returns
  have hts := atoms_spec (ws := Cond.code yX1_drop cX1_drop 2 none :: TBL) B.pre
  have hown : s.vm.findClass RX1 = some m.cls := findClass_of_methodNamed B.named
  have hlocks := B.notSynchronized
  subst hsz
  have hD := hD0.self (sz := s.heap.size)
  generalize hAe : va_A [(t, .inr (1, [.ref t_q, .int t_m]))] s.heap.size = A at hD hm ⊢
  have hA : ∀ q : Nat, s.heap.size ≤ q → A q := fun q h => by rw [← hAe]; exact Or.inr h
  have hK := hm.1
  have hZ : xAnd p m c cX1_drop 2 s _ (Cond.code yX1_drop cX1_drop 2 none :: TBL) RX1 G A := ⟨⟨hx, hb, hml, hown, hts⟩, tcons, hA, hm⟩
  have hP : va_P G.1 vwCl [(t, .inr (1, [.ref t_q, .int t_m]))] s.heap := hP
  have hl := lv_entry ([.ref t, .int k]) (n := 2) (Nat.le_of_ble_eq_true rfl)
  rw [lg_entry_eq]
  generalize (lg_sl ([.ref t, .int k]) ++ List.replicate (2 - (lg_sl ([.ref t, .int k])).length) Slot.unset).toArray = ls at hl ⊢
  have hl : lv_has ls 2 [(0, .ref t), (1, .int k)] := hl
  generalize hQ : MQ below _ _ s _ _ _ = Q
  refine xGo (A := A) hP (fun H locs hP hS => ?_)
  unfold F_X1_drop at hF
  refine lv_aload_n hx hb dX1_drop_0 rfl (lv_at hl 0 rfl) ?_
  refine lv_iconst (v := 0) hx hb dX1_drop_1 (by decide) ?_
  refine lv_aload_n hx hb dX1_drop_2 rfl (lv_at hl 0 rfl) ?_
  refine va_get (ci := 1) (v := .int t_m) (C := RX1) (T := TX1) (N := 2) hx hb hts (fun w h => tcons w (xin1 w h)) hown hK hP 0 rfl rfl 1 (by decide) (hts _ (tcons _ m66)) (fun _ h9 => h9) rfl dX1_drop_3 ?_
  refine lv_iconst (v := 0) hx hb dX1_drop_6 (by decide) ?_
  refine lv_iload_n hx hb dX1_drop_7 rfl (lv_at hl 1 rfl) ?_
  refine va_mmax hx hb (hml.trans hl.1.symm) hown (hts _ (tcons _ m67)) (hts _ (tcons _ m68)) (hts _ (tcons _ m69)) (hts _ (tcons _ m70)) (Nat.le_of_ble_eq_true rfl) (Nat.le_of_ble_eq_true rfl) (Nat.zero_le _) (Nat.zero_le _) dX1_drop_8 ?_
  refine lv_isub hx hb dX1_drop_11 ?_
  refine va_mmax hx hb (hml.trans hl.1.symm) hown (hts _ (tcons _ m67)) (hts _ (tcons _ m68)) (hts _ (tcons _ m69)) (hts _ (tcons _ m70)) (Nat.le_of_ble_eq_true rfl) (Nat.le_of_ble_eq_true rfl) (Nat.zero_le _) (Nat.zero_le _) dX1_drop_12 ?_
  refine va_put (ci := 1) (v := .int (if (0 : Int32) < (t_m - (if (0 : Int32) < k then k else (0 : Int32))) then (t_m - (if (0 : Int32) < k then k else (0 : Int32))) else (0 : Int32))) (ty := .int) (C := RX1) (T := TX1) (N := 2) hx hb hts (fun w h => tcons w (xin1 w h)) tyX1 tyX1_ok nmX1 hown hK hP hD hS 0 rfl rfl 1 (by decide) (hts _ (tcons _ m66)) (fun _ h9 => h9) rfl (by decide +kernel) rfl rfl (Nat.le_of_ble_eq_true rfl) dX1_drop_15 (fun H locs hP hD hS => ?_)
  have hP : va_P G.1 vwCl [(t, .inr (1, [.ref t_q, .int (if (0 : Int32) < (t_m - (if (0 : Int32) < k then k else (0 : Int32))) then (t_m - (if (0 : Int32) < k then k else (0 : Int32))) else (0 : Int32))]))] H := hP
  have hD : va_D A [(t, .inr (1, [.ref t_q, .int (if (0 : Int32) < (t_m - (if (0 : Int32) < k then k else (0 : Int32))) then (t_m - (if (0 : Int32) < k then k else (0 : Int32))) else (0 : Int32))]))] := hD
  obtain rfl := Option.some.inj hF
  rw [← hQ]
  exact W.vret hx hb hr (fun t ht hW => ⟨⟨(), rfl, trivial, xLf hP ht⟩, hS.F ht⟩) hS.2.2 dX1_drop_18
def F_X1_pop (n : Nat) (t_m : Int32) (t_f : Nat → Int32) : Option (Int32 × Int32) := bd (F_X1_get n t_m t_f (t_m - (1 : Int32))) (fun (u1 : Int32) => some (u1, (if (0 : Int32) < (t_m - (1 : Int32)) then (t_m - (1 : Int32)) else (0 : Int32))))
theorem hdX1_pop : yX1_pop.cls ≠ "java/lang/invoke/MethodHandle" ∧ yX1_pop.cls ≠ "java/lang/invoke/VarHandle" ∧ (parseMethodDescriptor yX1_pop.desc).map (fun d => d.parameters.length) = some 0 := by decide +kernel
set_option maxHeartbeats 4000000 in
set_option maxRecDepth 100000 in
theorem c_X1_pop (G : xG) (t : Nat) (t_q : Nat) (n : Nat) (t_m : Int32) (t_f : Nat → Int32)  (u : (Int32 × Int32)) (hF : F_X1_pop n t_m t_f = some u) : Ki G .int yX1_pop (Cond.code yX1_pop cX1_pop 2 (some .int) :: TBL) { frames := 1, cells := 0, slots := 0, locals := 40 } [.ref t] [(t, .inr (1, [.ref t_q, .int t_m])), (t_q, .inl (xI G, n, .inl t_f))] [(t, .inr (1, [.ref t_q, .int u.2])), (t_q, .inl (xI G, n, .inl t_f))] u.1 := by
  intro l sz
  refine Met.ofW (cc := cX1_pop) (maxL := 2) (ret := (some .int)) (by decide) rfl ?_
  intro p e s m args below meth c s₁ B hml hv
  obtain ⟨rfl, hsz, hP, hD0, hm⟩ := hv
  have hx := B.exec
  have hb := B.bytes
  have hr := B.returns
  have hts := atoms_spec (ws := Cond.code yX1_pop cX1_pop 2 (some .int) :: TBL) B.pre
  have hown : s.vm.findClass RX1 = some m.cls := findClass_of_methodNamed B.named
  have hlocks := B.notSynchronized
  subst hsz
  have hD := hD0.self (sz := s.heap.size)
  generalize hAe : va_A [(t, .inr (1, [.ref t_q, .int t_m])), (t_q, .inl (xI G, n, .inl t_f))] s.heap.size = A at hD hm ⊢
  have hA : ∀ q : Nat, s.heap.size ≤ q → A q := fun q h => by rw [← hAe]; exact Or.inr h
  have hK := hm.1
  have hZ : xAnd p m c cX1_pop 2 s _ (Cond.code yX1_pop cX1_pop 2 (some .int) :: TBL) RX1 G A := ⟨⟨hx, hb, hml, hown, hts⟩, tcons, hA, hm⟩
  have hP : va_P G.1 vwCl [(t, .inr (1, [.ref t_q, .int t_m])), (t_q, .inl (xI G, n, .inl t_f))] s.heap := hP
  have hl := lv_entry ([.ref t]) (n := 2) (Nat.le_of_ble_eq_true rfl)
  rw [lg_entry_eq]
  generalize (lg_sl ([.ref t]) ++ List.replicate (2 - (lg_sl ([.ref t])).length) Slot.unset).toArray = ls at hl ⊢
  have hl : lv_has ls 2 [(0, .ref t)] := hl
  generalize hQ : MQ below _ _ s _ _ _ = Q
  refine xGo (A := A) hP (fun H locs hP hS => ?_)
  unfold F_X1_pop at hF
  refine lv_aload_n hx hb dX1_pop_0 rfl (lv_at hl 0 rfl) ?_
  refine lv_aload_n hx hb dX1_pop_1 rfl (lv_at hl 0 rfl) ?_
  refine va_get (ci := 1) (v := .int t_m) (C := RX1) (T := TX1) (N := 2) hx hb hts (fun w h => tcons w (xin1 w h)) hown hK hP 0 rfl rfl 1 (by decide) (hts _ (tcons _ m66)) (fun _ h9 => h9) rfl dX1_pop_2 ?_
  refine lv_iconst (v := 1) hx hb dX1_pop_5 (by decide) ?_
  refine lv_isub hx hb dX1_pop_6 ?_
  obtain ⟨u1, e1, hF⟩ := bdS hF
  refine xEndI (xRunV (As := [.int (t_m - (1 : Int32))]) (rest := []) hZ (c_X1_get G t t_q n t_m t_f (t_m - (1 : Int32)) u1 e1 l H.size) m262 m130 m131 m49 m132 1 ⟨rfl, hdX1_get⟩ ⟨Nat.le_of_ble_eq_true rfl, Nat.le_of_ble_eq_true rfl⟩ ⟨rfl, rfl⟩ hP hD hS 0 1 rfl rfl rfl [0, 1] rfl rfl rfl hl.1 rfl (Nat.le_of_ble_eq_true rfl) dX1_pop_7 ⟨Nat.zero_le _, Nat.zero_le _⟩) hP hD hS hA [0, 1] rfl rfl rfl (fun H locs n1 hP hD hS => ?_)
  have hP : va_P G.1 vwCl [(t, .inr (1, [.ref t_q, .int t_m])), (t_q, .inl (xI G, n, .inl t_f))] H := hP
  have hD : va_D A [(t, .inr (1, [.ref t_q, .int t_m])), (t_q, .inl (xI G, n, .inl t_f))] := hD
  refine lv_istore_n (lv' := [(1, .int u1), (0, .ref t)]) hx hb dX1_pop_10 rfl hl (by decide) rfl (fun ls hl => ?_)
  refine lv_aload_n hx hb dX1_pop_11 rfl (lv_at hl 1 rfl) ?_
  refine lv_iconst (v := 0) hx hb dX1_pop_12 (by decide) ?_
  refine lv_aload_n hx hb dX1_pop_13 rfl (lv_at hl 1 rfl) ?_
  refine va_get (ci := 1) (v := .int t_m) (C := RX1) (T := TX1) (N := 2) hx hb hts (fun w h => tcons w (xin1 w h)) hown hK hP 0 rfl rfl 1 (by decide) (hts _ (tcons _ m66)) (fun _ h9 => h9) rfl dX1_pop_14 ?_
  refine lv_iconst (v := 1) hx hb dX1_pop_17 (by decide) ?_
  refine lv_isub hx hb dX1_pop_18 ?_
  refine va_mmax hx hb (hml.trans hl.1.symm) hown (hts _ (tcons _ m67)) (hts _ (tcons _ m68)) (hts _ (tcons _ m69)) (hts _ (tcons _ m70)) (Nat.le_of_ble_eq_true rfl) (Nat.le_of_ble_eq_true rfl) (Nat.zero_le _) (Nat.zero_le _) dX1_pop_19 ?_
  refine va_put (ci := 1) (v := .int (if (0 : Int32) < (t_m - (1 : Int32)) then (t_m - (1 : Int32)) else (0 : Int32))) (ty := .int) (C := RX1) (T := TX1) (N := 2) hx hb hts (fun w h => tcons w (xin1 w h)) tyX1 tyX1_ok nmX1 hown hK hP hD hS 0 rfl rfl 1 (by decide) (hts _ (tcons _ m66)) (fun _ h9 => h9) rfl (by decide +kernel) rfl rfl (Nat.le_of_ble_eq_true rfl) dX1_pop_22 (fun H locs hP hD hS => ?_)
  have hP : va_P G.1 vwCl [(t, .inr (1, [.ref t_q, .int (if (0 : Int32) < (t_m - (1 : Int32)) then (t_m - (1 : Int32)) else (0 : Int32))])), (t_q, .inl (xI G, n, .inl t_f))] H := hP
  have hD : va_D A [(t, .inr (1, [.ref t_q, .int (if (0 : Int32) < (t_m - (1 : Int32)) then (t_m - (1 : Int32)) else (0 : Int32))])), (t_q, .inl (xI G, n, .inl t_f))] := hD
  refine lv_iload_n hx hb dX1_pop_25 rfl (lv_at hl 0 rfl) ?_
  obtain rfl := Option.some.inj hF
  rw [← hQ]
  exact W.iret (v := u1) hx hb hr (fun t ht hW => ⟨⟨_, (), rfl, ⟨rfl, rfl⟩, xLf hP ht⟩, hS.F ht⟩) hS.2.2 dX1_pop_26
def B_X1_zeros_16 (n : Nat) (u1 : Int32) (k16 : (Int32 × (Nat → Int32)) → Option (Int32 × (Nat → Int32))) (v16 : (Int32 × (Nat → Int32))) : Option (Int32 × (Nat → Int32)) := if u1 ≤ v16.1 then (some (u1, v16.2)) else (bd (F_X1_set n u1 v16.2 v16.1 (0 : Int32)) (fun (u2 : (Nat → Int32)) => k16 ((v16.1 + (1 : Int32)), u2)))
def F_X1_zeros (n : Nat) (t_f : Nat → Int32) (k : Int32) : Option (Int32 × (Nat → Int32)) := bd (F_X7_held k (0 : Int32) (nI n)) (fun (u1 : Int32) => lp (B_X1_zeros_16 n u1) fuelC ((0 : Int32), t_f))
theorem hdX1_zeros : yX1_zeros.cls ≠ "java/lang/invoke/MethodHandle" ∧ yX1_zeros.cls ≠ "java/lang/invoke/VarHandle" ∧ (parseMethodDescriptor yX1_zeros.desc).map (fun d => d.parameters.length) = some 1 := by decide +kernel
set_option maxHeartbeats 4000000 in
set_option maxRecDepth 100000 in
theorem c_X1_zeros (G : xG) (t : Nat) (t_q : Nat) (n : Nat) (t_m : Int32) (t_f : Nat → Int32) (k : Int32)  (u : (Int32 × (Nat → Int32))) (hF : F_X1_zeros n t_f k = some u) : Kv G yX1_zeros (Cond.code yX1_zeros cX1_zeros 3 none :: TBL) { frames := 2, cells := 0, slots := 0, locals := 62 } [.ref t, .int k] [(t, .inr (1, [.ref t_q, .int t_m])), (t_q, .inl (xI G, n, .inl t_f))] [(t, .inr (1, [.ref t_q, .int u.1])), (t_q, .inl (xI G, n, .inl u.2))] := by
  intro l sz
  refine Met.ofW (cc := cX1_zeros) (maxL := 3) (ret := none) (by decide) rfl ?_
  intro p e s m args below meth c s₁ B hml hv
  obtain ⟨rfl, hsz, hP, hD0, hm⟩ := hv
  have hx := B.exec
  have hb := B.bytes
  have hr := B.returns
  have hts := atoms_spec (ws := Cond.code yX1_zeros cX1_zeros 3 none :: TBL) B.pre
  have hown : s.vm.findClass RX1 = some m.cls := findClass_of_methodNamed B.named
  have hlocks := B.notSynchronized
  subst hsz
  have hD := hD0.self (sz := s.heap.size)
  generalize hAe : va_A [(t, .inr (1, [.ref t_q, .int t_m])), (t_q, .inl (xI G, n, .inl t_f))] s.heap.size = A at hD hm ⊢
  have hA : ∀ q : Nat, s.heap.size ≤ q → A q := fun q h => by rw [← hAe]; exact Or.inr h
  have hK := hm.1
  have hZ : xAnd p m c cX1_zeros 3 s _ (Cond.code yX1_zeros cX1_zeros 3 none :: TBL) RX1 G A := ⟨⟨hx, hb, hml, hown, hts⟩, tcons, hA, hm⟩
  have hP : va_P G.1 vwCl [(t, .inr (1, [.ref t_q, .int t_m])), (t_q, .inl (xI G, n, .inl t_f))] s.heap := hP
  have hl := lv_entry ([.ref t, .int k]) (n := 3) (Nat.le_of_ble_eq_true rfl)
  rw [lg_entry_eq]
  generalize (lg_sl ([.ref t, .int k]) ++ List.replicate (3 - (lg_sl ([.ref t, .int k])).length) Slot.unset).toArray = ls at hl ⊢
  have hl : lv_has ls 3 [(0, .ref t), (1, .int k)] := hl
  generalize hQ : MQ below _ _ s _ _ _ = Q
  refine xGo (A := A) hP (fun H locs hP hS => ?_)
  unfold F_X1_zeros at hF
  refine lv_aload_n hx hb dX1_zeros_0 rfl (lv_at hl 0 rfl) ?_
  refine lv_iload_n hx hb dX1_zeros_1 rfl (lv_at hl 1 rfl) ?_
  refine lv_iconst (v := 0) hx hb dX1_zeros_2 (by decide) ?_
  refine lv_aload_n hx hb dX1_zeros_3 rfl (lv_at hl 0 rfl) ?_
  refine va_get (ci := 1) (v := .ref t_q) (C := RX1) (T := TX1) (N := 2) hx hb hts (fun w h => tcons w (xin1 w h)) hown hK hP 0 rfl rfl 0 (by decide) (hts _ (tcons _ m71)) (fun _ h9 => h9) rfl dX1_zeros_4 ?_
  refine va_alen (v := (nI n)) hx hb hK hP 1 0 rfl rfl rfl dX1_zeros_7 ?_
  obtain ⟨u1, e1, hF⟩ := bdS hF
  refine xEndI (xRunN (As := [.int k, .int (0 : Int32), .int (nI n)]) (rest := [.ref t]) hZ (c_X7_held G k (0 : Int32) (nI n) u1 e1 l H.size) hm.2.1.2.2.2.2.1 m270 m2 m271 3 hdX7_held ⟨Nat.le_of_ble_eq_true rfl, Nat.le_of_ble_eq_true rfl⟩ ⟨rfl, rfl⟩ hP hD hS [] rfl rfl rfl hl.1 rfl (Nat.le_of_ble_eq_true rfl) dX1_zeros_8 ⟨Nat.zero_le _, Nat.zero_le _⟩) hP hD hS hA [] rfl rfl rfl (fun H locs n1 hP hD hS => ?_)
  have hP : va_P G.1 vwCl [(t, .inr (1, [.ref t_q, .int t_m])), (t_q, .inl (xI G, n, .inl t_f))] H := hP
  have hD : va_D A [(t, .inr (1, [.ref t_q, .int t_m])), (t_q, .inl (xI G, n, .inl t_f))] := hD
  refine va_put (ci := 1) (v := .int u1) (ty := .int) (C := RX1) (T := TX1) (N := 2) hx hb hts (fun w h => tcons w (xin1 w h)) tyX1 tyX1_ok nmX1 hown hK hP hD hS 0 rfl rfl 1 (by decide) (hts _ (tcons _ m66)) (fun _ h9 => h9) rfl (by decide +kernel) rfl rfl (Nat.le_of_ble_eq_true rfl) dX1_zeros_11 (fun H locs hP hD hS => ?_)
  have hP : va_P G.1 vwCl [(t, .inr (1, [.ref t_q, .int u1])), (t_q, .inl (xI G, n, .inl t_f))] H := hP
  have hD : va_D A [(t, .inr (1, [.ref t_q, .int u1])), (t_q, .inl (xI G, n, .inl t_f))] := hD
  refine lv_iconst (v := 0) hx hb dX1_zeros_14 (by decide) ?_
  refine lv_istore_n (lv' := [(2, .int (0 : Int32)), (0, .ref t), (1, .int k)]) hx hb dX1_zeros_15 rfl hl (by decide) rfl (fun ls hl => ?_)
  refine xLoop2 (body := (B_X1_zeros_16 n u1)) (fun (v16_0 : Int32) (v16_1 : Nat → Int32) H locs ls => va_P G.1 vwCl [(t, .inr (1, [.ref t_q, .int u1])), (t_q, .inl (xI G, n, .inl v16_1))] H ∧ va_D A [(t, .inr (1, [.ref t_q, .int u1])), (t_q, .inl (xI G, n, .inl v16_1))] ∧ va_S A s.heap H locs ∧ lv_has ls 3 [(0, .ref t), (1, .int k), (2, .int v16_0)]) (fun N16 v16_0 v16_1 ih16 H locs ls hI hF => ?_) fuelC (0 : Int32) t_f H locs ls ⟨hP, hD, hS, lv_sub hl [1, 2, 0] rfl⟩ hF
  obtain ⟨hP, hD, hS, hl⟩ := hI
  unfold B_X1_zeros_16 at hF
  refine lv_iload_n hx hb dX1_zeros_16 rfl (lv_at hl 2 rfl) ?_
  refine lv_aload_n hx hb dX1_zeros_17 rfl (lv_at hl 0 rfl) ?_
  refine va_get (ci := 1) (v := .int u1) (C := RX1) (T := TX1) (N := 2) hx hb hts (fun w h => tcons w (xin1 w h)) hown hK hP 0 rfl rfl 1 (by decide) (hts _ (tcons _ m66)) (fun _ h9 => h9) rfl dX1_zeros_18 ?_
  refine lv_icmp_ge (tgt := 36) hx hb dX1_zeros_21 (by decide) (fun c21 => ?_) (fun c21 => ?_)
  · have hF := itP c21 hF
    obtain rfl := Option.some.inj hF
    rw [← hQ]
    exact W.vret hx hb hr (fun t ht hW => ⟨⟨(), rfl, trivial, xLf hP ht⟩, hS.F ht⟩) hS.2.2 dX1_zeros_36
  · have hF := itN c21 hF
    refine lv_aload_n hx hb dX1_zeros_24 rfl (lv_at hl 0 rfl) ?_
    refine lv_iload_n hx hb dX1_zeros_25 rfl (lv_at hl 2 rfl) ?_
    refine lv_iconst (v := 0) hx hb dX1_zeros_26 (by decide) ?_
    obtain ⟨u2, e2, hF⟩ := bdS hF
    refine xEndV (xRunV (As := [.int v16_0, .int (0 : Int32)]) (rest := []) hZ (c_X1_set G t t_q n u1 v16_1 v16_0 (0 : Int32) u2 e2 l H.size) m1007 m344 m345 m49 m346 2 ⟨rfl, hdX1_set⟩ ⟨Nat.le_of_ble_eq_true rfl, Nat.le_of_ble_eq_true rfl⟩ ⟨rfl, rfl⟩ hP hD hS 0 1 rfl rfl rfl [0, 1] rfl rfl rfl hl.1 rfl (Nat.le_of_ble_eq_true rfl) dX1_zeros_27 ⟨Nat.zero_le _, Nat.zero_le _⟩) hP hD hS hA [0, 1] rfl rfl rfl (fun H locs hP hD hS => ?_)
    have hP : va_P G.1 vwCl [(t, .inr (1, [.ref t_q, .int u1])), (t_q, .inl (xI G, n, .inl u2))] H := hP
    have hD : va_D A [(t, .inr (1, [.ref t_q, .int u1])), (t_q, .inl (xI G, n, .inl u2))] := hD
    refine lv_iinc (v := (v16_0 + (1 : Int32))) (lv' := [(2, .int (v16_0 + (1 : Int32))), (0, .ref t), (1, .int k)]) hx hb dX1_zeros_30 hl (k := 2) rfl (xInc_1 _) (by decide) rfl (fun ls hl => ?_)
    refine lv_goto (tgt := 16) hx hb dX1_zeros_33 (by decide) ?_
    exact ih16 (v16_0 + (1 : Int32)) u2 H locs ls ⟨hP, hD, hS, lv_sub hl [1, 2, 0] rfl⟩ hF
def F_X1_hasRun (t_m : Int32) (i : Int32) (k : Int32) : Option Int32 := if k < 0 then (some (0 : Int32)) else (if i < 0 then (some (0 : Int32)) else (if (t_m - i) < k then (some (0 : Int32)) else (some (1 : Int32))))
theorem hdX1_hasRun : yX1_hasRun.cls ≠ "java/lang/invoke/MethodHandle" ∧ yX1_hasRun.cls ≠ "java/lang/invoke/VarHandle" ∧ (parseMethodDescriptor yX1_hasRun.desc).map (fun d => d.parameters.length) = some 2 := by decide +kernel
set_option maxHeartbeats 4000000 in
set_option maxRecDepth 100000 in
theorem c_X1_hasRun (G : xG) (t : Nat) (t_q : Nat) (t_m : Int32) (i : Int32) (k : Int32)  (u : Int32) (hF : F_X1_hasRun t_m i k = some u) : Ki G .boolean yX1_hasRun (Cond.code yX1_hasRun cX1_hasRun 3 (some .boolean) :: TBL) { frames := 0, cells := 0, slots := 0, locals := 0 } [.ref t, .int i, .int k] [(t, .inr (1, [.ref t_q, .int t_m]))] [(t, .inr (1, [.ref t_q, .int t_m]))] u := by
  intro l sz
  refine Met.ofW (cc := cX1_hasRun) (maxL := 3) (ret := (some .boolean)) (by decide) rfl ?_
  intro p e s m args below meth c s₁ B hml hv
  obtain ⟨rfl, hsz, hP, hD0, hm⟩ := hv
  have hx := B.exec
  have hb := B.bytes
  have hr := B.returns
  have hts := atoms_spec (ws := Cond.code yX1_hasRun cX1_hasRun 3 (some .boolean) :: TBL) B.pre
  have hown : s.vm.findClass RX1 = some m.cls := findClass_of_methodNamed B.named
  have hlocks := B.notSynchronized
  subst hsz
  have hD := hD0.self (sz := s.heap.size)
  generalize hAe : va_A [(t, .inr (1, [.ref t_q, .int t_m]))] s.heap.size = A at hD hm ⊢
  have hA : ∀ q : Nat, s.heap.size ≤ q → A q := fun q h => by rw [← hAe]; exact Or.inr h
  have hK := hm.1
  have hZ : xAnd p m c cX1_hasRun 3 s _ (Cond.code yX1_hasRun cX1_hasRun 3 (some .boolean) :: TBL) RX1 G A := ⟨⟨hx, hb, hml, hown, hts⟩, tcons, hA, hm⟩
  have hP : va_P G.1 vwCl [(t, .inr (1, [.ref t_q, .int t_m]))] s.heap := hP
  have hl := lv_entry ([.ref t, .int i, .int k]) (n := 3) (Nat.le_of_ble_eq_true rfl)
  rw [lg_entry_eq]
  generalize (lg_sl ([.ref t, .int i, .int k]) ++ List.replicate (3 - (lg_sl ([.ref t, .int i, .int k])).length) Slot.unset).toArray = ls at hl ⊢
  have hl : lv_has ls 3 [(0, .ref t), (1, .int i), (2, .int k)] := hl
  generalize hQ : MQ below _ _ s _ _ _ = Q
  refine xGo (A := A) hP (fun H locs hP hS => ?_)
  unfold F_X1_hasRun at hF
  refine lv_iload_n hx hb dX1_hasRun_0 rfl (lv_at hl 2 rfl) ?_
  refine lv_if_lt (tgt := 22) hx hb dX1_hasRun_1 (by decide) (fun c1 => ?_) (fun c1 => ?_)
  · have hF := itP c1 hF
    refine lv_iconst (v := 0) hx hb dX1_hasRun_22 (by decide) ?_
    obtain rfl := Option.some.inj hF
    rw [← hQ]
    exact W.zret (v := (0 : Int32)) hx hb hr (show narrow .boolean (.int (0 : Int32)) = .int (0 : Int32) from by decide) (fun t ht hW => ⟨⟨_, (), rfl, ⟨rfl, (show narrow .boolean (.int (0 : Int32)) = .int (0 : Int32) from by decide)⟩, xLf hP ht⟩, hS.F ht⟩) hS.2.2 dX1_hasRun_23
  · have hF := itN c1 hF
    refine lv_iload_n hx hb dX1_hasRun_4 rfl (lv_at hl 1 rfl) ?_
    refine lv_if_lt (tgt := 22) hx hb dX1_hasRun_5 (by decide) (fun c5 => ?_) (fun c5 => ?_)
    · have hF := itP c5 hF
      refine lv_iconst (v := 0) hx hb dX1_hasRun_22 (by decide) ?_
      obtain rfl := Option.some.inj hF
      rw [← hQ]
      exact W.zret (v := (0 : Int32)) hx hb hr (show narrow .boolean (.int (0 : Int32)) = .int (0 : Int32) from by decide) (fun t ht hW => ⟨⟨_, (), rfl, ⟨rfl, (show narrow .boolean (.int (0 : Int32)) = .int (0 : Int32) from by decide)⟩, xLf hP ht⟩, hS.F ht⟩) hS.2.2 dX1_hasRun_23
    · have hF := itN c5 hF
      refine lv_iload_n hx hb dX1_hasRun_8 rfl (lv_at hl 2 rfl) ?_
      refine lv_aload_n hx hb dX1_hasRun_9 rfl (lv_at hl 0 rfl) ?_
      refine va_get (ci := 1) (v := .int t_m) (C := RX1) (T := TX1) (N := 2) hx hb hts (fun w h => tcons w (xin1 w h)) hown hK hP 0 rfl rfl 1 (by decide) (hts _ (tcons _ m66)) (fun _ h9 => h9) rfl dX1_hasRun_10 ?_
      refine lv_iload_n hx hb dX1_hasRun_13 rfl (lv_at hl 1 rfl) ?_
      refine lv_isub hx hb dX1_hasRun_14 ?_
      refine lv_icmp_gt (tgt := 22) hx hb dX1_hasRun_15 (by decide) (fun c15 => ?_) (fun c15 => ?_)
      · have hF := itP c15 hF
        refine lv_iconst (v := 0) hx hb dX1_hasRun_22 (by decide) ?_
        obtain rfl := Option.some.inj hF
        rw [← hQ]
        exact W.zret (v := (0 : Int32)) hx hb hr (show narrow .boolean (.int (0 : Int32)) = .int (0 : Int32) from by decide) (fun t ht hW => ⟨⟨_, (), rfl, ⟨rfl, (show narrow .boolean (.int (0 : Int32)) = .int (0 : Int32) from by decide)⟩, xLf hP ht⟩, hS.F ht⟩) hS.2.2 dX1_hasRun_23
      · have hF := itN c15 hF
        refine lv_iconst (v := 1) hx hb dX1_hasRun_18 (by decide) ?_
        refine lv_goto (tgt := 23) hx hb dX1_hasRun_19 (by decide) ?_
        obtain rfl := Option.some.inj hF
        rw [← hQ]
        exact W.zret (v := (1 : Int32)) hx hb hr (show narrow .boolean (.int (1 : Int32)) = .int (1 : Int32) from by decide) (fun t ht hW => ⟨⟨_, (), rfl, ⟨rfl, (show narrow .boolean (.int (1 : Int32)) = .int (1 : Int32) from by decide)⟩, xLf hP ht⟩, hS.F ht⟩) hS.2.2 dX1_hasRun_23
def F_X1_takeRun (n : Nat) (on : Nat) (t_m : Int32) (t_f : Nat → Int32) (o_m : Int32) (o_f : Nat → Int32) (i : Int32) (j : Int32) (k : Int32) : Option (Nat → Int32) := bd (F_X1_hasRun o_m i k) (fun (u1 : Int32) => if u1 = 0 then (some t_f) else (bd (F_X1_hasRun t_m j k) (fun (u2 : Int32) => if u2 = 0 then (some t_f) else (if (i < 0 ∨ j < 0 ∨ k < 0 ∨ ¬ (i.toNatClampNeg + k.toNatClampNeg ≤ on) ∨ ¬ (j.toNatClampNeg + k.toNatClampNeg ≤ n)) then none else (some (va_cpy o_f t_f i.toNatClampNeg j.toNatClampNeg k.toNatClampNeg))))))
theorem hdX1_takeRun : yX1_takeRun.cls ≠ "java/lang/invoke/MethodHandle" ∧ yX1_takeRun.cls ≠ "java/lang/invoke/VarHandle" ∧ (parseMethodDescriptor yX1_takeRun.desc).map (fun d => d.parameters.length) = some 4 := by decide +kernel
set_option maxHeartbeats 4000000 in
set_option maxRecDepth 100000 in
theorem c_X1_takeRun (G : xG) (t : Nat) (t_q : Nat) (o : Nat) (o_q : Nat) (n : Nat) (on : Nat) (t_m : Int32) (t_f : Nat → Int32) (o_m : Int32) (o_f : Nat → Int32) (i : Int32) (j : Int32) (k : Int32)  (u : (Nat → Int32)) (hF : F_X1_takeRun n on t_m t_f o_m o_f i j k = some u) : Kv G yX1_takeRun (Cond.code yX1_takeRun cX1_takeRun 5 none :: TBL) { frames := 1, cells := 0, slots := 0, locals := 60 } [.ref t, .ref o, .int i, .int j, .int k] [(t, .inr (1, [.ref t_q, .int t_m])), (t_q, .inl (xI G, n, .inl t_f)), (o, .inr (1, [.ref o_q, .int o_m])), (o_q, .inl (xI G, on, .inl o_f))] [(t, .inr (1, [.ref t_q, .int t_m])), (t_q, .inl (xI G, n, .inl u)), (o, .inr (1, [.ref o_q, .int o_m])), (o_q, .inl (xI G, on, .inl o_f))] := by
  intro l sz
  refine Met.ofW (cc := cX1_takeRun) (maxL := 5) (ret := none) (by decide) rfl ?_
  intro p e s m args below meth c s₁ B hml hv
  obtain ⟨rfl, hsz, hP, hD0, hm⟩ := hv
  have hx := B.exec
  have hb := B.bytes
  have hr := B.returns
  have hts := atoms_spec (ws := Cond.code yX1_takeRun cX1_takeRun 5 none :: TBL) B.pre
  have hown : s.vm.findClass RX1 = some m.cls := findClass_of_methodNamed B.named
  have hlocks := B.notSynchronized
  subst hsz
  have hD := hD0.self (sz := s.heap.size)
  generalize hAe : va_A [(t, .inr (1, [.ref t_q, .int t_m])), (t_q, .inl (xI G, n, .inl t_f)), (o, .inr (1, [.ref o_q, .int o_m])), (o_q, .inl (xI G, on, .inl o_f))] s.heap.size = A at hD hm ⊢
  have hA : ∀ q : Nat, s.heap.size ≤ q → A q := fun q h => by rw [← hAe]; exact Or.inr h
  have hK := hm.1
  have hZ : xAnd p m c cX1_takeRun 5 s _ (Cond.code yX1_takeRun cX1_takeRun 5 none :: TBL) RX1 G A := ⟨⟨hx, hb, hml, hown, hts⟩, tcons, hA, hm⟩
  have hP : va_P G.1 vwCl [(t, .inr (1, [.ref t_q, .int t_m])), (t_q, .inl (xI G, n, .inl t_f)), (o, .inr (1, [.ref o_q, .int o_m])), (o_q, .inl (xI G, on, .inl o_f))] s.heap := hP
  have hl := lv_entry ([.ref t, .ref o, .int i, .int j, .int k]) (n := 5) (Nat.le_of_ble_eq_true rfl)
  rw [lg_entry_eq]
  generalize (lg_sl ([.ref t, .ref o, .int i, .int j, .int k]) ++ List.replicate (5 - (lg_sl ([.ref t, .ref o, .int i, .int j, .int k])).length) Slot.unset).toArray = ls at hl ⊢
  have hl : lv_has ls 5 [(0, .ref t), (1, .ref o), (2, .int i), (3, .int j), (4, .int k)] := hl
  generalize hQ : MQ below _ _ s _ _ _ = Q
  refine xGo (A := A) hP (fun H locs hP hS => ?_)
  unfold F_X1_takeRun at hF
  refine lv_aload_n hx hb dX1_takeRun_0 rfl (lv_at hl 1 rfl) ?_
  refine lv_iload_n hx hb dX1_takeRun_1 rfl (lv_at hl 2 rfl) ?_
  refine lv_iload hx hb dX1_takeRun_2 (lv_at hl 4 rfl) ?_
  obtain ⟨u1, e1, hF⟩ := bdS hF
  refine xEndI (xRunV (As := [.int i, .int k]) (rest := []) hZ (c_X1_hasRun G o o_q o_m i k u1 e1 l H.size) m668 m669 m670 m49 m671 2 ⟨rfl, hdX1_hasRun⟩ ⟨Nat.le_of_ble_eq_true rfl, Nat.le_of_ble_eq_true rfl⟩ ⟨rfl, rfl⟩ hP hD hS 2 1 rfl rfl rfl [2] rfl rfl rfl hl.1 rfl (Nat.le_of_ble_eq_true rfl) dX1_takeRun_4 ⟨Nat.zero_le _, Nat.zero_le _⟩) hP hD hS hA [2] rfl rfl rfl (fun H locs n1 hP hD hS => ?_)
  have hP : va_P G.1 vwCl [(t, .inr (1, [.ref t_q, .int t_m])), (t_q, .inl (xI G, n, .inl t_f)), (o, .inr (1, [.ref o_q, .int o_m])), (o_q, .inl (xI G, on, .inl o_f))] H := hP
  have hD : va_D A [(t, .inr (1, [.ref t_q, .int t_m])), (t_q, .inl (xI G, n, .inl t_f)), (o, .inr (1, [.ref o_q, .int o_m])), (o_q, .inl (xI G, on, .inl o_f))] := hD
  refine lv_if_eq (tgt := 35) hx hb dX1_takeRun_7 (by decide) (fun c7 => ?_) (fun c7 => ?_)
  · have hF := itP c7 hF
    obtain rfl := Option.some.inj hF
    rw [← hQ]
    exact W.vret hx hb hr (fun t ht hW => ⟨⟨(), rfl, trivial, xLf hP ht⟩, hS.F ht⟩) hS.2.2 dX1_takeRun_35
  · have hF := itN c7 hF
    refine lv_aload_n hx hb dX1_takeRun_10 rfl (lv_at hl 0 rfl) ?_
    refine lv_iload_n hx hb dX1_takeRun_11 rfl (lv_at hl 3 rfl) ?_
    refine lv_iload hx hb dX1_takeRun_12 (lv_at hl 4 rfl) ?_
    obtain ⟨u2, e2, hF⟩ := bdS hF
    refine xEndI (xRunV (As := [.int j, .int k]) (rest := []) hZ (c_X1_hasRun G t t_q t_m j k u2 e2 l H.size) m668 m669 m670 m49 m671 2 ⟨rfl, hdX1_hasRun⟩ ⟨Nat.le_of_ble_eq_true rfl, Nat.le_of_ble_eq_true rfl⟩ ⟨rfl, rfl⟩ hP hD hS 0 1 rfl rfl rfl [0] rfl rfl rfl hl.1 rfl (Nat.le_of_ble_eq_true rfl) dX1_takeRun_14 ⟨Nat.zero_le _, Nat.zero_le _⟩) hP hD hS hA [0] rfl rfl rfl (fun H locs n2 hP hD hS => ?_)
    have hP : va_P G.1 vwCl [(t, .inr (1, [.ref t_q, .int t_m])), (t_q, .inl (xI G, n, .inl t_f)), (o, .inr (1, [.ref o_q, .int o_m])), (o_q, .inl (xI G, on, .inl o_f))] H := hP
    have hD : va_D A [(t, .inr (1, [.ref t_q, .int t_m])), (t_q, .inl (xI G, n, .inl t_f)), (o, .inr (1, [.ref o_q, .int o_m])), (o_q, .inl (xI G, on, .inl o_f))] := hD
    refine lv_if_eq (tgt := 35) hx hb dX1_takeRun_17 (by decide) (fun c17 => ?_) (fun c17 => ?_)
    · have hF := itP c17 hF
      obtain rfl := Option.some.inj hF
      rw [← hQ]
      exact W.vret hx hb hr (fun t ht hW => ⟨⟨(), rfl, trivial, xLf hP ht⟩, hS.F ht⟩) hS.2.2 dX1_takeRun_35
    · have hF := itN c17 hF
      refine lv_aload_n hx hb dX1_takeRun_20 rfl (lv_at hl 1 rfl) ?_
      refine va_get (ci := 1) (v := .ref o_q) (C := RX1) (T := TX1) (N := 2) hx hb hts (fun w h => tcons w (xin1 w h)) hown hK hP 2 rfl rfl 0 (by decide) (hts _ (tcons _ m71)) (fun _ h9 => h9) rfl dX1_takeRun_21 ?_
      refine lv_iload_n hx hb dX1_takeRun_24 rfl (lv_at hl 2 rfl) ?_
      refine lv_aload_n hx hb dX1_takeRun_25 rfl (lv_at hl 0 rfl) ?_
      refine va_get (ci := 1) (v := .ref t_q) (C := RX1) (T := TX1) (N := 2) hx hb hts (fun w h => tcons w (xin1 w h)) hown hK hP 0 rfl rfl 0 (by decide) (hts _ (tcons _ m71)) (fun _ h9 => h9) rfl dX1_takeRun_26 ?_
      refine lv_iload_n hx hb dX1_takeRun_29 rfl (lv_at hl 3 rfl) ?_
      refine lv_iload hx hb dX1_takeRun_30 (lv_at hl 4 rfl) ?_
      obtain ⟨g, hF⟩ := gdS hF
      simp only [not_or, Decidable.not_not] at g
      obtain ⟨g1, g2, g3, g4, g5⟩ := g
      refine va_copyi (sp := i) (dp := j) (n := k) hx hb (hml.trans hl.1.symm) hown (hts _ (tcons _ m664)) (hts _ (tcons _ m665)) (hts _ (tcons _ m666)) (hts _ (tcons _ m667)) hK hP hD hS 3 1 0 0 rfl rfl rfl rfl rfl g1 g2 g3 g4 g5 (fun _ _ => rfl) (Nat.le_of_ble_eq_true rfl) (Nat.le_of_ble_eq_true rfl) dX1_takeRun_32 (fun H locs hP hD hS => ?_)
      have hP : va_P G.1 vwCl [(t, .inr (1, [.ref t_q, .int t_m])), (t_q, .inl (xI G, n, .inl (va_cpy o_f t_f i.toNatClampNeg j.toNatClampNeg k.toNatClampNeg))), (o, .inr (1, [.ref o_q, .int o_m])), (o_q, .inl (xI G, on, .inl o_f))] H := hP
      have hD : va_D A [(t, .inr (1, [.ref t_q, .int t_m])), (t_q, .inl (xI G, n, .inl (va_cpy o_f t_f i.toNatClampNeg j.toNatClampNeg k.toNatClampNeg))), (o, .inr (1, [.ref o_q, .int o_m])), (o_q, .inl (xI G, on, .inl o_f))] := hD
      obtain rfl := Option.some.inj hF
      rw [← hQ]
      exact W.vret hx hb hr (fun t ht hW => ⟨⟨(), rfl, trivial, xLf hP ht⟩, hS.F ht⟩) hS.2.2 dX1_takeRun_35
def F_X1_takeRun_same (n : Nat) (t_m : Int32) (t_f : Nat → Int32) (i : Int32) (j : Int32) (k : Int32) : Option (Nat → Int32) := bd (F_X1_hasRun t_m i k) (fun (u1 : Int32) => if u1 = 0 then (some t_f) else (bd (F_X1_hasRun t_m j k) (fun (u2 : Int32) => if u2 = 0 then (some t_f) else (if (i < 0 ∨ j < 0 ∨ k < 0 ∨ ¬ (i.toNatClampNeg + k.toNatClampNeg ≤ n) ∨ ¬ (j.toNatClampNeg + k.toNatClampNeg ≤ n)) then none else (some (va_cpy t_f t_f i.toNatClampNeg j.toNatClampNeg k.toNatClampNeg))))))
set_option maxHeartbeats 4000000 in
set_option maxRecDepth 100000 in
theorem c_X1_takeRun_same (G : xG) (t : Nat) (t_q : Nat) (n : Nat) (t_m : Int32) (t_f : Nat → Int32) (i : Int32) (j : Int32) (k : Int32)  (u : (Nat → Int32)) (hF : F_X1_takeRun_same n t_m t_f i j k = some u) : Kv G yX1_takeRun (Cond.code yX1_takeRun cX1_takeRun 5 none :: TBL) { frames := 1, cells := 0, slots := 0, locals := 60 } [.ref t, .ref t, .int i, .int j, .int k] [(t, .inr (1, [.ref t_q, .int t_m])), (t_q, .inl (xI G, n, .inl t_f))] [(t, .inr (1, [.ref t_q, .int t_m])), (t_q, .inl (xI G, n, .inl u))] := by
  intro l sz
  refine Met.ofW (cc := cX1_takeRun) (maxL := 5) (ret := none) (by decide) rfl ?_
  intro p e s m args below meth c s₁ B hml hv
  obtain ⟨rfl, hsz, hP, hD0, hm⟩ := hv
  have hx := B.exec
  have hb := B.bytes
  have hr := B.returns
  have hts := atoms_spec (ws := Cond.code yX1_takeRun cX1_takeRun 5 none :: TBL) B.pre
  have hown : s.vm.findClass RX1 = some m.cls := findClass_of_methodNamed B.named
  have hlocks := B.notSynchronized
  subst hsz
  have hD := hD0.self (sz := s.heap.size)
  generalize hAe : va_A [(t, .inr (1, [.ref t_q, .int t_m])), (t_q, .inl (xI G, n, .inl t_f))] s.heap.size = A at hD hm ⊢
  have hA : ∀ q : Nat, s.heap.size ≤ q → A q := fun q h => by rw [← hAe]; exact Or.inr h
  have hK := hm.1
  have hZ : xAnd p m c cX1_takeRun 5 s _ (Cond.code yX1_takeRun cX1_takeRun 5 none :: TBL) RX1 G A := ⟨⟨hx, hb, hml, hown, hts⟩, tcons, hA, hm⟩
  have hP : va_P G.1 vwCl [(t, .inr (1, [.ref t_q, .int t_m])), (t_q, .inl (xI G, n, .inl t_f))] s.heap := hP
  have hl := lv_entry ([.ref t, .ref t, .int i, .int j, .int k]) (n := 5) (Nat.le_of_ble_eq_true rfl)
  rw [lg_entry_eq]
  generalize (lg_sl ([.ref t, .ref t, .int i, .int j, .int k]) ++ List.replicate (5 - (lg_sl ([.ref t, .ref t, .int i, .int j, .int k])).length) Slot.unset).toArray = ls at hl ⊢
  have hl : lv_has ls 5 [(0, .ref t), (1, .ref t), (2, .int i), (3, .int j), (4, .int k)] := hl
  generalize hQ : MQ below _ _ s _ _ _ = Q
  refine xGo (A := A) hP (fun H locs hP hS => ?_)
  unfold F_X1_takeRun_same at hF
  refine lv_aload_n hx hb dX1_takeRun_0 rfl (lv_at hl 1 rfl) ?_
  refine lv_iload_n hx hb dX1_takeRun_1 rfl (lv_at hl 2 rfl) ?_
  refine lv_iload hx hb dX1_takeRun_2 (lv_at hl 4 rfl) ?_
  obtain ⟨u1, e1, hF⟩ := bdS hF
  refine xEndI (xRunV (As := [.int i, .int k]) (rest := []) hZ (c_X1_hasRun G t t_q t_m i k u1 e1 l H.size) m668 m669 m670 m49 m671 2 ⟨rfl, hdX1_hasRun⟩ ⟨Nat.le_of_ble_eq_true rfl, Nat.le_of_ble_eq_true rfl⟩ ⟨rfl, rfl⟩ hP hD hS 0 1 rfl rfl rfl [0] rfl rfl rfl hl.1 rfl (Nat.le_of_ble_eq_true rfl) dX1_takeRun_4 ⟨Nat.zero_le _, Nat.zero_le _⟩) hP hD hS hA [0] rfl rfl rfl (fun H locs n1 hP hD hS => ?_)
  have hP : va_P G.1 vwCl [(t, .inr (1, [.ref t_q, .int t_m])), (t_q, .inl (xI G, n, .inl t_f))] H := hP
  have hD : va_D A [(t, .inr (1, [.ref t_q, .int t_m])), (t_q, .inl (xI G, n, .inl t_f))] := hD
  refine lv_if_eq (tgt := 35) hx hb dX1_takeRun_7 (by decide) (fun c7 => ?_) (fun c7 => ?_)
  · have hF := itP c7 hF
    obtain rfl := Option.some.inj hF
    rw [← hQ]
    exact W.vret hx hb hr (fun t ht hW => ⟨⟨(), rfl, trivial, xLf hP ht⟩, hS.F ht⟩) hS.2.2 dX1_takeRun_35
  · have hF := itN c7 hF
    refine lv_aload_n hx hb dX1_takeRun_10 rfl (lv_at hl 0 rfl) ?_
    refine lv_iload_n hx hb dX1_takeRun_11 rfl (lv_at hl 3 rfl) ?_
    refine lv_iload hx hb dX1_takeRun_12 (lv_at hl 4 rfl) ?_
    obtain ⟨u2, e2, hF⟩ := bdS hF
    refine xEndI (xRunV (As := [.int j, .int k]) (rest := []) hZ (c_X1_hasRun G t t_q t_m j k u2 e2 l H.size) m668 m669 m670 m49 m671 2 ⟨rfl, hdX1_hasRun⟩ ⟨Nat.le_of_ble_eq_true rfl, Nat.le_of_ble_eq_true rfl⟩ ⟨rfl, rfl⟩ hP hD hS 0 1 rfl rfl rfl [0] rfl rfl rfl hl.1 rfl (Nat.le_of_ble_eq_true rfl) dX1_takeRun_14 ⟨Nat.zero_le _, Nat.zero_le _⟩) hP hD hS hA [0] rfl rfl rfl (fun H locs n2 hP hD hS => ?_)
    have hP : va_P G.1 vwCl [(t, .inr (1, [.ref t_q, .int t_m])), (t_q, .inl (xI G, n, .inl t_f))] H := hP
    have hD : va_D A [(t, .inr (1, [.ref t_q, .int t_m])), (t_q, .inl (xI G, n, .inl t_f))] := hD
    refine lv_if_eq (tgt := 35) hx hb dX1_takeRun_17 (by decide) (fun c17 => ?_) (fun c17 => ?_)
    · have hF := itP c17 hF
      obtain rfl := Option.some.inj hF
      rw [← hQ]
      exact W.vret hx hb hr (fun t ht hW => ⟨⟨(), rfl, trivial, xLf hP ht⟩, hS.F ht⟩) hS.2.2 dX1_takeRun_35
    · have hF := itN c17 hF
      refine lv_aload_n hx hb dX1_takeRun_20 rfl (lv_at hl 1 rfl) ?_
      refine va_get (ci := 1) (v := .ref t_q) (C := RX1) (T := TX1) (N := 2) hx hb hts (fun w h => tcons w (xin1 w h)) hown hK hP 0 rfl rfl 0 (by decide) (hts _ (tcons _ m71)) (fun _ h9 => h9) rfl dX1_takeRun_21 ?_
      refine lv_iload_n hx hb dX1_takeRun_24 rfl (lv_at hl 2 rfl) ?_
      refine lv_aload_n hx hb dX1_takeRun_25 rfl (lv_at hl 0 rfl) ?_
      refine va_get (ci := 1) (v := .ref t_q) (C := RX1) (T := TX1) (N := 2) hx hb hts (fun w h => tcons w (xin1 w h)) hown hK hP 0 rfl rfl 0 (by decide) (hts _ (tcons _ m71)) (fun _ h9 => h9) rfl dX1_takeRun_26 ?_
      refine lv_iload_n hx hb dX1_takeRun_29 rfl (lv_at hl 3 rfl) ?_
      refine lv_iload hx hb dX1_takeRun_30 (lv_at hl 4 rfl) ?_
      obtain ⟨g, hF⟩ := gdS hF
      simp only [not_or, Decidable.not_not] at g
      obtain ⟨g1, g2, g3, g4, g5⟩ := g
      refine va_copyi (sp := i) (dp := j) (n := k) hx hb (hml.trans hl.1.symm) hown (hts _ (tcons _ m664)) (hts _ (tcons _ m665)) (hts _ (tcons _ m666)) (hts _ (tcons _ m667)) hK hP hD hS 1 1 0 0 rfl rfl rfl rfl rfl g1 g2 g3 g4 g5 (fun _ _ => rfl) (Nat.le_of_ble_eq_true rfl) (Nat.le_of_ble_eq_true rfl) dX1_takeRun_32 (fun H locs hP hD hS => ?_)
      have hP : va_P G.1 vwCl [(t, .inr (1, [.ref t_q, .int t_m])), (t_q, .inl (xI G, n, .inl (va_cpy t_f t_f i.toNatClampNeg j.toNatClampNeg k.toNatClampNeg)))] H := hP
      have hD : va_D A [(t, .inr (1, [.ref t_q, .int t_m])), (t_q, .inl (xI G, n, .inl (va_cpy t_f t_f i.toNatClampNeg j.toNatClampNeg k.toNatClampNeg)))] := hD
      obtain rfl := Option.some.inj hF
      rw [← hQ]
      exact W.vret hx hb hr (fun t ht hW => ⟨⟨(), rfl, trivial, xLf hP ht⟩, hS.F ht⟩) hS.2.2 dX1_takeRun_35
def F_X1_takeAll (n : Nat) (on : Nat) (t_f : Nat → Int32) (o_m : Int32) (o_f : Nat → Int32) : Option (Int32 × (Nat → Int32)) := bd (F_X1_takeRun n on (if (nI n) < o_m then (nI n) else o_m) t_f o_m o_f (0 : Int32) (0 : Int32) (if (nI n) < o_m then (nI n) else o_m)) (fun (u1 : (Nat → Int32)) => some ((if (nI n) < o_m then (nI n) else o_m), u1))
theorem hdX1_takeAll : yX1_takeAll.cls ≠ "java/lang/invoke/MethodHandle" ∧ yX1_takeAll.cls ≠ "java/lang/invoke/VarHandle" ∧ (parseMethodDescriptor yX1_takeAll.desc).map (fun d => d.parameters.length) = some 1 := by decide +kernel
set_option maxHeartbeats 4000000 in
set_option maxRecDepth 100000 in
theorem c_X1_takeAll (G : xG) (t : Nat) (t_q : Nat) (o : Nat) (o_q : Nat) (n : Nat) (on : Nat) (t_m : Int32) (t_f : Nat → Int32) (o_m : Int32) (o_f : Nat → Int32)  (u : (Int32 × (Nat → Int32))) (hF : F_X1_takeAll n on t_f o_m o_f = some u) : Kv G yX1_takeAll (Cond.code yX1_takeAll cX1_takeAll 2 none :: TBL) { frames := 2, cells := 0, slots := 0, locals := 84 } [.ref t, .ref o] [(t, .inr (1, [.ref t_q, .int t_m])), (t_q, .inl (xI G, n, .inl t_f)), (o, .inr (1, [.ref o_q, .int o_m])), (o_q, .inl (xI G, on, .inl o_f))] [(t, .inr (1, [.ref t_q, .int u.1])), (t_q, .inl (xI G, n, .inl u.2)), (o, .inr (1, [.ref o_q, .int o_m])), (o_q, .inl (xI G, on, .inl o_f))] := by
  intro l sz
  refine Met.ofW (cc := cX1_takeAll) (maxL := 2) (ret := none) (by decide) rfl ?_
  intro p e s m args below meth c s₁ B hml hv
  obtain ⟨rfl, hsz, hP, hD0, hm⟩ := hv
  have hx := B.exec
  have hb := B.bytes
  have hr := B.returns
  have hts := atoms_spec (ws := Cond.code yX1_takeAll cX1_takeAll 2 none :: TBL) B.pre
  have hown : s.vm.findClass RX1 = some m.cls := findClass_of_methodNamed B.named
  have hlocks := B.notSynchronized
  subst hsz
  have hD := hD0.self (sz := s.heap.size)
  generalize hAe : va_A [(t, .inr (1, [.ref t_q, .int t_m])), (t_q, .inl (xI G, n, .inl t_f)), (o, .inr (1, [.ref o_q, .int o_m])), (o_q, .inl (xI G, on, .inl o_f))] s.heap.size = A at hD hm ⊢
  have hA : ∀ q : Nat, s.heap.size ≤ q → A q := fun q h => by rw [← hAe]; exact Or.inr h
  have hK := hm.1
  have hZ : xAnd p m c cX1_takeAll 2 s _ (Cond.code yX1_takeAll cX1_takeAll 2 none :: TBL) RX1 G A := ⟨⟨hx, hb, hml, hown, hts⟩, tcons, hA, hm⟩
  have hP : va_P G.1 vwCl [(t, .inr (1, [.ref t_q, .int t_m])), (t_q, .inl (xI G, n, .inl t_f)), (o, .inr (1, [.ref o_q, .int o_m])), (o_q, .inl (xI G, on, .inl o_f))] s.heap := hP
  have hl := lv_entry ([.ref t, .ref o]) (n := 2) (Nat.le_of_ble_eq_true rfl)
  rw [lg_entry_eq]
  generalize (lg_sl ([.ref t, .ref o]) ++ List.replicate (2 - (lg_sl ([.ref t, .ref o])).length) Slot.unset).toArray = ls at hl ⊢
  have hl : lv_has ls 2 [(0, .ref t), (1, .ref o)] := hl
  generalize hQ : MQ below _ _ s _ _ _ = Q
  refine xGo (A := A) hP (fun H locs hP hS => ?_)
  unfold F_X1_takeAll at hF
  refine lv_aload_n hx hb dX1_takeAll_0 rfl (lv_at hl 0 rfl) ?_
  refine lv_aload_n hx hb dX1_takeAll_1 rfl (lv_at hl 1 rfl) ?_
  refine va_get (ci := 1) (v := .int o_m) (C := RX1) (T := TX1) (N := 2) hx hb hts (fun w h => tcons w (xin1 w h)) hown hK hP 2 rfl rfl 1 (by decide) (hts _ (tcons _ m66)) (fun _ h9 => h9) rfl dX1_takeAll_2 ?_
  refine lv_aload_n hx hb dX1_takeAll_5 rfl (lv_at hl 0 rfl) ?_
  refine va_get (ci := 1) (v := .ref t_q) (C := RX1) (T := TX1) (N := 2) hx hb hts (fun w h => tcons w (xin1 w h)) hown hK hP 0 rfl rfl 0 (by decide) (hts _ (tcons _ m71)) (fun _ h9 => h9) rfl dX1_takeAll_6 ?_
  refine va_alen (v := (nI n)) hx hb hK hP 1 0 rfl rfl rfl dX1_takeAll_9 ?_
  refine va_mmin hx hb (hml.trans hl.1.symm) hown (hts _ (tcons _ m659)) (hts _ (tcons _ m273)) (hts _ (tcons _ m69)) (hts _ (tcons _ m274)) (Nat.le_of_ble_eq_true rfl) (Nat.le_of_ble_eq_true rfl) (Nat.zero_le _) (Nat.zero_le _) dX1_takeAll_10 ?_
  refine va_put (ci := 1) (v := .int (if (nI n) < o_m then (nI n) else o_m)) (ty := .int) (C := RX1) (T := TX1) (N := 2) hx hb hts (fun w h => tcons w (xin1 w h)) tyX1 tyX1_ok nmX1 hown hK hP hD hS 0 rfl rfl 1 (by decide) (hts _ (tcons _ m66)) (fun _ h9 => h9) rfl (by decide +kernel) rfl rfl (Nat.le_of_ble_eq_true rfl) dX1_takeAll_13 (fun H locs hP hD hS => ?_)
  have hP : va_P G.1 vwCl [(t, .inr (1, [.ref t_q, .int (if (nI n) < o_m then (nI n) else o_m)])), (t_q, .inl (xI G, n, .inl t_f)), (o, .inr (1, [.ref o_q, .int o_m])), (o_q, .inl (xI G, on, .inl o_f))] H := hP
  have hD : va_D A [(t, .inr (1, [.ref t_q, .int (if (nI n) < o_m then (nI n) else o_m)])), (t_q, .inl (xI G, n, .inl t_f)), (o, .inr (1, [.ref o_q, .int o_m])), (o_q, .inl (xI G, on, .inl o_f))] := hD
  refine lv_aload_n hx hb dX1_takeAll_16 rfl (lv_at hl 0 rfl) ?_
  refine lv_aload_n hx hb dX1_takeAll_17 rfl (lv_at hl 1 rfl) ?_
  refine lv_iconst (v := 0) hx hb dX1_takeAll_18 (by decide) ?_
  refine lv_iconst (v := 0) hx hb dX1_takeAll_19 (by decide) ?_
  refine lv_aload_n hx hb dX1_takeAll_20 rfl (lv_at hl 0 rfl) ?_
  refine va_get (ci := 1) (v := .int (if (nI n) < o_m then (nI n) else o_m)) (C := RX1) (T := TX1) (N := 2) hx hb hts (fun w h => tcons w (xin1 w h)) hown hK hP 0 rfl rfl 1 (by decide) (hts _ (tcons _ m66)) (fun _ h9 => h9) rfl dX1_takeAll_21 ?_
  obtain ⟨u1, e1, hF⟩ := bdS hF
  refine xEndV (xRunV (As := [.ref o, .int (0 : Int32), .int (0 : Int32), .int (if (nI n) < o_m then (nI n) else o_m)]) (rest := []) hZ (c_X1_takeRun G t t_q o o_q n on (if (nI n) < o_m then (nI n) else o_m) t_f o_m o_f (0 : Int32) (0 : Int32) (if (nI n) < o_m then (nI n) else o_m) u1 e1 l H.size) m660 m661 m662 m49 m663 4 ⟨rfl, hdX1_takeRun⟩ ⟨Nat.le_of_ble_eq_true rfl, Nat.le_of_ble_eq_true rfl⟩ ⟨rfl, rfl⟩ hP hD hS 0 1 rfl rfl rfl [0, 1, 2, 3] rfl rfl rfl hl.1 rfl (Nat.le_of_ble_eq_true rfl) dX1_takeAll_24 ⟨Nat.zero_le _, Nat.zero_le _⟩) hP hD hS hA [0, 1, 2, 3] rfl rfl rfl (fun H locs hP hD hS => ?_)
  have hP : va_P G.1 vwCl [(t, .inr (1, [.ref t_q, .int (if (nI n) < o_m then (nI n) else o_m)])), (t_q, .inl (xI G, n, .inl u1)), (o, .inr (1, [.ref o_q, .int o_m])), (o_q, .inl (xI G, on, .inl o_f))] H := hP
  have hD : va_D A [(t, .inr (1, [.ref t_q, .int (if (nI n) < o_m then (nI n) else o_m)])), (t_q, .inl (xI G, n, .inl u1)), (o, .inr (1, [.ref o_q, .int o_m])), (o_q, .inl (xI G, on, .inl o_f))] := hD
  obtain rfl := Option.some.inj hF
  rw [← hQ]
  exact W.vret hx hb hr (fun t ht hW => ⟨⟨(), rfl, trivial, xLf hP ht⟩, hS.F ht⟩) hS.2.2 dX1_takeAll_27
