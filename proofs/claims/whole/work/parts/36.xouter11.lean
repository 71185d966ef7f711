def F_X7_tell (wai_m : Int32) (wai_f : Nat → Int32) (er_f : Nat → Int32) (vo : Int32) : Option (Int32 × Int32 × (Nat → Int32) × (Nat → Int32)) := bd (F_X1_many wai_m) (fun (u1 : Int32) => if u1 < (24 : Int32) then (bd (F_X1_add 24 wai_m wai_f vo) (fun (u2 : (Int32 × (Nat → Int32))) => bd (F_X1_many u2.1) (fun (u3 : Int32) => some (u3, u2.1, u2.2, er_f)))) else (bd (F_X7_error er_f (4 : Int32)) (fun (u2 : (Int32 × (Nat → Int32))) => some (u2.1, wai_m, wai_f, u2.2))))
theorem hdX7_tell : yX7_tell.cls ≠ "java/lang/invoke/MethodHandle" ∧ yX7_tell.cls ≠ "java/lang/invoke/VarHandle" ∧ (parseMethodDescriptor yX7_tell.desc).map (fun d => d.parameters.length) = some 1 := by decide +kernel
set_option maxHeartbeats 4000000 in
set_option maxRecDepth 100000 in
theorem c_X7_tell (G : xG) (t : Nat) (st : Nat) (kp : Nat) (vs : Nat) (rd : Nat) (wk : Nat) (chr : Nat) (shs : Nat) (er : Nat) (kinds : Nat) (ms : Nat) (said : Nat) (signs : Nat) (tape : Nat) (avo : Nat) (tal : Nat) (wai : Nat) (wai_q : Nat) (hasI : Int32) (imgs : Int32) (vow : Int32) (day : Int32) (worth : Int32) (z : Int32) (wai_m : Int32) (wai_f : Nat → Int32) (er_f : Nat → Int32) (vo : Int32)  (u : (Int32 × Int32 × (Nat → Int32) × (Nat → Int32))) (hF : F_X7_tell wai_m wai_f er_f vo = some u) : Ki G .int yX7_tell (Cond.code yX7_tell cX7_tell 2 (some .int) :: TBL) { frames := 2, cells := 0, slots := 0, locals := 43 } [.ref t, .int vo] [(t, .inr (7, [.ref st, .ref kp, .int hasI, .int imgs, .ref vs, .ref rd, .ref wk, .ref chr, .ref shs, .ref er])), (st, .inr (3, [.ref kinds, .ref ms, .ref said, .ref signs, .ref tape, .ref avo, .ref tal, .ref wai, .int vow, .int day, .int worth, .int z])), (wai, .inr (1, [.ref wai_q, .int wai_m])), (wai_q, .inl (xI G, 24, .inl wai_f)), (er, .inl (xI G, 7, .inl er_f))] [(t, .inr (7, [.ref st, .ref kp, .int hasI, .int imgs, .ref vs, .ref rd, .ref wk, .ref chr, .ref shs, .ref er])), (st, .inr (3, [.ref kinds, .ref ms, .ref said, .ref signs, .ref tape, .ref avo, .ref tal, .ref wai, .int vow, .int day, .int worth, .int z])), (wai, .inr (1, [.ref wai_q, .int u.2.1])), (wai_q, .inl (xI G, 24, .inl u.2.2.1)), (er, .inl (xI G, 7, .inl u.2.2.2))] u.1 := by
  intro l sz
  refine Met.ofW (cc := cX7_tell) (maxL := 2) (ret := (some .int)) (by decide) rfl ?_
  intro p e s m args below meth c s₁ B hml hv
  obtain ⟨rfl, hsz, hP, hD0, hm⟩ := hv
  have hx := B.exec
  have hb := B.bytes
  have hr := B.returns
  have hts := atoms_spec (ws := Cond.code yX7_tell cX7_tell 2 (some .int) :: TBL) B.pre
  have hown : s.vm.findClass RX7 = some m.cls := findClass_of_methodNamed B.named
  have hlocks := B.notSynchronized
  subst hsz
  have hD := hD0.self (sz := s.heap.size)
  generalize hAe : va_A [(t, .inr (7, [.ref st, .ref kp, .int hasI, .int imgs, .ref vs, .ref rd, .ref wk, .ref chr, .ref shs, .ref er])), (st, .inr (3, [.ref kinds, .ref ms, .ref said, .ref signs, .ref tape, .ref avo, .ref tal, .ref wai, .int vow, .int day, .int worth, .int z])), (wai, .inr (1, [.ref wai_q, .int wai_m])), (wai_q, .inl (xI G, 24, .inl wai_f)), (er, .inl (xI G, 7, .inl er_f))] s.heap.size = A at hD hm ⊢
  have hA : ∀ q : Nat, s.heap.size ≤ q → A q := fun q h => by rw [← hAe]; exact Or.inr h
  have hK := hm.1
  have hZ : xAnd p m c cX7_tell 2 s _ (Cond.code yX7_tell cX7_tell 2 (some .int) :: TBL) RX7 G A := ⟨⟨hx, hb, hml, hown, hts⟩, tcons, hA, hm⟩
  have hP : va_P G.1 vwCl [(t, .inr (7, [.ref st, .ref kp, .int hasI, .int imgs, .ref vs, .ref rd, .ref wk, .ref chr, .ref shs, .ref er])), (st, .inr (3, [.ref kinds, .ref ms, .ref said, .ref signs, .ref tape, .ref avo, .ref tal, .ref wai, .int vow, .int day, .int worth, .int z])), (wai, .inr (1, [.ref wai_q, .int wai_m])), (wai_q, .inl (xI G, 24, .inl wai_f)), (er, .inl (xI G, 7, .inl er_f))] s.heap := hP
  have hl := lv_entry ([.ref t, .int vo]) (n := 2) (Nat.le_of_ble_eq_true rfl)
  rw [lg_entry_eq]
  generalize (lg_sl ([.ref t, .int vo]) ++ List.replicate (2 - (lg_sl ([.ref t, .int vo])).length) Slot.unset).toArray = ls at hl ⊢
  have hl : lv_has ls 2 [(0, .ref t), (1, .int vo)] := hl
  generalize hQ : MQ below _ _ s _ _ _ = Q
  refine xGo (A := A) hP (fun H locs hP hS => ?_)
  unfold F_X7_tell at hF
  refine lv_aload_n hx hb dX7_tell_0 rfl (lv_at hl 0 rfl) ?_
  refine va_get (ci := 7) (v := .ref st) (C := RX7) (T := TX7) (N := 10) hx hb hts (fun w h => tcons w (xin7 w h)) hown hK hP 0 rfl rfl 0 (by decide) (hts _ (tcons _ m16)) (fun _ h9 => h9) rfl dX7_tell_1 ?_
  refine va_get (ci := 3) (v := .ref wai) (C := RX3) (T := TX3) (N := 12) hx hb hts (fun w h => tcons w (xin3 w h)) hown hK hP 1 rfl rfl 7 (by decide) (hts _ (tcons _ m1088)) (fun _ h9 => h9) rfl dX7_tell_4 ?_
  obtain ⟨u1, e1, hF⟩ := bdS hF
  refine xEndI (xRunV (As := []) (rest := []) hZ (c_X1_many G wai wai_q wai_m u1 e1 l H.size) m246 m126 m127 m49 m128 0 ⟨rfl, hdX1_many⟩ ⟨Nat.le_of_ble_eq_true rfl, Nat.le_of_ble_eq_true rfl⟩ ⟨rfl, rfl⟩ hP hD hS 2 1 rfl rfl rfl [2] rfl rfl rfl hl.1 rfl (Nat.le_of_ble_eq_true rfl) dX7_tell_7 ⟨Nat.zero_le _, Nat.zero_le _⟩) hP hD hS hA [2] rfl rfl rfl (fun H locs n1 hP hD hS => ?_)
  have hP : va_P G.1 vwCl [(t, .inr (7, [.ref st, .ref kp, .int hasI, .int imgs, .ref vs, .ref rd, .ref wk, .ref chr, .ref shs, .ref er])), (st, .inr (3, [.ref kinds, .ref ms, .ref said, .ref signs, .ref tape, .ref avo, .ref tal, .ref wai, .int vow, .int day, .int worth, .int z])), (wai, .inr (1, [.ref wai_q, .int wai_m])), (wai_q, .inl (xI G, 24, .inl wai_f)), (er, .inl (xI G, 7, .inl er_f))] H := hP
  have hD : va_D A [(t, .inr (7, [.ref st, .ref kp, .int hasI, .int imgs, .ref vs, .ref rd, .ref wk, .ref chr, .ref shs, .ref er])), (st, .inr (3, [.ref kinds, .ref ms, .ref said, .ref signs, .ref tape, .ref avo, .ref tal, .ref wai, .int vow, .int day, .int worth, .int z])), (wai, .inr (1, [.ref wai_q, .int wai_m])), (wai_q, .inl (xI G, 24, .inl wai_f)), (er, .inl (xI G, 7, .inl er_f))] := hD
  refine lv_bipush (v := 24) hx hb dX7_tell_10 (by decide) ?_
  refine lv_icmp_lt (tgt := 21) hx hb dX7_tell_12 (by decide) (fun c12 => ?_) (fun c12 => ?_)
  · have hF := itP c12 hF
    refine lv_aload_n hx hb dX7_tell_21 rfl (lv_at hl 0 rfl) ?_
    refine va_get (ci := 7) (v := .ref st) (C := RX7) (T := TX7) (N := 10) hx hb hts (fun w h => tcons w (xin7 w h)) hown hK hP 0 rfl rfl 0 (by decide) (hts _ (tcons _ m16)) (fun _ h9 => h9) rfl dX7_tell_22 ?_
    refine va_get (ci := 3) (v := .ref wai) (C := RX3) (T := TX3) (N := 12) hx hb hts (fun w h => tcons w (xin3 w h)) hown hK hP 1 rfl rfl 7 (by decide) (hts _ (tcons _ m1088)) (fun _ h9 => h9) rfl dX7_tell_25 ?_
    refine lv_iload_n hx hb dX7_tell_28 rfl (lv_at hl 1 rfl) ?_
    obtain ⟨u2, e2, hF⟩ := bdS hF
    refine xEndV (xRunV (As := [.int vo]) (rest := []) hZ (c_X1_add G wai wai_q 24 wai_m wai_f vo u2 e2 l H.size) m177 m178 m179 m49 m180 1 ⟨rfl, hdX1_add⟩ ⟨Nat.le_of_ble_eq_true rfl, Nat.le_of_ble_eq_true rfl⟩ ⟨rfl, rfl⟩ hP hD hS 2 1 rfl rfl rfl [2, 3] rfl rfl rfl hl.1 rfl (Nat.le_of_ble_eq_true rfl) dX7_tell_29 ⟨Nat.zero_le _, Nat.zero_le _⟩) hP hD hS hA [2, 3] rfl rfl rfl (fun H locs hP hD hS => ?_)
    have hP : va_P G.1 vwCl [(t, .inr (7, [.ref st, .ref kp, .int hasI, .int imgs, .ref vs, .ref rd, .ref wk, .ref chr, .ref shs, .ref er])), (st, .inr (3, [.ref kinds, .ref ms, .ref said, .ref signs, .ref tape, .ref avo, .ref tal, .ref wai, .int vow, .int day, .int worth, .int z])), (wai, .inr (1, [.ref wai_q, .int u2.1])), (wai_q, .inl (xI G, 24, .inl u2.2)), (er, .inl (xI G, 7, .inl er_f))] H := hP
    have hD : va_D A [(t, .inr (7, [.ref st, .ref kp, .int hasI, .int imgs, .ref vs, .ref rd, .ref wk, .ref chr, .ref shs, .ref er])), (st, .inr (3, [.ref kinds, .ref ms, .ref said, .ref signs, .ref tape, .ref avo, .ref tal, .ref wai, .int vow, .int day, .int worth, .int z])), (wai, .inr (1, [.ref wai_q, .int u2.1])), (wai_q, .inl (xI G, 24, .inl u2.2)), (er, .inl (xI G, 7, .inl er_f))] := hD
    refine lv_aload_n hx hb dX7_tell_32 rfl (lv_at hl 0 rfl) ?_
    refine va_get (ci := 7) (v := .ref st) (C := RX7) (T := TX7) (N := 10) hx hb hts (fun w h => tcons w (xin7 w h)) hown hK hP 0 rfl rfl 0 (by decide) (hts _ (tcons _ m16)) (fun _ h9 => h9) rfl dX7_tell_33 ?_
    refine va_get (ci := 3) (v := .ref wai) (C := RX3) (T := TX3) (N := 12) hx hb hts (fun w h => tcons w (xin3 w h)) hown hK hP 1 rfl rfl 7 (by decide) (hts _ (tcons _ m1088)) (fun _ h9 => h9) rfl dX7_tell_36 ?_
    obtain ⟨u3, e3, hF⟩ := bdS hF
    refine xEndI (xRunV (As := []) (rest := []) hZ (c_X1_many G wai wai_q u2.1 u3 e3 l H.size) m246 m126 m127 m49 m128 0 ⟨rfl, hdX1_many⟩ ⟨Nat.le_of_ble_eq_true rfl, Nat.le_of_ble_eq_true rfl⟩ ⟨rfl, rfl⟩ hP hD hS 2 1 rfl rfl rfl [2] rfl rfl rfl hl.1 rfl (Nat.le_of_ble_eq_true rfl) dX7_tell_39 ⟨Nat.zero_le _, Nat.zero_le _⟩) hP hD hS hA [2] rfl rfl rfl (fun H locs n3 hP hD hS => ?_)
    have hP : va_P G.1 vwCl [(t, .inr (7, [.ref st, .ref kp, .int hasI, .int imgs, .ref vs, .ref rd, .ref wk, .ref chr, .ref shs, .ref er])), (st, .inr (3, [.ref kinds, .ref ms, .ref said, .ref signs, .ref tape, .ref avo, .ref tal, .ref wai, .int vow, .int day, .int worth, .int z])), (wai, .inr (1, [.ref wai_q, .int u2.1])), (wai_q, .inl (xI G, 24, .inl u2.2)), (er, .inl (xI G, 7, .inl er_f))] H := hP
    have hD : va_D A [(t, .inr (7, [.ref st, .ref kp, .int hasI, .int imgs, .ref vs, .ref rd, .ref wk, .ref chr, .ref shs, .ref er])), (st, .inr (3, [.ref kinds, .ref ms, .ref said, .ref signs, .ref tape, .ref avo, .ref tal, .ref wai, .int vow, .int day, .int worth, .int z])), (wai, .inr (1, [.ref wai_q, .int u2.1])), (wai_q, .inl (xI G, 24, .inl u2.2)), (er, .inl (xI G, 7, .inl er_f))] := hD
    obtain rfl := Option.some.inj hF
    rw [← hQ]
    exact W.iret (v := u3) hx hb hr (fun t ht hW => ⟨⟨_, (), rfl, ⟨rfl, rfl⟩, xLf hP ht⟩, hS.F ht⟩) hS.2.2 dX7_tell_42
  · have hF := itN c12 hF
    refine lv_aload_n hx hb dX7_tell_15 rfl (lv_at hl 0 rfl) ?_
    refine lv_iconst (v := 4) hx hb dX7_tell_16 (by decide) ?_
    obtain ⟨u2, e2, hF⟩ := bdS hF
    refine xEndI (xRunV (As := [.int (4 : Int32)]) (rest := []) hZ (c_X7_error G t st kp vs rd wk chr shs er hasI imgs er_f (4 : Int32) u2 e2 l H.size) m167 m168 m169 m2 m170 1 ⟨rfl, hdX7_error⟩ ⟨Nat.le_of_ble_eq_true rfl, Nat.le_of_ble_eq_true rfl⟩ ⟨rfl, rfl⟩ hP hD hS 0 7 rfl rfl rfl [0, 4] rfl rfl rfl hl.1 rfl (Nat.le_of_ble_eq_true rfl) dX7_tell_17 ⟨Nat.zero_le _, Nat.zero_le _⟩) hP hD hS hA [0, 4] rfl rfl rfl (fun H locs n2 hP hD hS => ?_)
    have hP : va_P G.1 vwCl [(t, .inr (7, [.ref st, .ref kp, .int hasI, .int imgs, .ref vs, .ref rd, .ref wk, .ref chr, .ref shs, .ref er])), (st, .inr (3, [.ref kinds, .ref ms, .ref said, .ref signs, .ref tape, .ref avo, .ref tal, .ref wai, .int vow, .int day, .int worth, .int z])), (wai, .inr (1, [.ref wai_q, .int wai_m])), (wai_q, .inl (xI G, 24, .inl wai_f)), (er, .inl (xI G, 7, .inl u2.2))] H := hP
    have hD : va_D A [(t, .inr (7, [.ref st, .ref kp, .int hasI, .int imgs, .ref vs, .ref rd, .ref wk, .ref chr, .ref shs, .ref er])), (st, .inr (3, [.ref kinds, .ref ms, .ref said, .ref signs, .ref tape, .ref avo, .ref tal, .ref wai, .int vow, .int day, .int worth, .int z])), (wai, .inr (1, [.ref wai_q, .int wai_m])), (wai_q, .inl (xI G, 24, .inl wai_f)), (er, .inl (xI G, 7, .inl u2.2))] := hD
    obtain rfl := Option.some.inj hF
    rw [← hQ]
    exact W.iret (v := u2.1) hx hb hr (fun t ht hW => ⟨⟨_, (), rfl, ⟨rfl, rfl⟩, xLf hP ht⟩, hS.F ht⟩) hS.2.2 dX7_tell_20
def B_X7_check_15 (kinds_m : Int32) (said_m : Int32) (said_f : Nat → Int32) (wai_m : Int32) (wai_f : Nat → Int32) (k15 : (Int32 × Int32) → Option (Int32 × Int32)) (v15 : (Int32 × Int32)) : Option (Int32 × Int32) := if v15.2 < 0 then (bd (F_X1_many wai_m) (fun (u2 : Int32) => if u2 ≤ v15.1 then (bd (F_X1_clear) (fun (u3 : Int32) => some ((0 : Int32), u3))) else (bd (F_X1_clear) (fun (u3 : Int32) => some (((1 : Int32) + v15.1), u3))))) else (bd (F_X7_isBrother kinds_m v15.2) (fun (u2 : Int32) => if u2 = 0 then (k15 (v15.2, (v15.2 + (-1 : Int32)))) else (bd (F_X1_get 6 said_m said_f v15.2) (fun (u3 : Int32) => bd (F_X1_get 24 wai_m wai_f v15.2) (fun (u4 : Int32) => if u3 = u4 then (k15 (v15.1, (v15.2 + (-1 : Int32)))) else (k15 (v15.2, (v15.2 + (-1 : Int32)))))))))
def F_X7_check (kinds_m : Int32) (said_m : Int32) (said_f : Nat → Int32) (wai_m : Int32) (wai_f : Nat → Int32) : Option (Int32 × Int32) := bd (F_X1_many wai_m) (fun (u1 : Int32) => lp (B_X7_check_15 kinds_m said_m said_f wai_m wai_f) fuelC (u1, (u1 - (1 : Int32))))
theorem hdX7_check : yX7_check.cls ≠ "java/lang/invoke/MethodHandle" ∧ yX7_check.cls ≠ "java/lang/invoke/VarHandle" ∧ (parseMethodDescriptor yX7_check.desc).map (fun d => d.parameters.length) = some 0 := by decide +kernel
set_option maxHeartbeats 4000000 in
set_option maxRecDepth 100000 in
theorem c_X7_check (G : xG) (t : Nat) (st : Nat) (kp : Nat) (vs : Nat) (rd : Nat) (wk : Nat) (chr : Nat) (shs : Nat) (er : Nat) (kinds : Nat) (ms : Nat) (said : Nat) (signs : Nat) (tape : Nat) (avo : Nat) (tal : Nat) (wai : Nat) (kinds_q : Nat) (said_q : Nat) (wai_q : Nat) (hasI : Int32) (imgs : Int32) (vow : Int32) (day : Int32) (worth : Int32) (z : Int32) (kinds_m : Int32) (said_m : Int32) (said_f : Nat → Int32) (wai_m : Int32) (wai_f : Nat → Int32)  (u : (Int32 × Int32)) (hF : F_X7_check kinds_m said_m said_f wai_m wai_f = some u) : Ki G .int yX7_check (Cond.code yX7_check cX7_check 3 (some .int) :: TBL) { frames := 2, cells := 0, slots := 0, locals := 42 } [.ref t] [(t, .inr (7, [.ref st, .ref kp, .int hasI, .int imgs, .ref vs, .ref rd, .ref wk, .ref chr, .ref shs, .ref er])), (st, .inr (3, [.ref kinds, .ref ms, .ref said, .ref signs, .ref tape, .ref avo, .ref tal, .ref wai, .int vow, .int day, .int worth, .int z])), (kinds, .inr (1, [.ref kinds_q, .int kinds_m])), (said, .inr (1, [.ref said_q, .int said_m])), (said_q, .inl (xI G, 6, .inl said_f)), (wai, .inr (1, [.ref wai_q, .int wai_m])), (wai_q, .inl (xI G, 24, .inl wai_f))] [(t, .inr (7, [.ref st, .ref kp, .int hasI, .int imgs, .ref vs, .ref rd, .ref wk, .ref chr, .ref shs, .ref er])), (st, .inr (3, [.ref kinds, .ref ms, .ref said, .ref signs, .ref tape, .ref avo, .ref tal, .ref wai, .int vow, .int day, .int worth, .int z])), (kinds, .inr (1, [.ref kinds_q, .int kinds_m])), (said, .inr (1, [.ref said_q, .int said_m])), (said_q, .inl (xI G, 6, .inl said_f)), (wai, .inr (1, [.ref wai_q, .int u.2])), (wai_q, .inl (xI G, 24, .inl wai_f))] u.1 := by
  intro l sz
  refine Met.ofW (cc := cX7_check) (maxL := 3) (ret := (some .int)) (by decide) rfl ?_
  intro p e s m args below meth c s₁ B hml hv
  obtain ⟨rfl, hsz, hP, hD0, hm⟩ := hv
  have hx := B.exec
  have hb := B.bytes
  have hr := B.returns
  have hts := atoms_spec (ws := Cond.code yX7_check cX7_check 3 (some .int) :: TBL) B.pre
  have hown : s.vm.findClass RX7 = some m.cls := findClass_of_methodNamed B.named
  have hlocks := B.notSynchronized
  subst hsz
  have hD := hD0.self (sz := s.heap.size)
  generalize hAe : va_A [(t, .inr (7, [.ref st, .ref kp, .int hasI, .int imgs, .ref vs, .ref rd, .ref wk, .ref chr, .ref shs, .ref er])), (st, .inr (3, [.ref kinds, .ref ms, .ref said, .ref signs, .ref tape, .ref avo, .ref tal, .ref wai, .int vow, .int day, .int worth, .int z])), (kinds, .inr (1, [.ref kinds_q, .int kinds_m])), (said, .inr (1, [.ref said_q, .int said_m])), (said_q, .inl (xI G, 6, .inl said_f)), (wai, .inr (1, [.ref wai_q, .int wai_m])), (wai_q, .inl (xI G, 24, .inl wai_f))] s.heap.size = A at hD hm ⊢
  have hA : ∀ q : Nat, s.heap.size ≤ q → A q := fun q h => by rw [← hAe]; exact Or.inr h
  have hK := hm.1
  have hZ : xAnd p m c cX7_check 3 s _ (Cond.code yX7_check cX7_check 3 (some .int) :: TBL) RX7 G A := ⟨⟨hx, hb, hml, hown, hts⟩, tcons, hA, hm⟩
  have hP : va_P G.1 vwCl [(t, .inr (7, [.ref st, .ref kp, .int hasI, .int imgs, .ref vs, .ref rd, .ref wk, .ref chr, .ref shs, .ref er])), (st, .inr (3, [.ref kinds, .ref ms, .ref said, .ref signs, .ref tape, .ref avo, .ref tal, .ref wai, .int vow, .int day, .int worth, .int z])), (kinds, .inr (1, [.ref kinds_q, .int kinds_m])), (said, .inr (1, [.ref said_q, .int said_m])), (said_q, .inl (xI G, 6, .inl said_f)), (wai, .inr (1, [.ref wai_q, .int wai_m])), (wai_q, .inl (xI G, 24, .inl wai_f))] s.heap := hP
  have hl := lv_entry ([.ref t]) (n := 3) (Nat.le_of_ble_eq_true rfl)
  rw [lg_entry_eq]
  generalize (lg_sl ([.ref t]) ++ List.replicate (3 - (lg_sl ([.ref t])).length) Slot.unset).toArray = ls at hl ⊢
  have hl : lv_has ls 3 [(0, .ref t)] := hl
  generalize hQ : MQ below _ _ s _ _ _ = Q
  refine xGo (A := A) hP (fun H locs hP hS => ?_)
  unfold F_X7_check at hF
  refine lv_aload_n hx hb dX7_check_0 rfl (lv_at hl 0 rfl) ?_
  refine va_get (ci := 7) (v := .ref st) (C := RX7) (T := TX7) (N := 10) hx hb hts (fun w h => tcons w (xin7 w h)) hown hK hP 0 rfl rfl 0 (by decide) (hts _ (tcons _ m16)) (fun _ h9 => h9) rfl dX7_check_1 ?_
  refine va_get (ci := 3) (v := .ref wai) (C := RX3) (T := TX3) (N := 12) hx hb hts (fun w h => tcons w (xin3 w h)) hown hK hP 1 rfl rfl 7 (by decide) (hts _ (tcons _ m1088)) (fun _ h9 => h9) rfl dX7_check_4 ?_
  obtain ⟨u1, e1, hF⟩ := bdS hF
  refine xEndI (xRunV (As := []) (rest := []) hZ (c_X1_many G wai wai_q wai_m u1 e1 l H.size) m246 m126 m127 m49 m128 0 ⟨rfl, hdX1_many⟩ ⟨Nat.le_of_ble_eq_true rfl, Nat.le_of_ble_eq_true rfl⟩ ⟨rfl, rfl⟩ hP hD hS 5 1 rfl rfl rfl [5] rfl rfl rfl hl.1 rfl (Nat.le_of_ble_eq_true rfl) dX7_check_7 ⟨Nat.zero_le _, Nat.zero_le _⟩) hP hD hS hA [5] rfl rfl rfl (fun H locs n1 hP hD hS => ?_)
  have hP : va_P G.1 vwCl [(t, .inr (7, [.ref st, .ref kp, .int hasI, .int imgs, .ref vs, .ref rd, .ref wk, .ref chr, .ref shs, .ref er])), (st, .inr (3, [.ref kinds, .ref ms, .ref said, .ref signs, .ref tape, .ref avo, .ref tal, .ref wai, .int vow, .int day, .int worth, .int z])), (kinds, .inr (1, [.ref kinds_q, .int kinds_m])), (said, .inr (1, [.ref said_q, .int said_m])), (said_q, .inl (xI G, 6, .inl said_f)), (wai, .inr (1, [.ref wai_q, .int wai_m])), (wai_q, .inl (xI G, 24, .inl wai_f))] H := hP
  have hD : va_D A [(t, .inr (7, [.ref st, .ref kp, .int hasI, .int imgs, .ref vs, .ref rd, .ref wk, .ref chr, .ref shs, .ref er])), (st, .inr (3, [.ref kinds, .ref ms, .ref said, .ref signs, .ref tape, .ref avo, .ref tal, .ref wai, .int vow, .int day, .int worth, .int z])), (kinds, .inr (1, [.ref kinds_q, .int kinds_m])), (said, .inr (1, [.ref said_q, .int said_m])), (said_q, .inl (xI G, 6, .inl said_f)), (wai, .inr (1, [.ref wai_q, .int wai_m])), (wai_q, .inl (xI G, 24, .inl wai_f))] := hD
  refine lv_istore_n (lv' := [(1, .int u1), (0, .ref t)]) hx hb dX7_check_10 rfl hl (by decide) rfl (fun ls hl => ?_)
  refine lv_iload_n hx hb dX7_check_11 rfl (lv_at hl 0 rfl) ?_
  refine lv_iconst (v := 1) hx hb dX7_check_12 (by decide) ?_
  refine lv_isub hx hb dX7_check_13 ?_
  refine lv_istore_n (lv' := [(2, .int (u1 - (1 : Int32))), (1, .int u1), (0, .ref t)]) hx hb dX7_check_14 rfl hl (by decide) rfl (fun ls hl => ?_)
  refine xLoop2 (body := (B_X7_check_15 kinds_m said_m said_f wai_m wai_f)) (fun (v15_0 : Int32) (v15_1 : Int32) H locs ls => va_P G.1 vwCl [(t, .inr (7, [.ref st, .ref kp, .int hasI, .int imgs, .ref vs, .ref rd, .ref wk, .ref chr, .ref shs, .ref er])), (st, .inr (3, [.ref kinds, .ref ms, .ref said, .ref signs, .ref tape, .ref avo, .ref tal, .ref wai, .int vow, .int day, .int worth, .int z])), (kinds, .inr (1, [.ref kinds_q, .int kinds_m])), (said, .inr (1, [.ref said_q, .int said_m])), (said_q, .inl (xI G, 6, .inl said_f)), (wai, .inr (1, [.ref wai_q, .int wai_m])), (wai_q, .inl (xI G, 24, .inl wai_f))] H ∧ va_D A [(t, .inr (7, [.ref st, .ref kp, .int hasI, .int imgs, .ref vs, .ref rd, .ref wk, .ref chr, .ref shs, .ref er])), (st, .inr (3, [.ref kinds, .ref ms, .ref said, .ref signs, .ref tape, .ref avo, .ref tal, .ref wai, .int vow, .int day, .int worth, .int z])), (kinds, .inr (1, [.ref kinds_q, .int kinds_m])), (said, .inr (1, [.ref said_q, .int said_m])), (said_q, .inl (xI G, 6, .inl said_f)), (wai, .inr (1, [.ref wai_q, .int wai_m])), (wai_q, .inl (xI G, 24, .inl wai_f))] ∧ va_S A s.heap H locs ∧ lv_has ls 3 [(0, .ref t), (1, .int v15_0), (2, .int v15_1)]) (fun N15 v15_0 v15_1 ih15 H locs ls hI hF => ?_) fuelC u1 (u1 - (1 : Int32)) H locs ls ⟨hP, hD, hS, lv_sub hl [2, 1, 0] rfl⟩ hF
  obtain ⟨hP, hD, hS, hl⟩ := hI
  unfold B_X7_check_15 at hF
  refine lv_iload_n hx hb dX7_check_15 rfl (lv_at hl 2 rfl) ?_
  refine lv_if_lt (tgt := 60) hx hb dX7_check_16 (by decide) (fun c16 => ?_) (fun c16 => ?_)
  · have hF := itP c16 hF
    refine lv_iload_n hx hb dX7_check_60 rfl (lv_at hl 1 rfl) ?_
    refine lv_aload_n hx hb dX7_check_61 rfl (lv_at hl 0 rfl) ?_
    refine va_get (ci := 7) (v := .ref st) (C := RX7) (T := TX7) (N := 10) hx hb hts (fun w h => tcons w (xin7 w h)) hown hK hP 0 rfl rfl 0 (by decide) (hts _ (tcons _ m16)) (fun _ h9 => h9) rfl dX7_check_62 ?_
    refine va_get (ci := 3) (v := .ref wai) (C := RX3) (T := TX3) (N := 12) hx hb hts (fun w h => tcons w (xin3 w h)) hown hK hP 1 rfl rfl 7 (by decide) (hts _ (tcons _ m1088)) (fun _ h9 => h9) rfl dX7_check_65 ?_
    obtain ⟨u2, e2, hF⟩ := bdS hF
    refine xEndI (xRunV (As := []) (rest := [.int v15_0]) hZ (c_X1_many G wai wai_q wai_m u2 e2 l H.size) m246 m126 m127 m49 m128 0 ⟨rfl, hdX1_many⟩ ⟨Nat.le_of_ble_eq_true rfl, Nat.le_of_ble_eq_true rfl⟩ ⟨rfl, rfl⟩ hP hD hS 5 1 rfl rfl rfl [5] rfl rfl rfl hl.1 rfl (Nat.le_of_ble_eq_true rfl) dX7_check_68 ⟨Nat.zero_le _, Nat.zero_le _⟩) hP hD hS hA [5] rfl rfl rfl (fun H locs n2 hP hD hS => ?_)
    have hP : va_P G.1 vwCl [(t, .inr (7, [.ref st, .ref kp, .int hasI, .int imgs, .ref vs, .ref rd, .ref wk, .ref chr, .ref shs, .ref er])), (st, .inr (3, [.ref kinds, .ref ms, .ref said, .ref signs, .ref tape, .ref avo, .ref tal, .ref wai, .int vow, .int day, .int worth, .int z])), (kinds, .inr (1, [.ref kinds_q, .int kinds_m])), (said, .inr (1, [.ref said_q, .int said_m])), (said_q, .inl (xI G, 6, .inl said_f)), (wai, .inr (1, [.ref wai_q, .int wai_m])), (wai_q, .inl (xI G, 24, .inl wai_f))] H := hP
    have hD : va_D A [(t, .inr (7, [.ref st, .ref kp, .int hasI, .int imgs, .ref vs, .ref rd, .ref wk, .ref chr, .ref shs, .ref er])), (st, .inr (3, [.ref kinds, .ref ms, .ref said, .ref signs, .ref tape, .ref avo, .ref tal, .ref wai, .int vow, .int day, .int worth, .int z])), (kinds, .inr (1, [.ref kinds_q, .int kinds_m])), (said, .inr (1, [.ref said_q, .int said_m])), (said_q, .inl (xI G, 6, .inl said_f)), (wai, .inr (1, [.ref wai_q, .int wai_m])), (wai_q, .inl (xI G, 24, .inl wai_f))] := hD
    refine lv_icmp_ge (tgt := 80) hx hb dX7_check_71 (by decide) (fun c71 => ?_) (fun c71 => ?_)
    · have hF := itP c71 hF
      refine lv_iconst (v := 0) hx hb dX7_check_80 (by decide) ?_
      refine lv_istore_n (lv' := [(2, .int (0 : Int32)), (0, .ref t), (1, .int v15_0)]) hx hb dX7_check_81 rfl hl (by decide) rfl (fun ls hl => ?_)
      refine lv_aload_n hx hb dX7_check_82 rfl (lv_at hl 1 rfl) ?_
      refine va_get (ci := 7) (v := .ref st) (C := RX7) (T := TX7) (N := 10) hx hb hts (fun w h => tcons w (xin7 w h)) hown hK hP 0 rfl rfl 0 (by decide) (hts _ (tcons _ m16)) (fun _ h9 => h9) rfl dX7_check_83 ?_
      refine va_get (ci := 3) (v := .ref wai) (C := RX3) (T := TX3) (N := 12) hx hb hts (fun w h => tcons w (xin3 w h)) hown hK hP 1 rfl rfl 7 (by decide) (hts _ (tcons _ m1088)) (fun _ h9 => h9) rfl dX7_check_86 ?_
      obtain ⟨u3, e3, hF⟩ := bdS hF
      refine xEndV (xRunV (As := []) (rest := []) hZ (c_X1_clear G wai wai_q wai_m u3 e3 l H.size) m654 m252 m253 m49 m254 0 ⟨rfl, hdX1_clear⟩ ⟨Nat.le_of_ble_eq_true rfl, Nat.le_of_ble_eq_true rfl⟩ ⟨rfl, rfl⟩ hP hD hS 5 1 rfl rfl rfl [5] rfl rfl rfl hl.1 rfl (Nat.le_of_ble_eq_true rfl) dX7_check_89 ⟨Nat.zero_le _, Nat.zero_le _⟩) hP hD hS hA [5] rfl rfl rfl (fun H locs hP hD hS => ?_)
      have hP : va_P G.1 vwCl [(t, .inr (7, [.ref st, .ref kp, .int hasI, .int imgs, .ref vs, .ref rd, .ref wk, .ref chr, .ref shs, .ref er])), (st, .inr (3, [.ref kinds, .ref ms, .ref said, .ref signs, .ref tape, .ref avo, .ref tal, .ref wai, .int vow, .int day, .int worth, .int z])), (kinds, .inr (1, [.ref kinds_q, .int kinds_m])), (said, .inr (1, [.ref said_q, .int said_m])), (said_q, .inl (xI G, 6, .inl said_f)), (wai, .inr (1, [.ref wai_q, .int u3])), (wai_q, .inl (xI G, 24, .inl wai_f))] H := hP
      have hD : va_D A [(t, .inr (7, [.ref st, .ref kp, .int hasI, .int imgs, .ref vs, .ref rd, .ref wk, .ref chr, .ref shs, .ref er])), (st, .inr (3, [.ref kinds, .ref ms, .ref said, .ref signs, .ref tape, .ref avo, .ref tal, .ref wai, .int vow, .int day, .int worth, .int z])), (kinds, .inr (1, [.ref kinds_q, .int kinds_m])), (said, .inr (1, [.ref said_q, .int said_m])), (said_q, .inl (xI G, 6, .inl said_f)), (wai, .inr (1, [.ref wai_q, .int u3])), (wai_q, .inl (xI G, 24, .inl wai_f))] := hD
      refine lv_iload_n hx hb dX7_check_92 rfl (lv_at hl 0 rfl) ?_
      obtain rfl := Option.some.inj hF
      rw [← hQ]
      exact W.iret (v := (0 : Int32)) hx hb hr (fun t ht hW => ⟨⟨_, (), rfl, ⟨rfl, rfl⟩, xLf hP ht⟩, hS.F ht⟩) hS.2.2 dX7_check_93
    · have hF := itN c71 hF
      refine lv_iconst (v := 1) hx hb dX7_check_74 (by decide) ?_
      refine lv_iload_n hx hb dX7_check_75 rfl (lv_at hl 1 rfl) ?_
      refine lv_iadd hx hb dX7_check_76 ?_
      refine lv_goto (tgt := 81) hx hb dX7_check_77 (by decide) ?_
      refine lv_istore_n (lv' := [(2, .int ((1 : Int32) + v15_0)), (0, .ref t), (1, .int v15_0)]) hx hb dX7_check_81 rfl hl (by decide) rfl (fun ls hl => ?_)
      refine lv_aload_n hx hb dX7_check_82 rfl (lv_at hl 1 rfl) ?_
      refine va_get (ci := 7) (v := .ref st) (C := RX7) (T := TX7) (N := 10) hx hb hts (fun w h => tcons w (xin7 w h)) hown hK hP 0 rfl rfl 0 (by decide) (hts _ (tcons _ m16)) (fun _ h9 => h9) rfl dX7_check_83 ?_
      refine va_get (ci := 3) (v := .ref wai) (C := RX3) (T := TX3) (N := 12) hx hb hts (fun w h => tcons w (xin3 w h)) hown hK hP 1 rfl rfl 7 (by decide) (hts _ (tcons _ m1088)) (fun _ h9 => h9) rfl dX7_check_86 ?_
      obtain ⟨u3, e3, hF⟩ := bdS hF
      refine xEndV (xRunV (As := []) (rest := []) hZ (c_X1_clear G wai wai_q wai_m u3 e3 l H.size) m654 m252 m253 m49 m254 0 ⟨rfl, hdX1_clear⟩ ⟨Nat.le_of_ble_eq_true rfl, Nat.le_of_ble_eq_true rfl⟩ ⟨rfl, rfl⟩ hP hD hS 5 1 rfl rfl rfl [5] rfl rfl rfl hl.1 rfl (Nat.le_of_ble_eq_true rfl) dX7_check_89 ⟨Nat.zero_le _, Nat.zero_le _⟩) hP hD hS hA [5] rfl rfl rfl (fun H locs hP hD hS => ?_)
      have hP : va_P G.1 vwCl [(t, .inr (7, [.ref st, .ref kp, .int hasI, .int imgs, .ref vs, .ref rd, .ref wk, .ref chr, .ref shs, .ref er])), (st, .inr (3, [.ref kinds, .ref ms, .ref said, .ref signs, .ref tape, .ref avo, .ref tal, .ref wai, .int vow, .int day, .int worth, .int z])), (kinds, .inr (1, [.ref kinds_q, .int kinds_m])), (said, .inr (1, [.ref said_q, .int said_m])), (said_q, .inl (xI G, 6, .inl said_f)), (wai, .inr (1, [.ref wai_q, .int u3])), (wai_q, .inl (xI G, 24, .inl wai_f))] H := hP
      have hD : va_D A [(t, .inr (7, [.ref st, .ref kp, .int hasI, .int imgs, .ref vs, .ref rd, .ref wk, .ref chr, .ref shs, .ref er])), (st, .inr (3, [.ref kinds, .ref ms, .ref said, .ref signs, .ref tape, .ref avo, .ref tal, .ref wai, .int vow, .int day, .int worth, .int z])), (kinds, .inr (1, [.ref kinds_q, .int kinds_m])), (said, .inr (1, [.ref said_q, .int said_m])), (said_q, .inl (xI G, 6, .inl said_f)), (wai, .inr (1, [.ref wai_q, .int u3])), (wai_q, .inl (xI G, 24, .inl wai_f))] := hD
      refine lv_iload_n hx hb dX7_check_92 rfl (lv_at hl 0 rfl) ?_
      obtain rfl := Option.some.inj hF
      rw [← hQ]
      exact W.iret (v := ((1 : Int32) + v15_0)) hx hb hr (fun t ht hW => ⟨⟨_, (), rfl, ⟨rfl, rfl⟩, xLf hP ht⟩, hS.F ht⟩) hS.2.2 dX7_check_93
  · have hF := itN c16 hF
    refine lv_aload_n hx hb dX7_check_19 rfl (lv_at hl 0 rfl) ?_
    refine lv_iload_n hx hb dX7_check_20 rfl (lv_at hl 2 rfl) ?_
    obtain ⟨u2, e2, hF⟩ := bdS hF
    refine xEndI (xRunV (As := [.int v15_1]) (rest := []) hZ (c_X7_isBrother G t st kp vs rd wk chr shs er kinds ms said signs tape avo tal wai kinds_q hasI imgs vow day worth z kinds_m v15_1 u2 e2 l H.size) m202 m203 m204 m2 m205 1 ⟨rfl, hdX7_isBrother⟩ ⟨Nat.le_of_ble_eq_true rfl, Nat.le_of_ble_eq_true rfl⟩ ⟨rfl, rfl⟩ hP hD hS 0 7 rfl rfl rfl [0, 1, 2] rfl rfl rfl hl.1 rfl (Nat.le_of_ble_eq_true rfl) dX7_check_21 ⟨Nat.zero_le _, Nat.zero_le _⟩) hP hD hS hA [0, 1, 2] rfl rfl rfl (fun H locs n2 hP hD hS => ?_)
    have hP : va_P G.1 vwCl [(t, .inr (7, [.ref st, .ref kp, .int hasI, .int imgs, .ref vs, .ref rd, .ref wk, .ref chr, .ref shs, .ref er])), (st, .inr (3, [.ref kinds, .ref ms, .ref said, .ref signs, .ref tape, .ref avo, .ref tal, .ref wai, .int vow, .int day, .int worth, .int z])), (kinds, .inr (1, [.ref kinds_q, .int kinds_m])), (said, .inr (1, [.ref said_q, .int said_m])), (said_q, .inl (xI G, 6, .inl said_f)), (wai, .inr (1, [.ref wai_q, .int wai_m])), (wai_q, .inl (xI G, 24, .inl wai_f))] H := hP
    have hD : va_D A [(t, .inr (7, [.ref st, .ref kp, .int hasI, .int imgs, .ref vs, .ref rd, .ref wk, .ref chr, .ref shs, .ref er])), (st, .inr (3, [.ref kinds, .ref ms, .ref said, .ref signs, .ref tape, .ref avo, .ref tal, .ref wai, .int vow, .int day, .int worth, .int z])), (kinds, .inr (1, [.ref kinds_q, .int kinds_m])), (said, .inr (1, [.ref said_q, .int said_m])), (said_q, .inl (xI G, 6, .inl said_f)), (wai, .inr (1, [.ref wai_q, .int wai_m])), (wai_q, .inl (xI G, 24, .inl wai_f))] := hD
    refine lv_if_eq (tgt := 52) hx hb dX7_check_24 (by decide) (fun c24 => ?_) (fun c24 => ?_)
    · have hF := itP c24 hF
      refine lv_iload_n hx hb dX7_check_52 rfl (lv_at hl 2 rfl) ?_
      refine lv_istore_n (lv' := [(1, .int v15_1), (0, .ref t), (2, .int v15_1)]) hx hb dX7_check_53 rfl hl (by decide) rfl (fun ls hl => ?_)
      refine lv_iinc (v := (v15_1 + (-1 : Int32))) (lv' := [(2, .int (v15_1 + (-1 : Int32))), (1, .int v15_1), (0, .ref t)]) hx hb dX7_check_54 hl (k := 2) rfl (xInc_m1 _) (by decide) rfl (fun ls hl => ?_)
      refine lv_goto (tgt := 15) hx hb dX7_check_57 (by decide) ?_
      exact ih15 v15_1 (v15_1 + (-1 : Int32)) H locs ls ⟨hP, hD, hS, lv_sub hl [2, 1, 0] rfl⟩ hF
    · have hF := itN c24 hF
      refine lv_aload_n hx hb dX7_check_27 rfl (lv_at hl 0 rfl) ?_
      refine va_get (ci := 7) (v := .ref st) (C := RX7) (T := TX7) (N := 10) hx hb hts (fun w h => tcons w (xin7 w h)) hown hK hP 0 rfl rfl 0 (by decide) (hts _ (tcons _ m16)) (fun _ h9 => h9) rfl dX7_check_28 ?_
      refine va_get (ci := 3) (v := .ref said) (C := RX3) (T := TX3) (N := 12) hx hb hts (fun w h => tcons w (xin3 w h)) hown hK hP 1 rfl rfl 2 (by decide) (hts _ (tcons _ m160)) (fun _ h9 => h9) rfl dX7_check_31 ?_
      refine lv_iload_n hx hb dX7_check_34 rfl (lv_at hl 2 rfl) ?_
      obtain ⟨u3, e3, hF⟩ := bdS hF
      refine xEndI (xRunV (As := [.int v15_1]) (rest := []) hZ (c_X1_get G said said_q 6 said_m said_f v15_1 u3 e3 l H.size) m210 m130 m131 m49 m132 1 ⟨rfl, hdX1_get⟩ ⟨Nat.le_of_ble_eq_true rfl, Nat.le_of_ble_eq_true rfl⟩ ⟨rfl, rfl⟩ hP hD hS 3 1 rfl rfl rfl [3, 4] rfl rfl rfl hl.1 rfl (Nat.le_of_ble_eq_true rfl) dX7_check_35 ⟨Nat.zero_le _, Nat.zero_le _⟩) hP hD hS hA [3, 4] rfl rfl rfl (fun H locs n3 hP hD hS => ?_)
      have hP : va_P G.1 vwCl [(t, .inr (7, [.ref st, .ref kp, .int hasI, .int imgs, .ref vs, .ref rd, .ref wk, .ref chr, .ref shs, .ref er])), (st, .inr (3, [.ref kinds, .ref ms, .ref said, .ref signs, .ref tape, .ref avo, .ref tal, .ref wai, .int vow, .int day, .int worth, .int z])), (kinds, .inr (1, [.ref kinds_q, .int kinds_m])), (said, .inr (1, [.ref said_q, .int said_m])), (said_q, .inl (xI G, 6, .inl said_f)), (wai, .inr (1, [.ref wai_q, .int wai_m])), (wai_q, .inl (xI G, 24, .inl wai_f))] H := hP
      have hD : va_D A [(t, .inr (7, [.ref st, .ref kp, .int hasI, .int imgs, .ref vs, .ref rd, .ref wk, .ref chr, .ref shs, .ref er])), (st, .inr (3, [.ref kinds, .ref ms, .ref said, .ref signs, .ref tape, .ref avo, .ref tal, .ref wai, .int vow, .int day, .int worth, .int z])), (kinds, .inr (1, [.ref kinds_q, .int kinds_m])), (said, .inr (1, [.ref said_q, .int said_m])), (said_q, .inl (xI G, 6, .inl said_f)), (wai, .inr (1, [.ref wai_q, .int wai_m])), (wai_q, .inl (xI G, 24, .inl wai_f))] := hD
      refine lv_aload_n hx hb dX7_check_38 rfl (lv_at hl 0 rfl) ?_
      refine va_get (ci := 7) (v := .ref st) (C := RX7) (T := TX7) (N := 10) hx hb hts (fun w h => tcons w (xin7 w h)) hown hK hP 0 rfl rfl 0 (by decide) (hts _ (tcons _ m16)) (fun _ h9 => h9) rfl dX7_check_39 ?_
      refine va_get (ci := 3) (v := .ref wai) (C := RX3) (T := TX3) (N := 12) hx hb hts (fun w h => tcons w (xin3 w h)) hown hK hP 1 rfl rfl 7 (by decide) (hts _ (tcons _ m1088)) (fun _ h9 => h9) rfl dX7_check_42 ?_
      refine lv_iload_n hx hb dX7_check_45 rfl (lv_at hl 2 rfl) ?_
      obtain ⟨u4, e4, hF⟩ := bdS hF
      refine xEndI (xRunV (As := [.int v15_1]) (rest := [.int u3]) hZ (c_X1_get G wai wai_q 24 wai_m wai_f v15_1 u4 e4 l H.size) m210 m130 m131 m49 m132 1 ⟨rfl, hdX1_get⟩ ⟨Nat.le_of_ble_eq_true rfl, Nat.le_of_ble_eq_true rfl⟩ ⟨rfl, rfl⟩ hP hD hS 5 1 rfl rfl rfl [5, 6] rfl rfl rfl hl.1 rfl (Nat.le_of_ble_eq_true rfl) dX7_check_46 ⟨Nat.zero_le _, Nat.zero_le _⟩) hP hD hS hA [5, 6] rfl rfl rfl (fun H locs n4 hP hD hS => ?_)
      have hP : va_P G.1 vwCl [(t, .inr (7, [.ref st, .ref kp, .int hasI, .int imgs, .ref vs, .ref rd, .ref wk, .ref chr, .ref shs, .ref er])), (st, .inr (3, [.ref kinds, .ref ms, .ref said, .ref signs, .ref tape, .ref avo, .ref tal, .ref wai, .int vow, .int day, .int worth, .int z])), (kinds, .inr (1, [.ref kinds_q, .int kinds_m])), (said, .inr (1, [.ref said_q, .int said_m])), (said_q, .inl (xI G, 6, .inl said_f)), (wai, .inr (1, [.ref wai_q, .int wai_m])), (wai_q, .inl (xI G, 24, .inl wai_f))] H := hP
      have hD : va_D A [(t, .inr (7, [.ref st, .ref kp, .int hasI, .int imgs, .ref vs, .ref rd, .ref wk, .ref chr, .ref shs, .ref er])), (st, .inr (3, [.ref kinds, .ref ms, .ref said, .ref signs, .ref tape, .ref avo, .ref tal, .ref wai, .int vow, .int day, .int worth, .int z])), (kinds, .inr (1, [.ref kinds_q, .int kinds_m])), (said, .inr (1, [.ref said_q, .int said_m])), (said_q, .inl (xI G, 6, .inl said_f)), (wai, .inr (1, [.ref wai_q, .int wai_m])), (wai_q, .inl (xI G, 24, .inl wai_f))] := hD
      refine lv_icmp_eq (tgt := 54) hx hb dX7_check_49 (by decide) (fun c49 => ?_) (fun c49 => ?_)
      · have hF := itP c49 hF
        refine lv_iinc (v := (v15_1 + (-1 : Int32))) (lv' := [(2, .int (v15_1 + (-1 : Int32))), (0, .ref t), (1, .int v15_0)]) hx hb dX7_check_54 hl (k := 2) rfl (xInc_m1 _) (by decide) rfl (fun ls hl => ?_)
        refine lv_goto (tgt := 15) hx hb dX7_check_57 (by decide) ?_
        exact ih15 v15_0 (v15_1 + (-1 : Int32)) H locs ls ⟨hP, hD, hS, lv_sub hl [1, 2, 0] rfl⟩ hF
      · have hF := itN c49 hF
        refine lv_iload_n hx hb dX7_check_52 rfl (lv_at hl 2 rfl) ?_
        refine lv_istore_n (lv' := [(1, .int v15_1), (0, .ref t), (2, .int v15_1)]) hx hb dX7_check_53 rfl hl (by decide) rfl (fun ls hl => ?_)
        refine lv_iinc (v := (v15_1 + (-1 : Int32))) (lv' := [(2, .int (v15_1 + (-1 : Int32))), (1, .int v15_1), (0, .ref t)]) hx hb dX7_check_54 hl (k := 2) rfl (xInc_m1 _) (by decide) rfl (fun ls hl => ?_)
        refine lv_goto (tgt := 15) hx hb dX7_check_57 (by decide) ?_
        exact ih15 v15_1 (v15_1 + (-1 : Int32)) H locs ls ⟨hP, hD, hS, lv_sub hl [2, 1, 0] rfl⟩ hF
def F_X7_count (vow : Int32) (day : Int32) (worth : Int32) (z : Int32) (kinds_m : Int32) (signs_m : Int32) (tape_m : Int32) (wai_m : Int32) (trace_m : Int32) (er_f : Nat → Int32) (wh : Int32) : Option (Int32 × (Nat → Int32)) := if wh = (0 : Int32) then (bd (F_X3_brothers kinds_m) (fun (u1 : Int32) => some (u1, er_f))) else (if wh = (1 : Int32) then (bd (F_X1_many signs_m) (fun (u1 : Int32) => some (u1, er_f))) else (if wh = (2 : Int32) then (some (day, er_f)) else (if wh = (3 : Int32) then (some (worth, er_f)) else (if wh = (4 : Int32) then (some (vow, er_f)) else (if wh = (5 : Int32) then (bd (F_X1_many tape_m) (fun (u1 : Int32) => some (u1, er_f))) else (if wh = (6 : Int32) then (bd (F_X1_many wai_m) (fun (u1 : Int32) => some (u1, er_f))) else (if wh = (7 : Int32) then (bd (F_X1_many trace_m) (fun (u1 : Int32) => some (u1, er_f))) else (if wh = (8 : Int32) then (some (z, er_f)) else (bd (F_X7_error er_f (1 : Int32)) (fun (u1 : (Int32 × (Nat → Int32))) => some (u1.1, u1.2)))))))))))
theorem hdX7_count : yX7_count.cls ≠ "java/lang/invoke/MethodHandle" ∧ yX7_count.cls ≠ "java/lang/invoke/VarHandle" ∧ (parseMethodDescriptor yX7_count.desc).map (fun d => d.parameters.length) = some 1 := by decide +kernel
set_option maxHeartbeats 4000000 in
set_option maxRecDepth 100000 in
theorem c_X7_count (G : xG) (t : Nat) (st : Nat) (kp : Nat) (vs : Nat) (rd : Nat) (wk : Nat) (chr : Nat) (shs : Nat) (er : Nat) (kinds : Nat) (ms : Nat) (said : Nat) (signs : Nat) (tape : Nat) (avo : Nat) (tal : Nat) (wai : Nat) (kinds_q : Nat) (signs_q : Nat) (tape_q : Nat) (wai_q : Nat) (trace : Nat) (trace_q : Nat) (hasI : Int32) (imgs : Int32) (vow : Int32) (day : Int32) (worth : Int32) (z : Int32) (kinds_m : Int32) (signs_m : Int32) (tape_m : Int32) (wai_m : Int32) (parted : Int32) (vkk : Int32) (vkd : Int32) (vmm : Int32) (trace_m : Int32) (er_f : Nat → Int32) (wh : Int32)  (u : (Int32 × (Nat → Int32))) (hF : F_X7_count vow day worth z kinds_m signs_m tape_m wai_m trace_m er_f wh = some u) : Ki G .int yX7_count (Cond.code yX7_count cX7_count 2 (some .int) :: TBL) { frames := 2, cells := 0, slots := 0, locals := 43 } [.ref t, .int wh] [(t, .inr (7, [.ref st, .ref kp, .int hasI, .int imgs, .ref vs, .ref rd, .ref wk, .ref chr, .ref shs, .ref er])), (st, .inr (3, [.ref kinds, .ref ms, .ref said, .ref signs, .ref tape, .ref avo, .ref tal, .ref wai, .int vow, .int day, .int worth, .int z])), (kinds, .inr (1, [.ref kinds_q, .int kinds_m])), (signs, .inr (1, [.ref signs_q, .int signs_m])), (tape, .inr (1, [.ref tape_q, .int tape_m])), (wai, .inr (1, [.ref wai_q, .int wai_m])), (chr, .inr (4, [.ref trace, .int parted, .int vkk, .int vkd, .int vmm])), (trace, .inr (1, [.ref trace_q, .int trace_m])), (er, .inl (xI G, 7, .inl er_f))] [(t, .inr (7, [.ref st, .ref kp, .int hasI, .int imgs, .ref vs, .ref rd, .ref wk, .ref chr, .ref shs, .ref er])), (st, .inr (3, [.ref kinds, .ref ms, .ref said, .ref signs, .ref tape, .ref avo, .ref tal, .ref wai, .int vow, .int day, .int worth, .int z])), (kinds, .inr (1, [.ref kinds_q, .int kinds_m])), (signs, .inr (1, [.ref signs_q, .int signs_m])), (tape, .inr (1, [.ref tape_q, .int tape_m])), (wai, .inr (1, [.ref wai_q, .int wai_m])), (chr, .inr (4, [.ref trace, .int parted, .int vkk, .int vkd, .int vmm])), (trace, .inr (1, [.ref trace_q, .int trace_m])), (er, .inl (xI G, 7, .inl u.2))] u.1 := by
  intro l sz
  refine Met.ofW (cc := cX7_count) (maxL := 2) (ret := (some .int)) (by decide) rfl ?_
  intro p e s m args below meth c s₁ B hml hv
  obtain ⟨rfl, hsz, hP, hD0, hm⟩ := hv
  have hx := B.exec
  have hb := B.bytes
  have hr := B.returns
  have hts := atoms_spec (ws := Cond.code yX7_count cX7_count 2 (some .int) :: TBL) B.pre
  have hown : s.vm.findClass RX7 = some m.cls := findClass_of_methodNamed B.named
  have hlocks := B.notSynchronized
  subst hsz
  have hD := hD0.self (sz := s.heap.size)
  generalize hAe : va_A [(t, .inr (7, [.ref st, .ref kp, .int hasI, .int imgs, .ref vs, .ref rd, .ref wk, .ref chr, .ref shs, .ref er])), (st, .inr (3, [.ref kinds, .ref ms, .ref said, .ref signs, .ref tape, .ref avo, .ref tal, .ref wai, .int vow, .int day, .int worth, .int z])), (kinds, .inr (1, [.ref kinds_q, .int kinds_m])), (signs, .inr (1, [.ref signs_q, .int signs_m])), (tape, .inr (1, [.ref tape_q, .int tape_m])), (wai, .inr (1, [.ref wai_q, .int wai_m])), (chr, .inr (4, [.ref trace, .int parted, .int vkk, .int vkd, .int vmm])), (trace, .inr (1, [.ref trace_q, .int trace_m])), (er, .inl (xI G, 7, .inl er_f))] s.heap.size = A at hD hm ⊢
  have hA : ∀ q : Nat, s.heap.size ≤ q → A q := fun q h => by rw [← hAe]; exact Or.inr h
  have hK := hm.1
  have hZ : xAnd p m c cX7_count 2 s _ (Cond.code yX7_count cX7_count 2 (some .int) :: TBL) RX7 G A := ⟨⟨hx, hb, hml, hown, hts⟩, tcons, hA, hm⟩
  have hP : va_P G.1 vwCl [(t, .inr (7, [.ref st, .ref kp, .int hasI, .int imgs, .ref vs, .ref rd, .ref wk, .ref chr, .ref shs, .ref er])), (st, .inr (3, [.ref kinds, .ref ms, .ref said, .ref signs, .ref tape, .ref avo, .ref tal, .ref wai, .int vow, .int day, .int worth, .int z])), (kinds, .inr (1, [.ref kinds_q, .int kinds_m])), (signs, .inr (1, [.ref signs_q, .int signs_m])), (tape, .inr (1, [.ref tape_q, .int tape_m])), (wai, .inr (1, [.ref wai_q, .int wai_m])), (chr, .inr (4, [.ref trace, .int parted, .int vkk, .int vkd, .int vmm])), (trace, .inr (1, [.ref trace_q, .int trace_m])), (er, .inl (xI G, 7, .inl er_f))] s.heap := hP
  have hl := lv_entry ([.ref t, .int wh]) (n := 2) (Nat.le_of_ble_eq_true rfl)
  rw [lg_entry_eq]
  generalize (lg_sl ([.ref t, .int wh]) ++ List.replicate (2 - (lg_sl ([.ref t, .int wh])).length) Slot.unset).toArray = ls at hl ⊢
  have hl : lv_has ls 2 [(0, .ref t), (1, .int wh)] := hl
  generalize hQ : MQ below _ _ s _ _ _ = Q
  refine xGo (A := A) hP (fun H locs hP hS => ?_)
  unfold F_X7_count at hF
  refine lv_iload_n hx hb dX7_count_0 rfl (lv_at hl 1 rfl) ?_
  by_cases c1_0 : wh = (0 : Int32)
  · have hF := itP c1_0 hF
    refine lv_tableIn (off := 51) (tgt := 52) hx hb dX7_count_1 (by rw [c1_0]; decide) (by rw [c1_0]; decide) (by rw [c1_0]; rfl) (by decide) ?_
    refine lv_aload_n hx hb dX7_count_52 rfl (lv_at hl 0 rfl) ?_
    refine va_get (ci := 7) (v := .ref st) (C := RX7) (T := TX7) (N := 10) hx hb hts (fun w h => tcons w (xin7 w h)) hown hK hP 0 rfl rfl 0 (by decide) (hts _ (tcons _ m16)) (fun _ h9 => h9) rfl dX7_count_53 ?_
    obtain ⟨u1, e1, hF⟩ := bdS hF
    refine xEndI (xRunV (As := []) (rest := []) hZ (c_X3_brothers G st kinds ms said signs tape avo tal wai kinds_q vow day worth z kinds_m u1 e1 l H.size) m172 m173 m174 m15 m175 0 ⟨rfl, hdX3_brothers⟩ ⟨Nat.le_of_ble_eq_true rfl, Nat.le_of_ble_eq_true rfl⟩ ⟨rfl, rfl⟩ hP hD hS 1 3 rfl rfl rfl [1, 2] rfl rfl rfl hl.1 rfl (Nat.le_of_ble_eq_true rfl) dX7_count_56 ⟨Nat.zero_le _, Nat.zero_le _⟩) hP hD hS hA [1, 2] rfl rfl rfl (fun H locs n1 hP hD hS => ?_)
    have hP : va_P G.1 vwCl [(t, .inr (7, [.ref st, .ref kp, .int hasI, .int imgs, .ref vs, .ref rd, .ref wk, .ref chr, .ref shs, .ref er])), (st, .inr (3, [.ref kinds, .ref ms, .ref said, .ref signs, .ref tape, .ref avo, .ref tal, .ref wai, .int vow, .int day, .int worth, .int z])), (kinds, .inr (1, [.ref kinds_q, .int kinds_m])), (signs, .inr (1, [.ref signs_q, .int signs_m])), (tape, .inr (1, [.ref tape_q, .int tape_m])), (wai, .inr (1, [.ref wai_q, .int wai_m])), (chr, .inr (4, [.ref trace, .int parted, .int vkk, .int vkd, .int vmm])), (trace, .inr (1, [.ref trace_q, .int trace_m])), (er, .inl (xI G, 7, .inl er_f))] H := hP
    have hD : va_D A [(t, .inr (7, [.ref st, .ref kp, .int hasI, .int imgs, .ref vs, .ref rd, .ref wk, .ref chr, .ref shs, .ref er])), (st, .inr (3, [.ref kinds, .ref ms, .ref said, .ref signs, .ref tape, .ref avo, .ref tal, .ref wai, .int vow, .int day, .int worth, .int z])), (kinds, .inr (1, [.ref kinds_q, .int kinds_m])), (signs, .inr (1, [.ref signs_q, .int signs_m])), (tape, .inr (1, [.ref tape_q, .int tape_m])), (wai, .inr (1, [.ref wai_q, .int wai_m])), (chr, .inr (4, [.ref trace, .int parted, .int vkk, .int vkd, .int vmm])), (trace, .inr (1, [.ref trace_q, .int trace_m])), (er, .inl (xI G, 7, .inl er_f))] := hD
    obtain rfl := Option.some.inj hF
    rw [← hQ]
    exact W.iret (v := u1) hx hb hr (fun t ht hW => ⟨⟨_, (), rfl, ⟨rfl, rfl⟩, xLf hP ht⟩, hS.F ht⟩) hS.2.2 dX7_count_59
  · have hF := itN c1_0 hF
    by_cases c1_1 : wh = (1 : Int32)
    · have hF := itP c1_1 hF
      refine lv_tableIn (off := 59) (tgt := 60) hx hb dX7_count_1 (by rw [c1_1]; decide) (by rw [c1_1]; decide) (by rw [c1_1]; rfl) (by decide) ?_
      refine lv_aload_n hx hb dX7_count_60 rfl (lv_at hl 0 rfl) ?_
      refine va_get (ci := 7) (v := .ref st) (C := RX7) (T := TX7) (N := 10) hx hb hts (fun w h => tcons w (xin7 w h)) hown hK hP 0 rfl rfl 0 (by decide) (hts _ (tcons _ m16)) (fun _ h9 => h9) rfl dX7_count_61 ?_
      refine va_get (ci := 3) (v := .ref signs) (C := RX3) (T := TX3) (N := 12) hx hb hts (fun w h => tcons w (xin3 w h)) hown hK hP 1 rfl rfl 3 (by decide) (hts _ (tcons _ m43)) (fun _ h9 => h9) rfl dX7_count_64 ?_
      obtain ⟨u1, e1, hF⟩ := bdS hF
      refine xEndI (xRunV (As := []) (rest := []) hZ (c_X1_many G signs signs_q signs_m u1 e1 l H.size) m246 m126 m127 m49 m128 0 ⟨rfl, hdX1_many⟩ ⟨Nat.le_of_ble_eq_true rfl, Nat.le_of_ble_eq_true rfl⟩ ⟨rfl, rfl⟩ hP hD hS 3 1 rfl rfl rfl [3] rfl rfl rfl hl.1 rfl (Nat.le_of_ble_eq_true rfl) dX7_count_67 ⟨Nat.zero_le _, Nat.zero_le _⟩) hP hD hS hA [3] rfl rfl rfl (fun H locs n1 hP hD hS => ?_)
      have hP : va_P G.1 vwCl [(t, .inr (7, [.ref st, .ref kp, .int hasI, .int imgs, .ref vs, .ref rd, .ref wk, .ref chr, .ref shs, .ref er])), (st, .inr (3, [.ref kinds, .ref ms, .ref said, .ref signs, .ref tape, .ref avo, .ref tal, .ref wai, .int vow, .int day, .int worth, .int z])), (kinds, .inr (1, [.ref kinds_q, .int kinds_m])), (signs, .inr (1, [.ref signs_q, .int signs_m])), (tape, .inr (1, [.ref tape_q, .int tape_m])), (wai, .inr (1, [.ref wai_q, .int wai_m])), (chr, .inr (4, [.ref trace, .int parted, .int vkk, .int vkd, .int vmm])), (trace, .inr (1, [.ref trace_q, .int trace_m])), (er, .inl (xI G, 7, .inl er_f))] H := hP
      have hD : va_D A [(t, .inr (7, [.ref st, .ref kp, .int hasI, .int imgs, .ref vs, .ref rd, .ref wk, .ref chr, .ref shs, .ref er])), (st, .inr (3, [.ref kinds, .ref ms, .ref said, .ref signs, .ref tape, .ref avo, .ref tal, .ref wai, .int vow, .int day, .int worth, .int z])), (kinds, .inr (1, [.ref kinds_q, .int kinds_m])), (signs, .inr (1, [.ref signs_q, .int signs_m])), (tape, .inr (1, [.ref tape_q, .int tape_m])), (wai, .inr (1, [.ref wai_q, .int wai_m])), (chr, .inr (4, [.ref trace, .int parted, .int vkk, .int vkd, .int vmm])), (trace, .inr (1, [.ref trace_q, .int trace_m])), (er, .inl (xI G, 7, .inl er_f))] := hD
      obtain rfl := Option.some.inj hF
      rw [← hQ]
      exact W.iret (v := u1) hx hb hr (fun t ht hW => ⟨⟨_, (), rfl, ⟨rfl, rfl⟩, xLf hP ht⟩, hS.F ht⟩) hS.2.2 dX7_count_70
    · have hF := itN c1_1 hF
      by_cases c1_2 : wh = (2 : Int32)
      · have hF := itP c1_2 hF
        refine lv_tableIn (off := 70) (tgt := 71) hx hb dX7_count_1 (by rw [c1_2]; decide) (by rw [c1_2]; decide) (by rw [c1_2]; rfl) (by decide) ?_
        refine lv_aload_n hx hb dX7_count_71 rfl (lv_at hl 0 rfl) ?_
        refine va_get (ci := 7) (v := .ref st) (C := RX7) (T := TX7) (N := 10) hx hb hts (fun w h => tcons w (xin7 w h)) hown hK hP 0 rfl rfl 0 (by decide) (hts _ (tcons _ m16)) (fun _ h9 => h9) rfl dX7_count_72 ?_
        refine va_get (ci := 3) (v := .int day) (C := RX3) (T := TX3) (N := 12) hx hb hts (fun w h => tcons w (xin3 w h)) hown hK hP 1 rfl rfl 9 (by decide) (hts _ (tcons _ m223)) (fun _ h9 => h9) rfl dX7_count_75 ?_
        obtain rfl := Option.some.inj hF
        rw [← hQ]
        exact W.iret (v := day) hx hb hr (fun t ht hW => ⟨⟨_, (), rfl, ⟨rfl, rfl⟩, xLf hP ht⟩, hS.F ht⟩) hS.2.2 dX7_count_78
      · have hF := itN c1_2 hF
        by_cases c1_3 : wh = (3 : Int32)
        · have hF := itP c1_3 hF
          refine lv_tableIn (off := 78) (tgt := 79) hx hb dX7_count_1 (by rw [c1_3]; decide) (by rw [c1_3]; decide) (by rw [c1_3]; rfl) (by decide) ?_
          refine lv_aload_n hx hb dX7_count_79 rfl (lv_at hl 0 rfl) ?_
          refine va_get (ci := 7) (v := .ref st) (C := RX7) (T := TX7) (N := 10) hx hb hts (fun w h => tcons w (xin7 w h)) hown hK hP 0 rfl rfl 0 (by decide) (hts _ (tcons _ m16)) (fun _ h9 => h9) rfl dX7_count_80 ?_
          refine va_get (ci := 3) (v := .int worth) (C := RX3) (T := TX3) (N := 12) hx hb hts (fun w h => tcons w (xin3 w h)) hown hK hP 1 rfl rfl 10 (by decide) (hts _ (tcons _ m468)) (fun _ h9 => h9) rfl dX7_count_83 ?_
          obtain rfl := Option.some.inj hF
          rw [← hQ]
          exact W.iret (v := worth) hx hb hr (fun t ht hW => ⟨⟨_, (), rfl, ⟨rfl, rfl⟩, xLf hP ht⟩, hS.F ht⟩) hS.2.2 dX7_count_86
        · have hF := itN c1_3 hF
          by_cases c1_4 : wh = (4 : Int32)
          · have hF := itP c1_4 hF
            refine lv_tableIn (off := 86) (tgt := 87) hx hb dX7_count_1 (by rw [c1_4]; decide) (by rw [c1_4]; decide) (by rw [c1_4]; rfl) (by decide) ?_
            refine lv_aload_n hx hb dX7_count_87 rfl (lv_at hl 0 rfl) ?_
            refine va_get (ci := 7) (v := .ref st) (C := RX7) (T := TX7) (N := 10) hx hb hts (fun w h => tcons w (xin7 w h)) hown hK hP 0 rfl rfl 0 (by decide) (hts _ (tcons _ m16)) (fun _ h9 => h9) rfl dX7_count_88 ?_
            refine va_get (ci := 3) (v := .int vow) (C := RX3) (T := TX3) (N := 12) hx hb hts (fun w h => tcons w (xin3 w h)) hown hK hP 1 rfl rfl 8 (by decide) (hts _ (tcons _ m421)) (fun _ h9 => h9) rfl dX7_count_91 ?_
            obtain rfl := Option.some.inj hF
            rw [← hQ]
            exact W.iret (v := vow) hx hb hr (fun t ht hW => ⟨⟨_, (), rfl, ⟨rfl, rfl⟩, xLf hP ht⟩, hS.F ht⟩) hS.2.2 dX7_count_94
          · have hF := itN c1_4 hF
            by_cases c1_5 : wh = (5 : Int32)
            · have hF := itP c1_5 hF
              refine lv_tableIn (off := 94) (tgt := 95) hx hb dX7_count_1 (by rw [c1_5]; decide) (by rw [c1_5]; decide) (by rw [c1_5]; rfl) (by decide) ?_
              refine lv_aload_n hx hb dX7_count_95 rfl (lv_at hl 0 rfl) ?_
              refine va_get (ci := 7) (v := .ref st) (C := RX7) (T := TX7) (N := 10) hx hb hts (fun w h => tcons w (xin7 w h)) hown hK hP 0 rfl rfl 0 (by decide) (hts _ (tcons _ m16)) (fun _ h9 => h9) rfl dX7_count_96 ?_
              refine va_get (ci := 3) (v := .ref tape) (C := RX3) (T := TX3) (N := 12) hx hb hts (fun w h => tcons w (xin3 w h)) hown hK hP 1 rfl rfl 4 (by decide) (hts _ (tcons _ m27)) (fun _ h9 => h9) rfl dX7_count_99 ?_
              obtain ⟨u1, e1, hF⟩ := bdS hF
              refine xEndI (xRunV (As := []) (rest := []) hZ (c_X1_many G tape tape_q tape_m u1 e1 l H.size) m246 m126 m127 m49 m128 0 ⟨rfl, hdX1_many⟩ ⟨Nat.le_of_ble_eq_true rfl, Nat.le_of_ble_eq_true rfl⟩ ⟨rfl, rfl⟩ hP hD hS 4 1 rfl rfl rfl [4] rfl rfl rfl hl.1 rfl (Nat.le_of_ble_eq_true rfl) dX7_count_102 ⟨Nat.zero_le _, Nat.zero_le _⟩) hP hD hS hA [4] rfl rfl rfl (fun H locs n1 hP hD hS => ?_)
              have hP : va_P G.1 vwCl [(t, .inr (7, [.ref st, .ref kp, .int hasI, .int imgs, .ref vs, .ref rd, .ref wk, .ref chr, .ref shs, .ref er])), (st, .inr (3, [.ref kinds, .ref ms, .ref said, .ref signs, .ref tape, .ref avo, .ref tal, .ref wai, .int vow, .int day, .int worth, .int z])), (kinds, .inr (1, [.ref kinds_q, .int kinds_m])), (signs, .inr (1, [.ref signs_q, .int signs_m])), (tape, .inr (1, [.ref tape_q, .int tape_m])), (wai, .inr (1, [.ref wai_q, .int wai_m])), (chr, .inr (4, [.ref trace, .int parted, .int vkk, .int vkd, .int vmm])), (trace, .inr (1, [.ref trace_q, .int trace_m])), (er, .inl (xI G, 7, .inl er_f))] H := hP
              have hD : va_D A [(t, .inr (7, [.ref st, .ref kp, .int hasI, .int imgs, .ref vs, .ref rd, .ref wk, .ref chr, .ref shs, .ref er])), (st, .inr (3, [.ref kinds, .ref ms, .ref said, .ref signs, .ref tape, .ref avo, .ref tal, .ref wai, .int vow, .int day, .int worth, .int z])), (kinds, .inr (1, [.ref kinds_q, .int kinds_m])), (signs, .inr (1, [.ref signs_q, .int signs_m])), (tape, .inr (1, [.ref tape_q, .int tape_m])), (wai, .inr (1, [.ref wai_q, .int wai_m])), (chr, .inr (4, [.ref trace, .int parted, .int vkk, .int vkd, .int vmm])), (trace, .inr (1, [.ref trace_q, .int trace_m])), (er, .inl (xI G, 7, .inl er_f))] := hD
              obtain rfl := Option.some.inj hF
              rw [← hQ]
              exact W.iret (v := u1) hx hb hr (fun t ht hW => ⟨⟨_, (), rfl, ⟨rfl, rfl⟩, xLf hP ht⟩, hS.F ht⟩) hS.2.2 dX7_count_105
            · have hF := itN c1_5 hF
              by_cases c1_6 : wh = (6 : Int32)
              · have hF := itP c1_6 hF
                refine lv_tableIn (off := 105) (tgt := 106) hx hb dX7_count_1 (by rw [c1_6]; decide) (by rw [c1_6]; decide) (by rw [c1_6]; rfl) (by decide) ?_
                refine lv_aload_n hx hb dX7_count_106 rfl (lv_at hl 0 rfl) ?_
                refine va_get (ci := 7) (v := .ref st) (C := RX7) (T := TX7) (N := 10) hx hb hts (fun w h => tcons w (xin7 w h)) hown hK hP 0 rfl rfl 0 (by decide) (hts _ (tcons _ m16)) (fun _ h9 => h9) rfl dX7_count_107 ?_
                refine va_get (ci := 3) (v := .ref wai) (C := RX3) (T := TX3) (N := 12) hx hb hts (fun w h => tcons w (xin3 w h)) hown hK hP 1 rfl rfl 7 (by decide) (hts _ (tcons _ m1088)) (fun _ h9 => h9) rfl dX7_count_110 ?_
                obtain ⟨u1, e1, hF⟩ := bdS hF
                refine xEndI (xRunV (As := []) (rest := []) hZ (c_X1_many G wai wai_q wai_m u1 e1 l H.size) m246 m126 m127 m49 m128 0 ⟨rfl, hdX1_many⟩ ⟨Nat.le_of_ble_eq_true rfl, Nat.le_of_ble_eq_true rfl⟩ ⟨rfl, rfl⟩ hP hD hS 5 1 rfl rfl rfl [5] rfl rfl rfl hl.1 rfl (Nat.le_of_ble_eq_true rfl) dX7_count_113 ⟨Nat.zero_le _, Nat.zero_le _⟩) hP hD hS hA [5] rfl rfl rfl (fun H locs n1 hP hD hS => ?_)
                have hP : va_P G.1 vwCl [(t, .inr (7, [.ref st, .ref kp, .int hasI, .int imgs, .ref vs, .ref rd, .ref wk, .ref chr, .ref shs, .ref er])), (st, .inr (3, [.ref kinds, .ref ms, .ref said, .ref signs, .ref tape, .ref avo, .ref tal, .ref wai, .int vow, .int day, .int worth, .int z])), (kinds, .inr (1, [.ref kinds_q, .int kinds_m])), (signs, .inr (1, [.ref signs_q, .int signs_m])), (tape, .inr (1, [.ref tape_q, .int tape_m])), (wai, .inr (1, [.ref wai_q, .int wai_m])), (chr, .inr (4, [.ref trace, .int parted, .int vkk, .int vkd, .int vmm])), (trace, .inr (1, [.ref trace_q, .int trace_m])), (er, .inl (xI G, 7, .inl er_f))] H := hP
                have hD : va_D A [(t, .inr (7, [.ref st, .ref kp, .int hasI, .int imgs, .ref vs, .ref rd, .ref wk, .ref chr, .ref shs, .ref er])), (st, .inr (3, [.ref kinds, .ref ms, .ref said, .ref signs, .ref tape, .ref avo, .ref tal, .ref wai, .int vow, .int day, .int worth, .int z])), (kinds, .inr (1, [.ref kinds_q, .int kinds_m])), (signs, .inr (1, [.ref signs_q, .int signs_m])), (tape, .inr (1, [.ref tape_q, .int tape_m])), (wai, .inr (1, [.ref wai_q, .int wai_m])), (chr, .inr (4, [.ref trace, .int parted, .int vkk, .int vkd, .int vmm])), (trace, .inr (1, [.ref trace_q, .int trace_m])), (er, .inl (xI G, 7, .inl er_f))] := hD
                obtain rfl := Option.some.inj hF
                rw [← hQ]
                exact W.iret (v := u1) hx hb hr (fun t ht hW => ⟨⟨_, (), rfl, ⟨rfl, rfl⟩, xLf hP ht⟩, hS.F ht⟩) hS.2.2 dX7_count_116
              · have hF := itN c1_6 hF
                by_cases c1_7 : wh = (7 : Int32)
                · have hF := itP c1_7 hF
                  refine lv_tableIn (off := 116) (tgt := 117) hx hb dX7_count_1 (by rw [c1_7]; decide) (by rw [c1_7]; decide) (by rw [c1_7]; rfl) (by decide) ?_
                  refine lv_aload_n hx hb dX7_count_117 rfl (lv_at hl 0 rfl) ?_
                  refine va_get (ci := 7) (v := .ref chr) (C := RX7) (T := TX7) (N := 10) hx hb hts (fun w h => tcons w (xin7 w h)) hown hK hP 0 rfl rfl 7 (by decide) (hts _ (tcons _ m36)) (fun _ h9 => h9) rfl dX7_count_118 ?_
                  refine va_get (ci := 4) (v := .ref trace) (C := RX4) (T := TX4) (N := 5) hx hb hts (fun w h => tcons w (xin4 w h)) hown hK hP 6 rfl rfl 0 (by decide) (hts _ (tcons _ m987)) (fun _ h9 => h9) rfl dX7_count_121 ?_
                  obtain ⟨u1, e1, hF⟩ := bdS hF
                  refine xEndI (xRunV (As := []) (rest := []) hZ (c_X1_many G trace trace_q trace_m u1 e1 l H.size) m246 m126 m127 m49 m128 0 ⟨rfl, hdX1_many⟩ ⟨Nat.le_of_ble_eq_true rfl, Nat.le_of_ble_eq_true rfl⟩ ⟨rfl, rfl⟩ hP hD hS 7 1 rfl rfl rfl [7] rfl rfl rfl hl.1 rfl (Nat.le_of_ble_eq_true rfl) dX7_count_124 ⟨Nat.zero_le _, Nat.zero_le _⟩) hP hD hS hA [7] rfl rfl rfl (fun H locs n1 hP hD hS => ?_)
                  have hP : va_P G.1 vwCl [(t, .inr (7, [.ref st, .ref kp, .int hasI, .int imgs, .ref vs, .ref rd, .ref wk, .ref chr, .ref shs, .ref er])), (st, .inr (3, [.ref kinds, .ref ms, .ref said, .ref signs, .ref tape, .ref avo, .ref tal, .ref wai, .int vow, .int day, .int worth, .int z])), (kinds, .inr (1, [.ref kinds_q, .int kinds_m])), (signs, .inr (1, [.ref signs_q, .int signs_m])), (tape, .inr (1, [.ref tape_q, .int tape_m])), (wai, .inr (1, [.ref wai_q, .int wai_m])), (chr, .inr (4, [.ref trace, .int parted, .int vkk, .int vkd, .int vmm])), (trace, .inr (1, [.ref trace_q, .int trace_m])), (er, .inl (xI G, 7, .inl er_f))] H := hP
                  have hD : va_D A [(t, .inr (7, [.ref st, .ref kp, .int hasI, .int imgs, .ref vs, .ref rd, .ref wk, .ref chr, .ref shs, .ref er])), (st, .inr (3, [.ref kinds, .ref ms, .ref said, .ref signs, .ref tape, .ref avo, .ref tal, .ref wai, .int vow, .int day, .int worth, .int z])), (kinds, .inr (1, [.ref kinds_q, .int kinds_m])), (signs, .inr (1, [.ref signs_q, .int signs_m])), (tape, .inr (1, [.ref tape_q, .int tape_m])), (wai, .inr (1, [.ref wai_q, .int wai_m])), (chr, .inr (4, [.ref trace, .int parted, .int vkk, .int vkd, .int vmm])), (trace, .inr (1, [.ref trace_q, .int trace_m])), (er, .inl (xI G, 7, .inl er_f))] := hD
                  obtain rfl := Option.some.inj hF
                  rw [← hQ]
                  exact W.iret (v := u1) hx hb hr (fun t ht hW => ⟨⟨_, (), rfl, ⟨rfl, rfl⟩, xLf hP ht⟩, hS.F ht⟩) hS.2.2 dX7_count_127
                · have hF := itN c1_7 hF
                  by_cases c1_8 : wh = (8 : Int32)
                  · have hF := itP c1_8 hF
                    refine lv_tableIn (off := 127) (tgt := 128) hx hb dX7_count_1 (by rw [c1_8]; decide) (by rw [c1_8]; decide) (by rw [c1_8]; rfl) (by decide) ?_
                    refine lv_aload_n hx hb dX7_count_128 rfl (lv_at hl 0 rfl) ?_
                    refine va_get (ci := 7) (v := .ref st) (C := RX7) (T := TX7) (N := 10) hx hb hts (fun w h => tcons w (xin7 w h)) hown hK hP 0 rfl rfl 0 (by decide) (hts _ (tcons _ m16)) (fun _ h9 => h9) rfl dX7_count_129 ?_
                    refine va_get (ci := 3) (v := .int z) (C := RX3) (T := TX3) (N := 12) hx hb hts (fun w h => tcons w (xin3 w h)) hown hK hP 1 rfl rfl 11 (by decide) (hts _ (tcons _ m779)) (fun _ h9 => h9) rfl dX7_count_132 ?_
                    obtain rfl := Option.some.inj hF
                    rw [← hQ]
                    exact W.iret (v := z) hx hb hr (fun t ht hW => ⟨⟨_, (), rfl, ⟨rfl, rfl⟩, xLf hP ht⟩, hS.F ht⟩) hS.2.2 dX7_count_135
                  · have hF := itN c1_8 hF
                    refine lv_tableOut (tgt := 136) hx hb dX7_count_1 (by have h0 : wh.toInt ≠ 0 := xNe c1_0; have h1 : wh.toInt ≠ 1 := xNe c1_1; have h2 : wh.toInt ≠ 2 := xNe c1_2; have h3 : wh.toInt ≠ 3 := xNe c1_3; have h4 : wh.toInt ≠ 4 := xNe c1_4; have h5 : wh.toInt ≠ 5 := xNe c1_5; have h6 : wh.toInt ≠ 6 := xNe c1_6; have h7 : wh.toInt ≠ 7 := xNe c1_7; have h8 : wh.toInt ≠ 8 := xNe c1_8; omega) (by decide) ?_
                    refine lv_aload_n hx hb dX7_count_136 rfl (lv_at hl 0 rfl) ?_
                    refine lv_iconst (v := 1) hx hb dX7_count_137 (by decide) ?_
                    obtain ⟨u1, e1, hF⟩ := bdS hF
                    refine xEndI (xRunV (As := [.int (1 : Int32)]) (rest := []) hZ (c_X7_error G t st kp vs rd wk chr shs er hasI imgs er_f (1 : Int32) u1 e1 l H.size) m167 m168 m169 m2 m170 1 ⟨rfl, hdX7_error⟩ ⟨Nat.le_of_ble_eq_true rfl, Nat.le_of_ble_eq_true rfl⟩ ⟨rfl, rfl⟩ hP hD hS 0 7 rfl rfl rfl [0, 8] rfl rfl rfl hl.1 rfl (Nat.le_of_ble_eq_true rfl) dX7_count_138 ⟨Nat.zero_le _, Nat.zero_le _⟩) hP hD hS hA [0, 8] rfl rfl rfl (fun H locs n1 hP hD hS => ?_)
                    have hP : va_P G.1 vwCl [(t, .inr (7, [.ref st, .ref kp, .int hasI, .int imgs, .ref vs, .ref rd, .ref wk, .ref chr, .ref shs, .ref er])), (st, .inr (3, [.ref kinds, .ref ms, .ref said, .ref signs, .ref tape, .ref avo, .ref tal, .ref wai, .int vow, .int day, .int worth, .int z])), (kinds, .inr (1, [.ref kinds_q, .int kinds_m])), (signs, .inr (1, [.ref signs_q, .int signs_m])), (tape, .inr (1, [.ref tape_q, .int tape_m])), (wai, .inr (1, [.ref wai_q, .int wai_m])), (chr, .inr (4, [.ref trace, .int parted, .int vkk, .int vkd, .int vmm])), (trace, .inr (1, [.ref trace_q, .int trace_m])), (er, .inl (xI G, 7, .inl u1.2))] H := hP
                    have hD : va_D A [(t, .inr (7, [.ref st, .ref kp, .int hasI, .int imgs, .ref vs, .ref rd, .ref wk, .ref chr, .ref shs, .ref er])), (st, .inr (3, [.ref kinds, .ref ms, .ref said, .ref signs, .ref tape, .ref avo, .ref tal, .ref wai, .int vow, .int day, .int worth, .int z])), (kinds, .inr (1, [.ref kinds_q, .int kinds_m])), (signs, .inr (1, [.ref signs_q, .int signs_m])), (tape, .inr (1, [.ref tape_q, .int tape_m])), (wai, .inr (1, [.ref wai_q, .int wai_m])), (chr, .inr (4, [.ref trace, .int parted, .int vkk, .int vkd, .int vmm])), (trace, .inr (1, [.ref trace_q, .int trace_m])), (er, .inl (xI G, 7, .inl u1.2))] := hD
                    obtain rfl := Option.some.inj hF
                    rw [← hQ]
                    exact W.iret (v := u1.1) hx hb hr (fun t ht hW => ⟨⟨_, (), rfl, ⟨rfl, rfl⟩, xLf hP ht⟩, hS.F ht⟩) hS.2.2 dX7_count_141
def F_X7_told (er_f : Nat → Int32) (k : Int32) : Option (Int32 × (Nat → Int32)) := bd (F_X7_within k (1 : Int32) (6 : Int32)) (fun (u1 : Int32) => if u1 = 0 then (bd (F_X7_error er_f (1 : Int32)) (fun (u2 : (Int32 × (Nat → Int32))) => some (u2.1, u2.2))) else (if (k < 0 ∨ 7 ≤ k.toNatClampNeg) then none else (some ((er_f k.toNatClampNeg), er_f))))
theorem hdX7_told : yX7_told.cls ≠ "java/lang/invoke/MethodHandle" ∧ yX7_told.cls ≠ "java/lang/invoke/VarHandle" ∧ (parseMethodDescriptor yX7_told.desc).map (fun d => d.parameters.length) = some 1 := by decide +kernel
set_option maxHeartbeats 4000000 in
set_option maxRecDepth 100000 in
theorem c_X7_told (G : xG) (t : Nat) (st : Nat) (kp : Nat) (vs : Nat) (rd : Nat) (wk : Nat) (chr : Nat) (shs : Nat) (er : Nat) (hasI : Int32) (imgs : Int32) (er_f : Nat → Int32) (k : Int32)  (u : (Int32 × (Nat → Int32))) (hF : F_X7_told er_f k = some u) : Ki G .int yX7_told (Cond.code yX7_told cX7_told 2 (some .int) :: TBL) { frames := 2, cells := 0, slots := 0, locals := 43 } [.ref t, .int k] [(t, .inr (7, [.ref st, .ref kp, .int hasI, .int imgs, .ref vs, .ref rd, .ref wk, .ref chr, .ref shs, .ref er])), (er, .inl (xI G, 7, .inl er_f))] [(t, .inr (7, [.ref st, .ref kp, .int hasI, .int imgs, .ref vs, .ref rd, .ref wk, .ref chr, .ref shs, .ref er])), (er, .inl (xI G, 7, .inl u.2))] u.1 := by
  intro l sz
  refine Met.ofW (cc := cX7_told) (maxL := 2) (ret := (some .int)) (by decide) rfl ?_
  intro p e s m args below meth c s₁ B hml hv
  obtain ⟨rfl, hsz, hP, hD0, hm⟩ := hv
  have hx := B.exec
  have hb := B.bytes
  have hr := B.returns
  have hts := atoms_spec (ws := Cond.code yX7_told cX7_told 2 (some .int) :: TBL) B.pre
  have hown : s.vm.findClass RX7 = some m.cls := findClass_of_methodNamed B.named
  have hlocks := B.notSynchronized
  subst hsz
  have hD := hD0.self (sz := s.heap.size)
  generalize hAe : va_A [(t, .inr (7, [.ref st, .ref kp, .int hasI, .int imgs, .ref vs, .ref rd, .ref wk, .ref chr, .ref shs, .ref er])), (er, .inl (xI G, 7, .inl er_f))] s.heap.size = A at hD hm ⊢
  have hA : ∀ q : Nat, s.heap.size ≤ q → A q := fun q h => by rw [← hAe]; exact Or.inr h
  have hK := hm.1
  have hZ : xAnd p m c cX7_told 2 s _ (Cond.code yX7_told cX7_told 2 (some .int) :: TBL) RX7 G A := ⟨⟨hx, hb, hml, hown, hts⟩, tcons, hA, hm⟩
  have hP : va_P G.1 vwCl [(t, .inr (7, [.ref st, .ref kp, .int hasI, .int imgs, .ref vs, .ref rd, .ref wk, .ref chr, .ref shs, .ref er])), (er, .inl (xI G, 7, .inl er_f))] s.heap := hP
  have hl := lv_entry ([.ref t, .int k]) (n := 2) (Nat.le_of_ble_eq_true rfl)
  rw [lg_entry_eq]
  generalize (lg_sl ([.ref t, .int k]) ++ List.replicate (2 - (lg_sl ([.ref t, .int k])).length) Slot.unset).toArray = ls at hl ⊢
  have hl : lv_has ls 2 [(0, .ref t), (1, .int k)] := hl
  generalize hQ : MQ below _ _ s _ _ _ = Q
  refine xGo (A := A) hP (fun H locs hP hS => ?_)
  unfold F_X7_told at hF
  refine lv_iload_n hx hb dX7_told_0 rfl (lv_at hl 1 rfl) ?_
  refine lv_iconst (v := 1) hx hb dX7_told_1 (by decide) ?_
  refine lv_bipush (v := 6) hx hb dX7_told_2 (by decide) ?_
  obtain ⟨u1, e1, hF⟩ := bdS hF
  refine xEndI (xRunS (As := [.int k, .int (1 : Int32), .int (6 : Int32)]) (rest := []) hZ (c_X7_within G k (1 : Int32) (6 : Int32) u1 e1 l H.size) m164 m165 m2 m166 3 hdX7_within ⟨Nat.le_of_ble_eq_true rfl, Nat.le_of_ble_eq_true rfl⟩ ⟨rfl, rfl⟩ hP hD hS [] rfl rfl rfl hl.1 rfl (Nat.le_of_ble_eq_true rfl) dX7_told_4 ⟨Nat.zero_le _, Nat.zero_le _⟩) hP hD hS hA [] rfl rfl rfl (fun H locs n1 hP hD hS => ?_)
  have hP : va_P G.1 vwCl [(t, .inr (7, [.ref st, .ref kp, .int hasI, .int imgs, .ref vs, .ref rd, .ref wk, .ref chr, .ref shs, .ref er])), (er, .inl (xI G, 7, .inl er_f))] H := hP
  have hD : va_D A [(t, .inr (7, [.ref st, .ref kp, .int hasI, .int imgs, .ref vs, .ref rd, .ref wk, .ref chr, .ref shs, .ref er])), (er, .inl (xI G, 7, .inl er_f))] := hD
  refine lv_if_eq (tgt := 19) hx hb dX7_told_7 (by decide) (fun c7 => ?_) (fun c7 => ?_)
  · have hF := itP c7 hF
    refine lv_aload_n hx hb dX7_told_19 rfl (lv_at hl 0 rfl) ?_
    refine lv_iconst (v := 1) hx hb dX7_told_20 (by decide) ?_
    obtain ⟨u2, e2, hF⟩ := bdS hF
    refine xEndI (xRunV (As := [.int (1 : Int32)]) (rest := []) hZ (c_X7_error G t st kp vs rd wk chr shs er hasI imgs er_f (1 : Int32) u2 e2 l H.size) m167 m168 m169 m2 m170 1 ⟨rfl, hdX7_error⟩ ⟨Nat.le_of_ble_eq_true rfl, Nat.le_of_ble_eq_true rfl⟩ ⟨rfl, rfl⟩ hP hD hS 0 7 rfl rfl rfl [0, 1] rfl rfl rfl hl.1 rfl (Nat.le_of_ble_eq_true rfl) dX7_told_21 ⟨Nat.zero_le _, Nat.zero_le _⟩) hP hD hS hA [0, 1] rfl rfl rfl (fun H locs n2 hP hD hS => ?_)
    have hP : va_P G.1 vwCl [(t, .inr (7, [.ref st, .ref kp, .int hasI, .int imgs, .ref vs, .ref rd, .ref wk, .ref chr, .ref shs, .ref er])), (er, .inl (xI G, 7, .inl u2.2))] H := hP
    have hD : va_D A [(t, .inr (7, [.ref st, .ref kp, .int hasI, .int imgs, .ref vs, .ref rd, .ref wk, .ref chr, .ref shs, .ref er])), (er, .inl (xI G, 7, .inl u2.2))] := hD
    obtain rfl := Option.some.inj hF
    rw [← hQ]
    exact W.iret (v := u2.1) hx hb hr (fun t ht hW => ⟨⟨_, (), rfl, ⟨rfl, rfl⟩, xLf hP ht⟩, hS.F ht⟩) hS.2.2 dX7_told_24
  · have hF := itN c7 hF
    refine lv_aload_n hx hb dX7_told_10 rfl (lv_at hl 0 rfl) ?_
    refine va_get (ci := 7) (v := .ref er) (C := RX7) (T := TX7) (N := 10) hx hb hts (fun w h => tcons w (xin7 w h)) hown hK hP 0 rfl rfl 9 (by decide) (hts _ (tcons _ m40)) (fun _ h9 => h9) rfl dX7_told_11 ?_
    refine lv_iload_n hx hb dX7_told_14 rfl (lv_at hl 1 rfl) ?_
    obtain ⟨g15, hF⟩ := gdS hF
    refine va_iald hx hb hK hP 1 0 rfl rfl g15 dX7_told_15 ?_
    refine lv_goto (tgt := 24) hx hb dX7_told_16 (by decide) ?_
    obtain rfl := Option.some.inj hF
    rw [← hQ]
    exact W.iret (v := (er_f k.toNatClampNeg)) hx hb hr (fun t ht hW => ⟨⟨_, (), rfl, ⟨rfl, rfl⟩, xLf hP ht⟩, hS.F ht⟩) hS.2.2 dX7_told_24
