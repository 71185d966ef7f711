def F_X3_codesOf_out (us : Int32) : Option Unit := if us = 0 then (none) else (if us = (1 : Int32) then (none) else (some ()))
set_option maxHeartbeats 4000000 in
set_option maxRecDepth 100000 in
theorem c_X3_codesOf_out (G : xG) (t : Nat) (kinds : Nat) (ms : Nat) (said : Nat) (signs : Nat) (tape : Nat) (avo : Nat) (tal : Nat) (wai : Nat) (vow : Int32) (day : Int32) (worth : Int32) (z : Int32) (us : Int32)  (u : Unit) (hF : F_X3_codesOf_out us = some u) : Kq G yX3_codesOf (Cond.code yX3_codesOf cX3_codesOf 2 (some (.object "ParrotVow$Row")) :: TBL) { frames := 0, cells := 0, slots := 0, locals := 0 } [.ref t, .int us] [(t, .inr (3, [.ref kinds, .ref ms, .ref said, .ref signs, .ref tape, .ref avo, .ref tal, .ref wai, .int vow, .int day, .int worth, .int z]))] [(t, .inr (3, [.ref kinds, .ref ms, .ref said, .ref signs, .ref tape, .ref avo, .ref tal, .ref wai, .int vow, .int day, .int worth, .int z]))] none := by
  intro l sz
  refine Met.ofW (cc := cX3_codesOf) (maxL := 2) (ret := (some (.object "ParrotVow$Row"))) (by decide) rfl ?_
  intro p e s m args below meth c s₁ B hml hv
  obtain ⟨rfl, hsz, hP, hD0, hm⟩ := hv
  have hx := B.exec
  have hb := B.bytes
  have hr := B.returns
  have hts := atoms_spec (ws := Cond.code yX3_codesOf cX3_codesOf 2 (some (.object "ParrotVow$Row")) :: TBL) B.pre
  have hown : s.vm.findClass RX3 = some m.cls := findClass_of_methodNamed B.named
  have hlocks := B.notSynchronized
  subst hsz
  have hD := hD0.self (sz := s.heap.size)
  generalize hAe : va_A [(t, .inr (3, [.ref kinds, .ref ms, .ref said, .ref signs, .ref tape, .ref avo, .ref tal, .ref wai, .int vow, .int day, .int worth, .int z]))] s.heap.size = A at hD hm ⊢
  have hA : ∀ q : Nat, s.heap.size ≤ q → A q := fun q h => by rw [← hAe]; exact Or.inr h
  have hK := hm.1
  have hZ : xAnd p m c cX3_codesOf 2 s _ (Cond.code yX3_codesOf cX3_codesOf 2 (some (.object "ParrotVow$Row")) :: TBL) RX3 G A := ⟨⟨hx, hb, hml, hown, hts⟩, tcons, hA, hm⟩
  have hP : va_P G.1 vwCl [(t, .inr (3, [.ref kinds, .ref ms, .ref said, .ref signs, .ref tape, .ref avo, .ref tal, .ref wai, .int vow, .int day, .int worth, .int z]))] s.heap := hP
  have hl := lv_entry ([.ref t, .int us]) (n := 2) (Nat.le_of_ble_eq_true rfl)
  rw [lg_entry_eq]
  generalize (lg_sl ([.ref t, .int us]) ++ List.replicate (2 - (lg_sl ([.ref t, .int us])).length) Slot.unset).toArray = ls at hl ⊢
  have hl : lv_has ls 2 [(0, .ref t), (1, .int us)] := hl
  generalize hQ : MQ below _ _ s _ _ _ = Q
  refine xGo (A := A) hP (fun H locs hP hS => ?_)
  unfold F_X3_codesOf_out at hF
  refine lv_iload_n hx hb dX3_codesOf_0 rfl (lv_at hl 1 rfl) ?_
  refine lv_if_ne (tgt := 9) hx hb dX3_codesOf_1 (by decide) (fun c1 => ?_) (fun c1 => ?_)
  · have hF := itN c1 hF
    refine lv_iload_n hx hb dX3_codesOf_9 rfl (lv_at hl 1 rfl) ?_
    refine lv_iconst (v := 1) hx hb dX3_codesOf_10 (by decide) ?_
    refine lv_icmp_ne (tgt := 21) hx hb dX3_codesOf_11 (by decide) (fun c11 => ?_) (fun c11 => ?_)
    · have hF := itN c11 hF
      refine lv_null hx hb dX3_codesOf_21 ?_
      obtain rfl := Option.some.inj hF
      rw [← hQ]
      exact W.aret (v := .null) hx hb hr (Or.inl ⟨_, rfl⟩) (Or.inl rfl) (fun t ht hW => ⟨⟨_, (), rfl, rfl, xLf hP ht⟩, hS.F ht⟩) hS.2.2 dX3_codesOf_22
    · have hF := itP c11 hF
      refine lv_aload_n hx hb dX3_codesOf_14 rfl (lv_at hl 0 rfl) ?_
      refine va_get (ci := 3) (v := .ref tal) (C := RX3) (T := TX3) (N := 12) hx hb hts (fun w h => tcons w (xin3 w h)) hown hK hP 0 rfl rfl 6 (by decide) (hts _ (tcons _ m56)) (fun _ h9 => h9) rfl dX3_codesOf_15 ?_
      refine lv_goto (tgt := 22) hx hb dX3_codesOf_18 (by decide) ?_
      cases hF
  · have hF := itP c1 hF
    refine lv_aload_n hx hb dX3_codesOf_4 rfl (lv_at hl 0 rfl) ?_
    refine va_get (ci := 3) (v := .ref avo) (C := RX3) (T := TX3) (N := 12) hx hb hts (fun w h => tcons w (xin3 w h)) hown hK hP 0 rfl rfl 5 (by decide) (hts _ (tcons _ m55)) (fun _ h9 => h9) rfl dX3_codesOf_5 ?_
    cases hF
def F_X7_text_0 (tape_m : Int32) (tape_f : Nat → Int32) (avo_m : Int32) (avo_f : Nat → Int32) (codes_f : Nat → Int32) : Option (Int32 × Int32 × Int32 × (Nat → Int32) × Nat × Int32 × Int32 × Int32 × (Nat → Int32)) := bd (F_X3_codesOf_0) (fun (u1 : Unit) => bd (F_X0_faultOf tape_m tape_f codes_f 0) (fun (u2 : (Int32 × Nat × Int32 × Int32 × Int32 × (Nat → Int32))) => bd (F_X1_clear) (fun (u3 : Int32) => if u2.1 < 0 then (bd (F_X1_takeAll 60 60 avo_f u2.2.2.2.2.1 u2.2.2.2.2.2) (fun (u4 : (Int32 × (Nat → Int32))) => some ((1 : Int32), u3, u4.1, u4.2, u2.2.1, u2.2.2.1, u2.2.2.2.1, u2.2.2.2.2.1, u2.2.2.2.2.2))) else (some (((-10 : Int32) - u2.1), u3, avo_m, avo_f, u2.2.1, u2.2.2.1, u2.2.2.2.1, u2.2.2.2.2.1, u2.2.2.2.2.2)))))
theorem hdX7_text : yX7_text.cls ≠ "java/lang/invoke/MethodHandle" ∧ yX7_text.cls ≠ "java/lang/invoke/VarHandle" ∧ (parseMethodDescriptor yX7_text.desc).map (fun d => d.parameters.length) = some 1 := by decide +kernel
set_option maxHeartbeats 4000000 in
set_option maxRecDepth 100000 in
theorem c_X7_text_0 (G : xG) (t : Nat) (st : Nat) (kp : Nat) (vs : Nat) (rd : Nat) (wk : Nat) (chr : Nat) (shs : Nat) (er : Nat) (kinds : Nat) (ms : Nat) (said : Nat) (signs : Nat) (tape : Nat) (avo : Nat) (tal : Nat) (wai : Nat) (tape_q : Nat) (avo_q : Nat) (codes : Nat) (codes_q : Nat) (hasI : Int32) (imgs : Int32) (vow : Int32) (day : Int32) (worth : Int32) (z : Int32) (tape_m : Int32) (tape_f : Nat → Int32) (avo_m : Int32) (avo_f : Nat → Int32) (kk : Nat) (rat : Int32) (flt : Int32) (codes_m : Int32) (codes_f : Nat → Int32)  (u : (Int32 × Int32 × Int32 × (Nat → Int32) × Nat × Int32 × Int32 × Int32 × (Nat → Int32))) (hF : F_X7_text_0 tape_m tape_f avo_m avo_f codes_f = some u) : Ki G .int yX7_text (Cond.code yX7_text cX7_text 4 (some .int) :: TBL) { frames := 91, cells := 0, slots := 0, locals := 1992 } [.ref t, .int (0 : Int32)] [(t, .inr (7, [.ref st, .ref kp, .int hasI, .int imgs, .ref vs, .ref rd, .ref wk, .ref chr, .ref shs, .ref er])), (st, .inr (3, [.ref kinds, .ref ms, .ref said, .ref signs, .ref tape, .ref avo, .ref tal, .ref wai, .int vow, .int day, .int worth, .int z])), (tape, .inr (1, [.ref tape_q, .int tape_m])), (tape_q, .inl (xI G, 60, .inl tape_f)), (avo, .inr (1, [.ref avo_q, .int avo_m])), (avo_q, .inl (xI G, 60, .inl avo_f)), (rd, .inr (0, [.ref tape, .ref codes, .ref (xK G kk), .int rat, .int flt])), (codes, .inr (1, [.ref codes_q, .int codes_m])), (codes_q, .inl (xI G, 60, .inl codes_f))] [(t, .inr (7, [.ref st, .ref kp, .int hasI, .int imgs, .ref vs, .ref rd, .ref wk, .ref chr, .ref shs, .ref er])), (st, .inr (3, [.ref kinds, .ref ms, .ref said, .ref signs, .ref tape, .ref avo, .ref tal, .ref wai, .int vow, .int day, .int worth, .int z])), (tape, .inr (1, [.ref tape_q, .int u.2.1])), (tape_q, .inl (xI G, 60, .inl tape_f)), (avo, .inr (1, [.ref avo_q, .int u.2.2.1])), (avo_q, .inl (xI G, 60, .inl u.2.2.2.1)), (rd, .inr (0, [.ref tape, .ref codes, .ref (xK G u.2.2.2.2.1), .int u.2.2.2.2.2.1, .int u.2.2.2.2.2.2.1])), (codes, .inr (1, [.ref codes_q, .int u.2.2.2.2.2.2.2.1])), (codes_q, .inl (xI G, 60, .inl u.2.2.2.2.2.2.2.2))] u.1 := by
  intro l sz
  refine Met.ofW (cc := cX7_text) (maxL := 4) (ret := (some .int)) (by decide) rfl ?_
  intro p e s m args below meth c s₁ B hml hv
  obtain ⟨rfl, hsz, hP, hD0, hm⟩ := hv
  have hx := B.exec
  have hb := B.bytes
  have hr := B.returns
  have hts := atoms_spec (ws := Cond.code yX7_text cX7_text 4 (some .int) :: TBL) B.pre
  have hown : s.vm.findClass RX7 = some m.cls := findClass_of_methodNamed B.named
  have hlocks := B.notSynchronized
  subst hsz
  have hD := hD0.self (sz := s.heap.size)
  generalize hAe : va_A [(t, .inr (7, [.ref st, .ref kp, .int hasI, .int imgs, .ref vs, .ref rd, .ref wk, .ref chr, .ref shs, .ref er])), (st, .inr (3, [.ref kinds, .ref ms, .ref said, .ref signs, .ref tape, .ref avo, .ref tal, .ref wai, .int vow, .int day, .int worth, .int z])), (tape, .inr (1, [.ref tape_q, .int tape_m])), (tape_q, .inl (xI G, 60, .inl tape_f)), (avo, .inr (1, [.ref avo_q, .int avo_m])), (avo_q, .inl (xI G, 60, .inl avo_f)), (rd, .inr (0, [.ref tape, .ref codes, .ref (xK G kk), .int rat, .int flt])), (codes, .inr (1, [.ref codes_q, .int codes_m])), (codes_q, .inl (xI G, 60, .inl codes_f))] s.heap.size = A at hD hm ⊢
  have hA : ∀ q : Nat, s.heap.size ≤ q → A q := fun q h => by rw [← hAe]; exact Or.inr h
  have hK := hm.1
  have hZ : xAnd p m c cX7_text 4 s _ (Cond.code yX7_text cX7_text 4 (some .int) :: TBL) RX7 G A := ⟨⟨hx, hb, hml, hown, hts⟩, tcons, hA, hm⟩
  have hP : va_P G.1 vwCl [(t, .inr (7, [.ref st, .ref kp, .int hasI, .int imgs, .ref vs, .ref rd, .ref wk, .ref chr, .ref shs, .ref er])), (st, .inr (3, [.ref kinds, .ref ms, .ref said, .ref signs, .ref tape, .ref avo, .ref tal, .ref wai, .int vow, .int day, .int worth, .int z])), (tape, .inr (1, [.ref tape_q, .int tape_m])), (tape_q, .inl (xI G, 60, .inl tape_f)), (avo, .inr (1, [.ref avo_q, .int avo_m])), (avo_q, .inl (xI G, 60, .inl avo_f)), (rd, .inr (0, [.ref tape, .ref codes, .ref (xK G kk), .int rat, .int flt])), (codes, .inr (1, [.ref codes_q, .int codes_m])), (codes_q, .inl (xI G, 60, .inl codes_f))] s.heap := hP
  have hl := lv_entry ([.ref t, .int (0 : Int32)]) (n := 4) (Nat.le_of_ble_eq_true rfl)
  rw [lg_entry_eq]
  generalize (lg_sl ([.ref t, .int (0 : Int32)]) ++ List.replicate (4 - (lg_sl ([.ref t, .int (0 : Int32)])).length) Slot.unset).toArray = ls at hl ⊢
  have hl : lv_has ls 4 [(0, .ref t), (1, .int (0 : Int32))] := hl
  generalize hQ : MQ below _ _ s _ _ _ = Q
  refine xGo (A := A) hP (fun H locs hP hS => ?_)
  unfold F_X7_text_0 at hF
  refine lv_aload_n hx hb dX7_text_0 rfl (lv_at hl 0 rfl) ?_
  refine va_get (ci := 7) (v := .ref st) (C := RX7) (T := TX7) (N := 10) hx hb hts (fun w h => tcons w (xin7 w h)) hown hK hP 0 rfl rfl 0 (by decide) (hts _ (tcons _ m16)) (fun _ h9 => h9) rfl dX7_text_1 ?_
  refine lv_iload_n hx hb dX7_text_4 rfl (lv_at hl 1 rfl) ?_
  obtain ⟨u1, e1, hF⟩ := bdS hF
  refine xEndQ (xRunV (As := [.int (0 : Int32)]) (rest := []) hZ (c_X3_codesOf_0 G st kinds ms said signs tape avo tal wai vow day worth z u1 e1 l H.size) m242 m243 m244 m15 m245 1 ⟨rfl, hdX3_codesOf⟩ ⟨Nat.le_of_ble_eq_true rfl, Nat.le_of_ble_eq_true rfl⟩ ⟨rfl, rfl⟩ hP hD hS 1 3 rfl rfl rfl [1] rfl rfl rfl hl.1 rfl (Nat.le_of_ble_eq_true rfl) dX7_text_5 ⟨Nat.zero_le _, Nat.zero_le _⟩) hP hD hS hA [1] rfl rfl rfl (fun H locs hP hD hS => ?_)
  have hP : va_P G.1 vwCl [(t, .inr (7, [.ref st, .ref kp, .int hasI, .int imgs, .ref vs, .ref rd, .ref wk, .ref chr, .ref shs, .ref er])), (st, .inr (3, [.ref kinds, .ref ms, .ref said, .ref signs, .ref tape, .ref avo, .ref tal, .ref wai, .int vow, .int day, .int worth, .int z])), (tape, .inr (1, [.ref tape_q, .int tape_m])), (tape_q, .inl (xI G, 60, .inl tape_f)), (avo, .inr (1, [.ref avo_q, .int avo_m])), (avo_q, .inl (xI G, 60, .inl avo_f)), (rd, .inr (0, [.ref tape, .ref codes, .ref (xK G kk), .int rat, .int flt])), (codes, .inr (1, [.ref codes_q, .int codes_m])), (codes_q, .inl (xI G, 60, .inl codes_f))] H := hP
  have hD : va_D A [(t, .inr (7, [.ref st, .ref kp, .int hasI, .int imgs, .ref vs, .ref rd, .ref wk, .ref chr, .ref shs, .ref er])), (st, .inr (3, [.ref kinds, .ref ms, .ref said, .ref signs, .ref tape, .ref avo, .ref tal, .ref wai, .int vow, .int day, .int worth, .int z])), (tape, .inr (1, [.ref tape_q, .int tape_m])), (tape_q, .inl (xI G, 60, .inl tape_f)), (avo, .inr (1, [.ref avo_q, .int avo_m])), (avo_q, .inl (xI G, 60, .inl avo_f)), (rd, .inr (0, [.ref tape, .ref codes, .ref (xK G kk), .int rat, .int flt])), (codes, .inr (1, [.ref codes_q, .int codes_m])), (codes_q, .inl (xI G, 60, .inl codes_f))] := hD
  refine lv_astore_n (lv' := [(2, .ref avo), (0, .ref t), (1, .int (0 : Int32))]) hx hb dX7_text_8 rfl hl (by decide) rfl (fun ls hl => ?_)
  refine lv_aload_n hx hb dX7_text_9 rfl (lv_at hl 0 rfl) ?_
  refine lv_ifnonnull (tgt := 19) hx hb dX7_text_10 (by decide) ?_
  refine lv_aload_n hx hb dX7_text_19 rfl (lv_at hl 1 rfl) ?_
  refine va_get (ci := 7) (v := .ref rd) (C := RX7) (T := TX7) (N := 10) hx hb hts (fun w h => tcons w (xin7 w h)) hown hK hP 0 rfl rfl 5 (by decide) (hts _ (tcons _ m28)) (fun _ h9 => h9) rfl dX7_text_20 ?_
  refine lv_iload_n hx hb dX7_text_23 rfl (lv_at hl 2 rfl) ?_
  refine lv_if_ne (tgt := 32) hx hb dX7_text_24 (by decide) (fun c24 => absurd (by decide) c24) (fun c24 => ?_)
  refine va_ldcS hx hb hown hm.2.2.1.1 dX7_text_27 ?_
  refine lv_goto (tgt := 34) hx hb dX7_text_29 (by decide) ?_
  obtain ⟨u2, e2, hF⟩ := bdS hF
  refine xEndI (xRunV (As := [.ref (xK G 0)]) (rest := []) hZ (c_X0_faultOf G rd tape codes tape_q codes_q kk rat flt tape_m tape_f codes_m codes_f 0 (by decide) u2 e2 l H.size) m497 m498 m499 m26 m500 1 ⟨rfl, hdX0_faultOf⟩ ⟨Nat.le_of_ble_eq_true rfl, Nat.le_of_ble_eq_true rfl⟩ ⟨rfl, rfl⟩ hP hD hS 6 0 rfl rfl rfl [6, 2, 3, 7, 8] rfl rfl rfl hl.1 rfl (Nat.le_of_ble_eq_true rfl) dX7_text_34 ⟨Nat.zero_le _, Nat.zero_le _⟩) hP hD hS hA [6, 2, 3, 7, 8] rfl rfl rfl (fun H locs n2 hP hD hS => ?_)
  have hP : va_P G.1 vwCl [(t, .inr (7, [.ref st, .ref kp, .int hasI, .int imgs, .ref vs, .ref rd, .ref wk, .ref chr, .ref shs, .ref er])), (st, .inr (3, [.ref kinds, .ref ms, .ref said, .ref signs, .ref tape, .ref avo, .ref tal, .ref wai, .int vow, .int day, .int worth, .int z])), (tape, .inr (1, [.ref tape_q, .int tape_m])), (tape_q, .inl (xI G, 60, .inl tape_f)), (avo, .inr (1, [.ref avo_q, .int avo_m])), (avo_q, .inl (xI G, 60, .inl avo_f)), (rd, .inr (0, [.ref tape, .ref codes, .ref (xK G u2.2.1), .int u2.2.2.1, .int u2.2.2.2.1])), (codes, .inr (1, [.ref codes_q, .int u2.2.2.2.2.1])), (codes_q, .inl (xI G, 60, .inl u2.2.2.2.2.2))] H := hP
  have hD : va_D A [(t, .inr (7, [.ref st, .ref kp, .int hasI, .int imgs, .ref vs, .ref rd, .ref wk, .ref chr, .ref shs, .ref er])), (st, .inr (3, [.ref kinds, .ref ms, .ref said, .ref signs, .ref tape, .ref avo, .ref tal, .ref wai, .int vow, .int day, .int worth, .int z])), (tape, .inr (1, [.ref tape_q, .int tape_m])), (tape_q, .inl (xI G, 60, .inl tape_f)), (avo, .inr (1, [.ref avo_q, .int avo_m])), (avo_q, .inl (xI G, 60, .inl avo_f)), (rd, .inr (0, [.ref tape, .ref codes, .ref (xK G u2.2.1), .int u2.2.2.1, .int u2.2.2.2.1])), (codes, .inr (1, [.ref codes_q, .int u2.2.2.2.2.1])), (codes_q, .inl (xI G, 60, .inl u2.2.2.2.2.2))] := hD
  refine lv_istore_n (lv' := [(3, .int u2.1), (2, .ref avo), (0, .ref t), (1, .int (0 : Int32))]) hx hb dX7_text_37 rfl hl (by decide) rfl (fun ls hl => ?_)
  refine lv_aload_n hx hb dX7_text_38 rfl (lv_at hl 2 rfl) ?_
  refine va_get (ci := 7) (v := .ref st) (C := RX7) (T := TX7) (N := 10) hx hb hts (fun w h => tcons w (xin7 w h)) hown hK hP 0 rfl rfl 0 (by decide) (hts _ (tcons _ m16)) (fun _ h9 => h9) rfl dX7_text_39 ?_
  refine va_get (ci := 3) (v := .ref tape) (C := RX3) (T := TX3) (N := 12) hx hb hts (fun w h => tcons w (xin3 w h)) hown hK hP 1 rfl rfl 4 (by decide) (hts _ (tcons _ m27)) (fun _ h9 => h9) rfl dX7_text_42 ?_
  obtain ⟨u3, e3, hF⟩ := bdS hF
  refine xEndV (xRunV (As := []) (rest := []) hZ (c_X1_clear G tape tape_q tape_m u3 e3 l H.size) m654 m252 m253 m49 m254 0 ⟨rfl, hdX1_clear⟩ ⟨Nat.le_of_ble_eq_true rfl, Nat.le_of_ble_eq_true rfl⟩ ⟨rfl, rfl⟩ hP hD hS 2 1 rfl rfl rfl [2] rfl rfl rfl hl.1 rfl (Nat.le_of_ble_eq_true rfl) dX7_text_45 ⟨Nat.zero_le _, Nat.zero_le _⟩) hP hD hS hA [2] rfl rfl rfl (fun H locs hP hD hS => ?_)
  have hP : va_P G.1 vwCl [(t, .inr (7, [.ref st, .ref kp, .int hasI, .int imgs, .ref vs, .ref rd, .ref wk, .ref chr, .ref shs, .ref er])), (st, .inr (3, [.ref kinds, .ref ms, .ref said, .ref signs, .ref tape, .ref avo, .ref tal, .ref wai, .int vow, .int day, .int worth, .int z])), (tape, .inr (1, [.ref tape_q, .int u3])), (tape_q, .inl (xI G, 60, .inl tape_f)), (avo, .inr (1, [.ref avo_q, .int avo_m])), (avo_q, .inl (xI G, 60, .inl avo_f)), (rd, .inr (0, [.ref tape, .ref codes, .ref (xK G u2.2.1), .int u2.2.2.1, .int u2.2.2.2.1])), (codes, .inr (1, [.ref codes_q, .int u2.2.2.2.2.1])), (codes_q, .inl (xI G, 60, .inl u2.2.2.2.2.2))] H := hP
  have hD : va_D A [(t, .inr (7, [.ref st, .ref kp, .int hasI, .int imgs, .ref vs, .ref rd, .ref wk, .ref chr, .ref shs, .ref er])), (st, .inr (3, [.ref kinds, .ref ms, .ref said, .ref signs, .ref tape, .ref avo, .ref tal, .ref wai, .int vow, .int day, .int worth, .int z])), (tape, .inr (1, [.ref tape_q, .int u3])), (tape_q, .inl (xI G, 60, .inl tape_f)), (avo, .inr (1, [.ref avo_q, .int avo_m])), (avo_q, .inl (xI G, 60, .inl avo_f)), (rd, .inr (0, [.ref tape, .ref codes, .ref (xK G u2.2.1), .int u2.2.2.1, .int u2.2.2.2.1])), (codes, .inr (1, [.ref codes_q, .int u2.2.2.2.2.1])), (codes_q, .inl (xI G, 60, .inl u2.2.2.2.2.2))] := hD
  refine lv_iload_n hx hb dX7_text_48 rfl (lv_at hl 0 rfl) ?_
  refine lv_if_lt (tgt := 57) hx hb dX7_text_49 (by decide) (fun c49 => ?_) (fun c49 => ?_)
  · have hF := itP c49 hF
    refine lv_aload_n hx hb dX7_text_57 rfl (lv_at hl 1 rfl) ?_
    refine lv_aload_n hx hb dX7_text_58 rfl (lv_at hl 2 rfl) ?_
    refine va_get (ci := 7) (v := .ref rd) (C := RX7) (T := TX7) (N := 10) hx hb hts (fun w h => tcons w (xin7 w h)) hown hK hP 0 rfl rfl 5 (by decide) (hts _ (tcons _ m28)) (fun _ h9 => h9) rfl dX7_text_59 ?_
    refine va_get (ci := 0) (v := .ref codes) (C := RX0) (T := TX0) (N := 5) hx hb hts (fun w h => tcons w (xin0 w h)) hown hK hP 6 rfl rfl 1 (by decide) (hts _ (tcons _ m496)) (fun _ h9 => h9) rfl dX7_text_62 ?_
    obtain ⟨u4, e4, hF⟩ := bdS hF
    refine xEndV (xRunV (As := [.ref codes]) (rest := []) hZ (c_X1_takeAll G avo avo_q codes codes_q 60 60 avo_m avo_f u2.2.2.2.2.1 u2.2.2.2.2.2 u4 e4 l H.size) m655 m656 m657 m49 m658 1 ⟨rfl, hdX1_takeAll⟩ ⟨Nat.le_of_ble_eq_true rfl, Nat.le_of_ble_eq_true rfl⟩ ⟨rfl, rfl⟩ hP hD hS 4 1 rfl rfl rfl [4, 5, 7, 8] rfl rfl rfl hl.1 rfl (Nat.le_of_ble_eq_true rfl) dX7_text_65 ⟨Nat.zero_le _, Nat.zero_le _⟩) hP hD hS hA [4, 5, 7, 8] rfl rfl rfl (fun H locs hP hD hS => ?_)
    have hP : va_P G.1 vwCl [(t, .inr (7, [.ref st, .ref kp, .int hasI, .int imgs, .ref vs, .ref rd, .ref wk, .ref chr, .ref shs, .ref er])), (st, .inr (3, [.ref kinds, .ref ms, .ref said, .ref signs, .ref tape, .ref avo, .ref tal, .ref wai, .int vow, .int day, .int worth, .int z])), (tape, .inr (1, [.ref tape_q, .int u3])), (tape_q, .inl (xI G, 60, .inl tape_f)), (avo, .inr (1, [.ref avo_q, .int u4.1])), (avo_q, .inl (xI G, 60, .inl u4.2)), (rd, .inr (0, [.ref tape, .ref codes, .ref (xK G u2.2.1), .int u2.2.2.1, .int u2.2.2.2.1])), (codes, .inr (1, [.ref codes_q, .int u2.2.2.2.2.1])), (codes_q, .inl (xI G, 60, .inl u2.2.2.2.2.2))] H := hP
    have hD : va_D A [(t, .inr (7, [.ref st, .ref kp, .int hasI, .int imgs, .ref vs, .ref rd, .ref wk, .ref chr, .ref shs, .ref er])), (st, .inr (3, [.ref kinds, .ref ms, .ref said, .ref signs, .ref tape, .ref avo, .ref tal, .ref wai, .int vow, .int day, .int worth, .int z])), (tape, .inr (1, [.ref tape_q, .int u3])), (tape_q, .inl (xI G, 60, .inl tape_f)), (avo, .inr (1, [.ref avo_q, .int u4.1])), (avo_q, .inl (xI G, 60, .inl u4.2)), (rd, .inr (0, [.ref tape, .ref codes, .ref (xK G u2.2.1), .int u2.2.2.1, .int u2.2.2.2.1])), (codes, .inr (1, [.ref codes_q, .int u2.2.2.2.2.1])), (codes_q, .inl (xI G, 60, .inl u2.2.2.2.2.2))] := hD
    refine lv_iconst (v := 1) hx hb dX7_text_68 (by decide) ?_
    obtain rfl := Option.some.inj hF
    rw [← hQ]
    exact W.iret (v := (1 : Int32)) hx hb hr (fun t ht hW => ⟨⟨_, (), rfl, ⟨rfl, rfl⟩, xLf hP ht⟩, hS.F ht⟩) hS.2.2 dX7_text_69
  · have hF := itN c49 hF
    refine lv_bipush (v := -10) hx hb dX7_text_52 (by decide) ?_
    refine lv_iload_n hx hb dX7_text_54 rfl (lv_at hl 0 rfl) ?_
    refine lv_isub hx hb dX7_text_55 ?_
    obtain rfl := Option.some.inj hF
    rw [← hQ]
    exact W.iret (v := ((-10 : Int32) - u2.1)) hx hb hr (fun t ht hW => ⟨⟨_, (), rfl, ⟨rfl, rfl⟩, xLf hP ht⟩, hS.F ht⟩) hS.2.2 dX7_text_56
def F_X7_untell_0 (avo_m : Int32) : Option (Int32 × Int32) := bd (F_X3_codesOf_0) (fun (u1 : Unit) => bd (F_X1_many avo_m) (fun (u2 : Int32) => if u2 ≤ 0 then (bd (F_X1_clear) (fun (u3 : Int32) => some ((0 : Int32), u3))) else (bd (F_X1_clear) (fun (u3 : Int32) => some ((1 : Int32), u3)))))
theorem hdX7_untell : yX7_untell.cls ≠ "java/lang/invoke/MethodHandle" ∧ yX7_untell.cls ≠ "java/lang/invoke/VarHandle" ∧ (parseMethodDescriptor yX7_untell.desc).map (fun d => d.parameters.length) = some 1 := by decide +kernel
set_option maxHeartbeats 4000000 in
set_option maxRecDepth 100000 in
theorem c_X7_untell_0 (G : xG) (t : Nat) (st : Nat) (kp : Nat) (vs : Nat) (rd : Nat) (wk : Nat) (chr : Nat) (shs : Nat) (er : Nat) (kinds : Nat) (ms : Nat) (said : Nat) (signs : Nat) (tape : Nat) (avo : Nat) (tal : Nat) (wai : Nat) (avo_q : Nat) (hasI : Int32) (imgs : Int32) (vow : Int32) (day : Int32) (worth : Int32) (z : Int32) (avo_m : Int32)  (u : (Int32 × Int32)) (hF : F_X7_untell_0 avo_m = some u) : Ki G .int yX7_untell (Cond.code yX7_untell cX7_untell 4 (some .int) :: TBL) { frames := 1, cells := 0, slots := 0, locals := 21 } [.ref t, .int (0 : Int32)] [(t, .inr (7, [.ref st, .ref kp, .int hasI, .int imgs, .ref vs, .ref rd, .ref wk, .ref chr, .ref shs, .ref er])), (st, .inr (3, [.ref kinds, .ref ms, .ref said, .ref signs, .ref tape, .ref avo, .ref tal, .ref wai, .int vow, .int day, .int worth, .int z])), (avo, .inr (1, [.ref avo_q, .int avo_m]))] [(t, .inr (7, [.ref st, .ref kp, .int hasI, .int imgs, .ref vs, .ref rd, .ref wk, .ref chr, .ref shs, .ref er])), (st, .inr (3, [.ref kinds, .ref ms, .ref said, .ref signs, .ref tape, .ref avo, .ref tal, .ref wai, .int vow, .int day, .int worth, .int z])), (avo, .inr (1, [.ref avo_q, .int u.2]))] u.1 := by
  intro l sz
  refine Met.ofW (cc := cX7_untell) (maxL := 4) (ret := (some .int)) (by decide) rfl ?_
  intro p e s m args below meth c s₁ B hml hv
  obtain ⟨rfl, hsz, hP, hD0, hm⟩ := hv
  have hx := B.exec
  have hb := B.bytes
  have hr := B.returns
  have hts := atoms_spec (ws := Cond.code yX7_untell cX7_untell 4 (some .int) :: TBL) B.pre
  have hown : s.vm.findClass RX7 = some m.cls := findClass_of_methodNamed B.named
  have hlocks := B.notSynchronized
  subst hsz
  have hD := hD0.self (sz := s.heap.size)
  generalize hAe : va_A [(t, .inr (7, [.ref st, .ref kp, .int hasI, .int imgs, .ref vs, .ref rd, .ref wk, .ref chr, .ref shs, .ref er])), (st, .inr (3, [.ref kinds, .ref ms, .ref said, .ref signs, .ref tape, .ref avo, .ref tal, .ref wai, .int vow, .int day, .int worth, .int z])), (avo, .inr (1, [.ref avo_q, .int avo_m]))] s.heap.size = A at hD hm ⊢
  have hA : ∀ q : Nat, s.heap.size ≤ q → A q := fun q h => by rw [← hAe]; exact Or.inr h
  have hK := hm.1
  have hZ : xAnd p m c cX7_untell 4 s _ (Cond.code yX7_untell cX7_untell 4 (some .int) :: TBL) RX7 G A := ⟨⟨hx, hb, hml, hown, hts⟩, tcons, hA, hm⟩
  have hP : va_P G.1 vwCl [(t, .inr (7, [.ref st, .ref kp, .int hasI, .int imgs, .ref vs, .ref rd, .ref wk, .ref chr, .ref shs, .ref er])), (st, .inr (3, [.ref kinds, .ref ms, .ref said, .ref signs, .ref tape, .ref avo, .ref tal, .ref wai, .int vow, .int day, .int worth, .int z])), (avo, .inr (1, [.ref avo_q, .int avo_m]))] s.heap := hP
  have hl := lv_entry ([.ref t, .int (0 : Int32)]) (n := 4) (Nat.le_of_ble_eq_true rfl)
  rw [lg_entry_eq]
  generalize (lg_sl ([.ref t, .int (0 : Int32)]) ++ List.replicate (4 - (lg_sl ([.ref t, .int (0 : Int32)])).length) Slot.unset).toArray = ls at hl ⊢
  have hl : lv_has ls 4 [(0, .ref t), (1, .int (0 : Int32))] := hl
  generalize hQ : MQ below _ _ s _ _ _ = Q
  refine xGo (A := A) hP (fun H locs hP hS => ?_)
  unfold F_X7_untell_0 at hF
  refine lv_aload_n hx hb dX7_untell_0 rfl (lv_at hl 0 rfl) ?_
  refine va_get (ci := 7) (v := .ref st) (C := RX7) (T := TX7) (N := 10) hx hb hts (fun w h => tcons w (xin7 w h)) hown hK hP 0 rfl rfl 0 (by decide) (hts _ (tcons _ m16)) (fun _ h9 => h9) rfl dX7_untell_1 ?_
  refine lv_iload_n hx hb dX7_untell_4 rfl (lv_at hl 1 rfl) ?_
  obtain ⟨u1, e1, hF⟩ := bdS hF
  refine xEndQ (xRunV (As := [.int (0 : Int32)]) (rest := []) hZ (c_X3_codesOf_0 G st kinds ms said signs tape avo tal wai vow day worth z u1 e1 l H.size) m242 m243 m244 m15 m245 1 ⟨rfl, hdX3_codesOf⟩ ⟨Nat.le_of_ble_eq_true rfl, Nat.le_of_ble_eq_true rfl⟩ ⟨rfl, rfl⟩ hP hD hS 1 3 rfl rfl rfl [1] rfl rfl rfl hl.1 rfl (Nat.le_of_ble_eq_true rfl) dX7_untell_5 ⟨Nat.zero_le _, Nat.zero_le _⟩) hP hD hS hA [1] rfl rfl rfl (fun H locs hP hD hS => ?_)
  have hP : va_P G.1 vwCl [(t, .inr (7, [.ref st, .ref kp, .int hasI, .int imgs, .ref vs, .ref rd, .ref wk, .ref chr, .ref shs, .ref er])), (st, .inr (3, [.ref kinds, .ref ms, .ref said, .ref signs, .ref tape, .ref avo, .ref tal, .ref wai, .int vow, .int day, .int worth, .int z])), (avo, .inr (1, [.ref avo_q, .int avo_m]))] H := hP
  have hD : va_D A [(t, .inr (7, [.ref st, .ref kp, .int hasI, .int imgs, .ref vs, .ref rd, .ref wk, .ref chr, .ref shs, .ref er])), (st, .inr (3, [.ref kinds, .ref ms, .ref said, .ref signs, .ref tape, .ref avo, .ref tal, .ref wai, .int vow, .int day, .int worth, .int z])), (avo, .inr (1, [.ref avo_q, .int avo_m]))] := hD
  refine lv_astore_n (lv' := [(2, .ref avo), (0, .ref t), (1, .int (0 : Int32))]) hx hb dX7_untell_8 rfl hl (by decide) rfl (fun ls hl => ?_)
  refine lv_aload_n hx hb dX7_untell_9 rfl (lv_at hl 0 rfl) ?_
  refine lv_ifnonnull (tgt := 19) hx hb dX7_untell_10 (by decide) ?_
  refine lv_aload_n hx hb dX7_untell_19 rfl (lv_at hl 0 rfl) ?_
  obtain ⟨u2, e2, hF⟩ := bdS hF
  refine xEndI (xRunV (As := []) (rest := []) hZ (c_X1_many G avo avo_q avo_m u2 e2 l H.size) m246 m126 m127 m49 m128 0 ⟨rfl, hdX1_many⟩ ⟨Nat.le_of_ble_eq_true rfl, Nat.le_of_ble_eq_true rfl⟩ ⟨rfl, rfl⟩ hP hD hS 2 1 rfl rfl rfl [2] rfl rfl rfl hl.1 rfl (Nat.le_of_ble_eq_true rfl) dX7_untell_20 ⟨Nat.zero_le _, Nat.zero_le _⟩) hP hD hS hA [2] rfl rfl rfl (fun H locs n2 hP hD hS => ?_)
  have hP : va_P G.1 vwCl [(t, .inr (7, [.ref st, .ref kp, .int hasI, .int imgs, .ref vs, .ref rd, .ref wk, .ref chr, .ref shs, .ref er])), (st, .inr (3, [.ref kinds, .ref ms, .ref said, .ref signs, .ref tape, .ref avo, .ref tal, .ref wai, .int vow, .int day, .int worth, .int z])), (avo, .inr (1, [.ref avo_q, .int avo_m]))] H := hP
  have hD : va_D A [(t, .inr (7, [.ref st, .ref kp, .int hasI, .int imgs, .ref vs, .ref rd, .ref wk, .ref chr, .ref shs, .ref er])), (st, .inr (3, [.ref kinds, .ref ms, .ref said, .ref signs, .ref tape, .ref avo, .ref tal, .ref wai, .int vow, .int day, .int worth, .int z])), (avo, .inr (1, [.ref avo_q, .int avo_m]))] := hD
  refine lv_if_le (tgt := 30) hx hb dX7_untell_23 (by decide) (fun c23 => ?_) (fun c23 => ?_)
  · have hF := itP c23 hF
    refine lv_iconst (v := 0) hx hb dX7_untell_30 (by decide) ?_
    refine lv_istore_n (lv' := [(3, .int (0 : Int32)), (2, .ref avo), (0, .ref t), (1, .int (0 : Int32))]) hx hb dX7_untell_31 rfl hl (by decide) rfl (fun ls hl => ?_)
    refine lv_aload_n hx hb dX7_untell_32 rfl (lv_at hl 1 rfl) ?_
    obtain ⟨u3, e3, hF⟩ := bdS hF
    refine xEndV (xRunV (As := []) (rest := []) hZ (c_X1_clear G avo avo_q avo_m u3 e3 l H.size) m654 m252 m253 m49 m254 0 ⟨rfl, hdX1_clear⟩ ⟨Nat.le_of_ble_eq_true rfl, Nat.le_of_ble_eq_true rfl⟩ ⟨rfl, rfl⟩ hP hD hS 2 1 rfl rfl rfl [2] rfl rfl rfl hl.1 rfl (Nat.le_of_ble_eq_true rfl) dX7_untell_33 ⟨Nat.zero_le _, Nat.zero_le _⟩) hP hD hS hA [2] rfl rfl rfl (fun H locs hP hD hS => ?_)
    have hP : va_P G.1 vwCl [(t, .inr (7, [.ref st, .ref kp, .int hasI, .int imgs, .ref vs, .ref rd, .ref wk, .ref chr, .ref shs, .ref er])), (st, .inr (3, [.ref kinds, .ref ms, .ref said, .ref signs, .ref tape, .ref avo, .ref tal, .ref wai, .int vow, .int day, .int worth, .int z])), (avo, .inr (1, [.ref avo_q, .int u3]))] H := hP
    have hD : va_D A [(t, .inr (7, [.ref st, .ref kp, .int hasI, .int imgs, .ref vs, .ref rd, .ref wk, .ref chr, .ref shs, .ref er])), (st, .inr (3, [.ref kinds, .ref ms, .ref said, .ref signs, .ref tape, .ref avo, .ref tal, .ref wai, .int vow, .int day, .int worth, .int z])), (avo, .inr (1, [.ref avo_q, .int u3]))] := hD
    refine lv_iload_n hx hb dX7_untell_36 rfl (lv_at hl 0 rfl) ?_
    obtain rfl := Option.some.inj hF
    rw [← hQ]
    exact W.iret (v := (0 : Int32)) hx hb hr (fun t ht hW => ⟨⟨_, (), rfl, ⟨rfl, rfl⟩, xLf hP ht⟩, hS.F ht⟩) hS.2.2 dX7_untell_37
  · have hF := itN c23 hF
    refine lv_iconst (v := 1) hx hb dX7_untell_26 (by decide) ?_
    refine lv_goto (tgt := 31) hx hb dX7_untell_27 (by decide) ?_
    refine lv_istore_n (lv' := [(3, .int (1 : Int32)), (2, .ref avo), (0, .ref t), (1, .int (0 : Int32))]) hx hb dX7_untell_31 rfl hl (by decide) rfl (fun ls hl => ?_)
    refine lv_aload_n hx hb dX7_untell_32 rfl (lv_at hl 1 rfl) ?_
    obtain ⟨u3, e3, hF⟩ := bdS hF
    refine xEndV (xRunV (As := []) (rest := []) hZ (c_X1_clear G avo avo_q avo_m u3 e3 l H.size) m654 m252 m253 m49 m254 0 ⟨rfl, hdX1_clear⟩ ⟨Nat.le_of_ble_eq_true rfl, Nat.le_of_ble_eq_true rfl⟩ ⟨rfl, rfl⟩ hP hD hS 2 1 rfl rfl rfl [2] rfl rfl rfl hl.1 rfl (Nat.le_of_ble_eq_true rfl) dX7_untell_33 ⟨Nat.zero_le _, Nat.zero_le _⟩) hP hD hS hA [2] rfl rfl rfl (fun H locs hP hD hS => ?_)
    have hP : va_P G.1 vwCl [(t, .inr (7, [.ref st, .ref kp, .int hasI, .int imgs, .ref vs, .ref rd, .ref wk, .ref chr, .ref shs, .ref er])), (st, .inr (3, [.ref kinds, .ref ms, .ref said, .ref signs, .ref tape, .ref avo, .ref tal, .ref wai, .int vow, .int day, .int worth, .int z])), (avo, .inr (1, [.ref avo_q, .int u3]))] H := hP
    have hD : va_D A [(t, .inr (7, [.ref st, .ref kp, .int hasI, .int imgs, .ref vs, .ref rd, .ref wk, .ref chr, .ref shs, .ref er])), (st, .inr (3, [.ref kinds, .ref ms, .ref said, .ref signs, .ref tape, .ref avo, .ref tal, .ref wai, .int vow, .int day, .int worth, .int z])), (avo, .inr (1, [.ref avo_q, .int u3]))] := hD
    refine lv_iload_n hx hb dX7_untell_36 rfl (lv_at hl 0 rfl) ?_
    obtain rfl := Option.some.inj hF
    rw [← hQ]
    exact W.iret (v := (1 : Int32)) hx hb hr (fun t ht hW => ⟨⟨_, (), rfl, ⟨rfl, rfl⟩, xLf hP ht⟩, hS.F ht⟩) hS.2.2 dX7_untell_37
def F_X7_law_0 (avo_m : Int32) (avo_f : Nat → Int32) (stack_m : Int32) (stack_f : Nat → Int32) (ia : Int32) (ib : Int32) (ic : Int32) : Option (Int32 × Int32 × (Nat → Int32)) := bd (F_X3_codesOf_0) (fun (u1 : Unit) => bd (F_X7_given_0 avo_m avo_f stack_m stack_f ia ib ic) (fun (u2 : (Int32 × Int32 × (Nat → Int32))) => some (u2.1, u2.2.1, u2.2.2)))
theorem hdX7_law : yX7_law.cls ≠ "java/lang/invoke/MethodHandle" ∧ yX7_law.cls ≠ "java/lang/invoke/VarHandle" ∧ (parseMethodDescriptor yX7_law.desc).map (fun d => d.parameters.length) = some 4 := by decide +kernel
set_option maxHeartbeats 4000000 in
set_option maxRecDepth 100000 in
theorem c_X7_law_0 (G : xG) (t : Nat) (st : Nat) (kp : Nat) (vs : Nat) (rd : Nat) (wk : Nat) (chr : Nat) (shs : Nat) (er : Nat) (kinds : Nat) (ms : Nat) (said : Nat) (signs : Nat) (tape : Nat) (avo : Nat) (tal : Nat) (wai : Nat) (avo_q : Nat) (stack : Nat) (stack_q : Nat) (hasI : Int32) (imgs : Int32) (vow : Int32) (day : Int32) (worth : Int32) (z : Int32) (avo_m : Int32) (avo_f : Nat → Int32) (stack_m : Int32) (stack_f : Nat → Int32) (ia : Int32) (ib : Int32) (ic : Int32)  (u : (Int32 × Int32 × (Nat → Int32))) (hF : F_X7_law_0 avo_m avo_f stack_m stack_f ia ib ic = some u) : Ki G .int yX7_law (Cond.code yX7_law cX7_law 5 (some .int) :: TBL) { frames := 4, cells := 0, slots := 0, locals := 115 } [.ref t, .int (0 : Int32), .int ia, .int ib, .int ic] [(t, .inr (7, [.ref st, .ref kp, .int hasI, .int imgs, .ref vs, .ref rd, .ref wk, .ref chr, .ref shs, .ref er])), (st, .inr (3, [.ref kinds, .ref ms, .ref said, .ref signs, .ref tape, .ref avo, .ref tal, .ref wai, .int vow, .int day, .int worth, .int z])), (avo, .inr (1, [.ref avo_q, .int avo_m])), (avo_q, .inl (xI G, 60, .inl avo_f)), (wk, .inr (6, [.ref stack])), (stack, .inr (1, [.ref stack_q, .int stack_m])), (stack_q, .inl (xI G, 60, .inl stack_f))] [(t, .inr (7, [.ref st, .ref kp, .int hasI, .int imgs, .ref vs, .ref rd, .ref wk, .ref chr, .ref shs, .ref er])), (st, .inr (3, [.ref kinds, .ref ms, .ref said, .ref signs, .ref tape, .ref avo, .ref tal, .ref wai, .int vow, .int day, .int worth, .int z])), (avo, .inr (1, [.ref avo_q, .int avo_m])), (avo_q, .inl (xI G, 60, .inl avo_f)), (wk, .inr (6, [.ref stack])), (stack, .inr (1, [.ref stack_q, .int u.2.1])), (stack_q, .inl (xI G, 60, .inl u.2.2))] u.1 := by
  intro l sz
  refine Met.ofW (cc := cX7_law) (maxL := 5) (ret := (some .int)) (by decide) rfl ?_
  intro p e s m args below meth c s₁ B hml hv
  obtain ⟨rfl, hsz, hP, hD0, hm⟩ := hv
  have hx := B.exec
  have hb := B.bytes
  have hr := B.returns
  have hts := atoms_spec (ws := Cond.code yX7_law cX7_law 5 (some .int) :: TBL) B.pre
  have hown : s.vm.findClass RX7 = some m.cls := findClass_of_methodNamed B.named
  have hlocks := B.notSynchronized
  subst hsz
  have hD := hD0.self (sz := s.heap.size)
  generalize hAe : va_A [(t, .inr (7, [.ref st, .ref kp, .int hasI, .int imgs, .ref vs, .ref rd, .ref wk, .ref chr, .ref shs, .ref er])), (st, .inr (3, [.ref kinds, .ref ms, .ref said, .ref signs, .ref tape, .ref avo, .ref tal, .ref wai, .int vow, .int day, .int worth, .int z])), (avo, .inr (1, [.ref avo_q, .int avo_m])), (avo_q, .inl (xI G, 60, .inl avo_f)), (wk, .inr (6, [.ref stack])), (stack, .inr (1, [.ref stack_q, .int stack_m])), (stack_q, .inl (xI G, 60, .inl stack_f))] s.heap.size = A at hD hm ⊢
  have hA : ∀ q : Nat, s.heap.size ≤ q → A q := fun q h => by rw [← hAe]; exact Or.inr h
  have hK := hm.1
  have hZ : xAnd p m c cX7_law 5 s _ (Cond.code yX7_law cX7_law 5 (some .int) :: TBL) RX7 G A := ⟨⟨hx, hb, hml, hown, hts⟩, tcons, hA, hm⟩
  have hP : va_P G.1 vwCl [(t, .inr (7, [.ref st, .ref kp, .int hasI, .int imgs, .ref vs, .ref rd, .ref wk, .ref chr, .ref shs, .ref er])), (st, .inr (3, [.ref kinds, .ref ms, .ref said, .ref signs, .ref tape, .ref avo, .ref tal, .ref wai, .int vow, .int day, .int worth, .int z])), (avo, .inr (1, [.ref avo_q, .int avo_m])), (avo_q, .inl (xI G, 60, .inl avo_f)), (wk, .inr (6, [.ref stack])), (stack, .inr (1, [.ref stack_q, .int stack_m])), (stack_q, .inl (xI G, 60, .inl stack_f))] s.heap := hP
  have hl := lv_entry ([.ref t, .int (0 : Int32), .int ia, .int ib, .int ic]) (n := 5) (Nat.le_of_ble_eq_true rfl)
  rw [lg_entry_eq]
  generalize (lg_sl ([.ref t, .int (0 : Int32), .int ia, .int ib, .int ic]) ++ List.replicate (5 - (lg_sl ([.ref t, .int (0 : Int32), .int ia, .int ib, .int ic])).length) Slot.unset).toArray = ls at hl ⊢
  have hl : lv_has ls 5 [(0, .ref t), (1, .int (0 : Int32)), (2, .int ia), (3, .int ib), (4, .int ic)] := hl
  generalize hQ : MQ below _ _ s _ _ _ = Q
  refine xGo (A := A) hP (fun H locs hP hS => ?_)
  unfold F_X7_law_0 at hF
  refine lv_aload_n hx hb dX7_law_0 rfl (lv_at hl 0 rfl) ?_
  refine va_get (ci := 7) (v := .ref st) (C := RX7) (T := TX7) (N := 10) hx hb hts (fun w h => tcons w (xin7 w h)) hown hK hP 0 rfl rfl 0 (by decide) (hts _ (tcons _ m16)) (fun _ h9 => h9) rfl dX7_law_1 ?_
  refine lv_iload_n hx hb dX7_law_4 rfl (lv_at hl 1 rfl) ?_
  obtain ⟨u1, e1, hF⟩ := bdS hF
  refine xEndQ (xRunV (As := [.int (0 : Int32)]) (rest := []) hZ (c_X3_codesOf_0 G st kinds ms said signs tape avo tal wai vow day worth z u1 e1 l H.size) m242 m243 m244 m15 m245 1 ⟨rfl, hdX3_codesOf⟩ ⟨Nat.le_of_ble_eq_true rfl, Nat.le_of_ble_eq_true rfl⟩ ⟨rfl, rfl⟩ hP hD hS 1 3 rfl rfl rfl [1] rfl rfl rfl hl.1 rfl (Nat.le_of_ble_eq_true rfl) dX7_law_5 ⟨Nat.zero_le _, Nat.zero_le _⟩) hP hD hS hA [1] rfl rfl rfl (fun H locs hP hD hS => ?_)
  have hP : va_P G.1 vwCl [(t, .inr (7, [.ref st, .ref kp, .int hasI, .int imgs, .ref vs, .ref rd, .ref wk, .ref chr, .ref shs, .ref er])), (st, .inr (3, [.ref kinds, .ref ms, .ref said, .ref signs, .ref tape, .ref avo, .ref tal, .ref wai, .int vow, .int day, .int worth, .int z])), (avo, .inr (1, [.ref avo_q, .int avo_m])), (avo_q, .inl (xI G, 60, .inl avo_f)), (wk, .inr (6, [.ref stack])), (stack, .inr (1, [.ref stack_q, .int stack_m])), (stack_q, .inl (xI G, 60, .inl stack_f))] H := hP
  have hD : va_D A [(t, .inr (7, [.ref st, .ref kp, .int hasI, .int imgs, .ref vs, .ref rd, .ref wk, .ref chr, .ref shs, .ref er])), (st, .inr (3, [.ref kinds, .ref ms, .ref said, .ref signs, .ref tape, .ref avo, .ref tal, .ref wai, .int vow, .int day, .int worth, .int z])), (avo, .inr (1, [.ref avo_q, .int avo_m])), (avo_q, .inl (xI G, 60, .inl avo_f)), (wk, .inr (6, [.ref stack])), (stack, .inr (1, [.ref stack_q, .int stack_m])), (stack_q, .inl (xI G, 60, .inl stack_f))] := hD
  refine lv_ifnonnull (tgt := 17) hx hb dX7_law_8 (by decide) ?_
  refine lv_aload_n hx hb dX7_law_17 rfl (lv_at hl 0 rfl) ?_
  refine lv_iload_n hx hb dX7_law_18 rfl (lv_at hl 1 rfl) ?_
  refine lv_iload_n hx hb dX7_law_19 rfl (lv_at hl 2 rfl) ?_
  refine lv_iload_n hx hb dX7_law_20 rfl (lv_at hl 3 rfl) ?_
  refine lv_iload hx hb dX7_law_21 (lv_at hl 4 rfl) ?_
  obtain ⟨u2, e2, hF⟩ := bdS hF
  refine xEndI (xRunV (As := [.int (0 : Int32), .int ia, .int ib, .int ic]) (rest := []) hZ (c_X7_given_0 G t st kp vs rd wk chr shs er kinds ms said signs tape avo tal wai avo_q stack stack_q hasI imgs vow day worth z avo_m avo_f stack_m stack_f ia ib ic u2 e2 l H.size) m238 m239 m240 m2 m241 4 ⟨rfl, hdX7_given⟩ ⟨Nat.le_of_ble_eq_true rfl, Nat.le_of_ble_eq_true rfl⟩ ⟨rfl, rfl⟩ hP hD hS 0 7 rfl rfl rfl [0, 1, 2, 3, 4, 5, 6] rfl rfl rfl hl.1 rfl (Nat.le_of_ble_eq_true rfl) dX7_law_23 ⟨Nat.zero_le _, Nat.zero_le _⟩) hP hD hS hA [0, 1, 2, 3, 4, 5, 6] rfl rfl rfl (fun H locs n2 hP hD hS => ?_)
  have hP : va_P G.1 vwCl [(t, .inr (7, [.ref st, .ref kp, .int hasI, .int imgs, .ref vs, .ref rd, .ref wk, .ref chr, .ref shs, .ref er])), (st, .inr (3, [.ref kinds, .ref ms, .ref said, .ref signs, .ref tape, .ref avo, .ref tal, .ref wai, .int vow, .int day, .int worth, .int z])), (avo, .inr (1, [.ref avo_q, .int avo_m])), (avo_q, .inl (xI G, 60, .inl avo_f)), (wk, .inr (6, [.ref stack])), (stack, .inr (1, [.ref stack_q, .int u2.2.1])), (stack_q, .inl (xI G, 60, .inl u2.2.2))] H := hP
  have hD : va_D A [(t, .inr (7, [.ref st, .ref kp, .int hasI, .int imgs, .ref vs, .ref rd, .ref wk, .ref chr, .ref shs, .ref er])), (st, .inr (3, [.ref kinds, .ref ms, .ref said, .ref signs, .ref tape, .ref avo, .ref tal, .ref wai, .int vow, .int day, .int worth, .int z])), (avo, .inr (1, [.ref avo_q, .int avo_m])), (avo_q, .inl (xI G, 60, .inl avo_f)), (wk, .inr (6, [.ref stack])), (stack, .inr (1, [.ref stack_q, .int u2.2.1])), (stack_q, .inl (xI G, 60, .inl u2.2.2))] := hD
  obtain rfl := Option.some.inj hF
  rw [← hQ]
  exact W.iret (v := u2.1) hx hb hr (fun t ht hW => ⟨⟨_, (), rfl, ⟨rfl, rfl⟩, xLf hP ht⟩, hS.F ht⟩) hS.2.2 dX7_law_26
def F_X7_text_1 (tape_m : Int32) (tape_f : Nat → Int32) (tal_m : Int32) (tal_f : Nat → Int32) (codes_f : Nat → Int32) : Option (Int32 × Int32 × Int32 × (Nat → Int32) × Nat × Int32 × Int32 × Int32 × (Nat → Int32)) := bd (F_X3_codesOf_1) (fun (u1 : Unit) => bd (F_X0_faultOf tape_m tape_f codes_f 1) (fun (u2 : (Int32 × Nat × Int32 × Int32 × Int32 × (Nat → Int32))) => bd (F_X1_clear) (fun (u3 : Int32) => if u2.1 < 0 then (bd (F_X1_takeAll 60 60 tal_f u2.2.2.2.2.1 u2.2.2.2.2.2) (fun (u4 : (Int32 × (Nat → Int32))) => some ((1 : Int32), u3, u4.1, u4.2, u2.2.1, u2.2.2.1, u2.2.2.2.1, u2.2.2.2.2.1, u2.2.2.2.2.2))) else (some (((-10 : Int32) - u2.1), u3, tal_m, tal_f, u2.2.1, u2.2.2.1, u2.2.2.2.1, u2.2.2.2.2.1, u2.2.2.2.2.2)))))
set_option maxHeartbeats 4000000 in
set_option maxRecDepth 100000 in
theorem c_X7_text_1 (G : xG) (t : Nat) (st : Nat) (kp : Nat) (vs : Nat) (rd : Nat) (wk : Nat) (chr : Nat) (shs : Nat) (er : Nat) (kinds : Nat) (ms : Nat) (said : Nat) (signs : Nat) (tape : Nat) (avo : Nat) (tal : Nat) (wai : Nat) (tape_q : Nat) (tal_q : Nat) (codes : Nat) (codes_q : Nat) (hasI : Int32) (imgs : Int32) (vow : Int32) (day : Int32) (worth : Int32) (z : Int32) (tape_m : Int32) (tape_f : Nat → Int32) (tal_m : Int32) (tal_f : Nat → Int32) (kk : Nat) (rat : Int32) (flt : Int32) (codes_m : Int32) (codes_f : Nat → Int32)  (u : (Int32 × Int32 × Int32 × (Nat → Int32) × Nat × Int32 × Int32 × Int32 × (Nat → Int32))) (hF : F_X7_text_1 tape_m tape_f tal_m tal_f codes_f = some u) : Ki G .int yX7_text (Cond.code yX7_text cX7_text 4 (some .int) :: TBL) { frames := 91, cells := 0, slots := 0, locals := 1992 } [.ref t, .int (1 : Int32)] [(t, .inr (7, [.ref st, .ref kp, .int hasI, .int imgs, .ref vs, .ref rd, .ref wk, .ref chr, .ref shs, .ref er])), (st, .inr (3, [.ref kinds, .ref ms, .ref said, .ref signs, .ref tape, .ref avo, .ref tal, .ref wai, .int vow, .int day, .int worth, .int z])), (tape, .inr (1, [.ref tape_q, .int tape_m])), (tape_q, .inl (xI G, 60, .inl tape_f)), (tal, .inr (1, [.ref tal_q, .int tal_m])), (tal_q, .inl (xI G, 60, .inl tal_f)), (rd, .inr (0, [.ref tape, .ref codes, .ref (xK G kk), .int rat, .int flt])), (codes, .inr (1, [.ref codes_q, .int codes_m])), (codes_q, .inl (xI G, 60, .inl codes_f))] [(t, .inr (7, [.ref st, .ref kp, .int hasI, .int imgs, .ref vs, .ref rd, .ref wk, .ref chr, .ref shs, .ref er])), (st, .inr (3, [.ref kinds, .ref ms, .ref said, .ref signs, .ref tape, .ref avo, .ref tal, .ref wai, .int vow, .int day, .int worth, .int z])), (tape, .inr (1, [.ref tape_q, .int u.2.1])), (tape_q, .inl (xI G, 60, .inl tape_f)), (tal, .inr (1, [.ref tal_q, .int u.2.2.1])), (tal_q, .inl (xI G, 60, .inl u.2.2.2.1)), (rd, .inr (0, [.ref tape, .ref codes, .ref (xK G u.2.2.2.2.1), .int u.2.2.2.2.2.1, .int u.2.2.2.2.2.2.1])), (codes, .inr (1, [.ref codes_q, .int u.2.2.2.2.2.2.2.1])), (codes_q, .inl (xI G, 60, .inl u.2.2.2.2.2.2.2.2))] u.1 := by
  intro l sz
  refine Met.ofW (cc := cX7_text) (maxL := 4) (ret := (some .int)) (by decide) rfl ?_
  intro p e s m args below meth c s₁ B hml hv
  obtain ⟨rfl, hsz, hP, hD0, hm⟩ := hv
  have hx := B.exec
  have hb := B.bytes
  have hr := B.returns
  have hts := atoms_spec (ws := Cond.code yX7_text cX7_text 4 (some .int) :: TBL) B.pre
  have hown : s.vm.findClass RX7 = some m.cls := findClass_of_methodNamed B.named
  have hlocks := B.notSynchronized
  subst hsz
  have hD := hD0.self (sz := s.heap.size)
  generalize hAe : va_A [(t, .inr (7, [.ref st, .ref kp, .int hasI, .int imgs, .ref vs, .ref rd, .ref wk, .ref chr, .ref shs, .ref er])), (st, .inr (3, [.ref kinds, .ref ms, .ref said, .ref signs, .ref tape, .ref avo, .ref tal, .ref wai, .int vow, .int day, .int worth, .int z])), (tape, .inr (1, [.ref tape_q, .int tape_m])), (tape_q, .inl (xI G, 60, .inl tape_f)), (tal, .inr (1, [.ref tal_q, .int tal_m])), (tal_q, .inl (xI G, 60, .inl tal_f)), (rd, .inr (0, [.ref tape, .ref codes, .ref (xK G kk), .int rat, .int flt])), (codes, .inr (1, [.ref codes_q, .int codes_m])), (codes_q, .inl (xI G, 60, .inl codes_f))] s.heap.size = A at hD hm ⊢
  have hA : ∀ q : Nat, s.heap.size ≤ q → A q := fun q h => by rw [← hAe]; exact Or.inr h
  have hK := hm.1
  have hZ : xAnd p m c cX7_text 4 s _ (Cond.code yX7_text cX7_text 4 (some .int) :: TBL) RX7 G A := ⟨⟨hx, hb, hml, hown, hts⟩, tcons, hA, hm⟩
  have hP : va_P G.1 vwCl [(t, .inr (7, [.ref st, .ref kp, .int hasI, .int imgs, .ref vs, .ref rd, .ref wk, .ref chr, .ref shs, .ref er])), (st, .inr (3, [.ref kinds, .ref ms, .ref said, .ref signs, .ref tape, .ref avo, .ref tal, .ref wai, .int vow, .int day, .int worth, .int z])), (tape, .inr (1, [.ref tape_q, .int tape_m])), (tape_q, .inl (xI G, 60, .inl tape_f)), (tal, .inr (1, [.ref tal_q, .int tal_m])), (tal_q, .inl (xI G, 60, .inl tal_f)), (rd, .inr (0, [.ref tape, .ref codes, .ref (xK G kk), .int rat, .int flt])), (codes, .inr (1, [.ref codes_q, .int codes_m])), (codes_q, .inl (xI G, 60, .inl codes_f))] s.heap := hP
  have hl := lv_entry ([.ref t, .int (1 : Int32)]) (n := 4) (Nat.le_of_ble_eq_true rfl)
  rw [lg_entry_eq]
  generalize (lg_sl ([.ref t, .int (1 : Int32)]) ++ List.replicate (4 - (lg_sl ([.ref t, .int (1 : Int32)])).length) Slot.unset).toArray = ls at hl ⊢
  have hl : lv_has ls 4 [(0, .ref t), (1, .int (1 : Int32))] := hl
  generalize hQ : MQ below _ _ s _ _ _ = Q
  refine xGo (A := A) hP (fun H locs hP hS => ?_)
  unfold F_X7_text_1 at hF
  refine lv_aload_n hx hb dX7_text_0 rfl (lv_at hl 0 rfl) ?_
  refine va_get (ci := 7) (v := .ref st) (C := RX7) (T := TX7) (N := 10) hx hb hts (fun w h => tcons w (xin7 w h)) hown hK hP 0 rfl rfl 0 (by decide) (hts _ (tcons _ m16)) (fun _ h9 => h9) rfl dX7_text_1 ?_
  refine lv_iload_n hx hb dX7_text_4 rfl (lv_at hl 1 rfl) ?_
  obtain ⟨u1, e1, hF⟩ := bdS hF
  refine xEndQ (xRunV (As := [.int (1 : Int32)]) (rest := []) hZ (c_X3_codesOf_1 G st kinds ms said signs tape avo tal wai vow day worth z u1 e1 l H.size) m242 m243 m244 m15 m245 1 ⟨rfl, hdX3_codesOf⟩ ⟨Nat.le_of_ble_eq_true rfl, Nat.le_of_ble_eq_true rfl⟩ ⟨rfl, rfl⟩ hP hD hS 1 3 rfl rfl rfl [1] rfl rfl rfl hl.1 rfl (Nat.le_of_ble_eq_true rfl) dX7_text_5 ⟨Nat.zero_le _, Nat.zero_le _⟩) hP hD hS hA [1] rfl rfl rfl (fun H locs hP hD hS => ?_)
  have hP : va_P G.1 vwCl [(t, .inr (7, [.ref st, .ref kp, .int hasI, .int imgs, .ref vs, .ref rd, .ref wk, .ref chr, .ref shs, .ref er])), (st, .inr (3, [.ref kinds, .ref ms, .ref said, .ref signs, .ref tape, .ref avo, .ref tal, .ref wai, .int vow, .int day, .int worth, .int z])), (tape, .inr (1, [.ref tape_q, .int tape_m])), (tape_q, .inl (xI G, 60, .inl tape_f)), (tal, .inr (1, [.ref tal_q, .int tal_m])), (tal_q, .inl (xI G, 60, .inl tal_f)), (rd, .inr (0, [.ref tape, .ref codes, .ref (xK G kk), .int rat, .int flt])), (codes, .inr (1, [.ref codes_q, .int codes_m])), (codes_q, .inl (xI G, 60, .inl codes_f))] H := hP
  have hD : va_D A [(t, .inr (7, [.ref st, .ref kp, .int hasI, .int imgs, .ref vs, .ref rd, .ref wk, .ref chr, .ref shs, .ref er])), (st, .inr (3, [.ref kinds, .ref ms, .ref said, .ref signs, .ref tape, .ref avo, .ref tal, .ref wai, .int vow, .int day, .int worth, .int z])), (tape, .inr (1, [.ref tape_q, .int tape_m])), (tape_q, .inl (xI G, 60, .inl tape_f)), (tal, .inr (1, [.ref tal_q, .int tal_m])), (tal_q, .inl (xI G, 60, .inl tal_f)), (rd, .inr (0, [.ref tape, .ref codes, .ref (xK G kk), .int rat, .int flt])), (codes, .inr (1, [.ref codes_q, .int codes_m])), (codes_q, .inl (xI G, 60, .inl codes_f))] := hD
  refine lv_astore_n (lv' := [(2, .ref tal), (0, .ref t), (1, .int (1 : Int32))]) hx hb dX7_text_8 rfl hl (by decide) rfl (fun ls hl => ?_)
  refine lv_aload_n hx hb dX7_text_9 rfl (lv_at hl 0 rfl) ?_
  refine lv_ifnonnull (tgt := 19) hx hb dX7_text_10 (by decide) ?_
  refine lv_aload_n hx hb dX7_text_19 rfl (lv_at hl 1 rfl) ?_
  refine va_get (ci := 7) (v := .ref rd) (C := RX7) (T := TX7) (N := 10) hx hb hts (fun w h => tcons w (xin7 w h)) hown hK hP 0 rfl rfl 5 (by decide) (hts _ (tcons _ m28)) (fun _ h9 => h9) rfl dX7_text_20 ?_
  refine lv_iload_n hx hb dX7_text_23 rfl (lv_at hl 2 rfl) ?_
  refine lv_if_ne (tgt := 32) hx hb dX7_text_24 (by decide) (fun c24 => ?_) (fun c24 => absurd c24 (by decide))
  refine va_ldcS hx hb hown hm.2.2.1.2.1 dX7_text_32 ?_
  obtain ⟨u2, e2, hF⟩ := bdS hF
  refine xEndI (xRunV (As := [.ref (xK G 1)]) (rest := []) hZ (c_X0_faultOf G rd tape codes tape_q codes_q kk rat flt tape_m tape_f codes_m codes_f 1 (by decide) u2 e2 l H.size) m497 m498 m499 m26 m500 1 ⟨rfl, hdX0_faultOf⟩ ⟨Nat.le_of_ble_eq_true rfl, Nat.le_of_ble_eq_true rfl⟩ ⟨rfl, rfl⟩ hP hD hS 6 0 rfl rfl rfl [6, 2, 3, 7, 8] rfl rfl rfl hl.1 rfl (Nat.le_of_ble_eq_true rfl) dX7_text_34 ⟨Nat.zero_le _, Nat.zero_le _⟩) hP hD hS hA [6, 2, 3, 7, 8] rfl rfl rfl (fun H locs n2 hP hD hS => ?_)
  have hP : va_P G.1 vwCl [(t, .inr (7, [.ref st, .ref kp, .int hasI, .int imgs, .ref vs, .ref rd, .ref wk, .ref chr, .ref shs, .ref er])), (st, .inr (3, [.ref kinds, .ref ms, .ref said, .ref signs, .ref tape, .ref avo, .ref tal, .ref wai, .int vow, .int day, .int worth, .int z])), (tape, .inr (1, [.ref tape_q, .int tape_m])), (tape_q, .inl (xI G, 60, .inl tape_f)), (tal, .inr (1, [.ref tal_q, .int tal_m])), (tal_q, .inl (xI G, 60, .inl tal_f)), (rd, .inr (0, [.ref tape, .ref codes, .ref (xK G u2.2.1), .int u2.2.2.1, .int u2.2.2.2.1])), (codes, .inr (1, [.ref codes_q, .int u2.2.2.2.2.1])), (codes_q, .inl (xI G, 60, .inl u2.2.2.2.2.2))] H := hP
  have hD : va_D A [(t, .inr (7, [.ref st, .ref kp, .int hasI, .int imgs, .ref vs, .ref rd, .ref wk, .ref chr, .ref shs, .ref er])), (st, .inr (3, [.ref kinds, .ref ms, .ref said, .ref signs, .ref tape, .ref avo, .ref tal, .ref wai, .int vow, .int day, .int worth, .int z])), (tape, .inr (1, [.ref tape_q, .int tape_m])), (tape_q, .inl (xI G, 60, .inl tape_f)), (tal, .inr (1, [.ref tal_q, .int tal_m])), (tal_q, .inl (xI G, 60, .inl tal_f)), (rd, .inr (0, [.ref tape, .ref codes, .ref (xK G u2.2.1), .int u2.2.2.1, .int u2.2.2.2.1])), (codes, .inr (1, [.ref codes_q, .int u2.2.2.2.2.1])), (codes_q, .inl (xI G, 60, .inl u2.2.2.2.2.2))] := hD
  refine lv_istore_n (lv' := [(3, .int u2.1), (2, .ref tal), (0, .ref t), (1, .int (1 : Int32))]) hx hb dX7_text_37 rfl hl (by decide) rfl (fun ls hl => ?_)
  refine lv_aload_n hx hb dX7_text_38 rfl (lv_at hl 2 rfl) ?_
  refine va_get (ci := 7) (v := .ref st) (C := RX7) (T := TX7) (N := 10) hx hb hts (fun w h => tcons w (xin7 w h)) hown hK hP 0 rfl rfl 0 (by decide) (hts _ (tcons _ m16)) (fun _ h9 => h9) rfl dX7_text_39 ?_
  refine va_get (ci := 3) (v := .ref tape) (C := RX3) (T := TX3) (N := 12) hx hb hts (fun w h => tcons w (xin3 w h)) hown hK hP 1 rfl rfl 4 (by decide) (hts _ (tcons _ m27)) (fun _ h9 => h9) rfl dX7_text_42 ?_
  obtain ⟨u3, e3, hF⟩ := bdS hF
  refine xEndV (xRunV (As := []) (rest := []) hZ (c_X1_clear G tape tape_q tape_m u3 e3 l H.size) m654 m252 m253 m49 m254 0 ⟨rfl, hdX1_clear⟩ ⟨Nat.le_of_ble_eq_true rfl, Nat.le_of_ble_eq_true rfl⟩ ⟨rfl, rfl⟩ hP hD hS 2 1 rfl rfl rfl [2] rfl rfl rfl hl.1 rfl (Nat.le_of_ble_eq_true rfl) dX7_text_45 ⟨Nat.zero_le _, Nat.zero_le _⟩) hP hD hS hA [2] rfl rfl rfl (fun H locs hP hD hS => ?_)
  have hP : va_P G.1 vwCl [(t, .inr (7, [.ref st, .ref kp, .int hasI, .int imgs, .ref vs, .ref rd, .ref wk, .ref chr, .ref shs, .ref er])), (st, .inr (3, [.ref kinds, .ref ms, .ref said, .ref signs, .ref tape, .ref avo, .ref tal, .ref wai, .int vow, .int day, .int worth, .int z])), (tape, .inr (1, [.ref tape_q, .int u3])), (tape_q, .inl (xI G, 60, .inl tape_f)), (tal, .inr (1, [.ref tal_q, .int tal_m])), (tal_q, .inl (xI G, 60, .inl tal_f)), (rd, .inr (0, [.ref tape, .ref codes, .ref (xK G u2.2.1), .int u2.2.2.1, .int u2.2.2.2.1])), (codes, .inr (1, [.ref codes_q, .int u2.2.2.2.2.1])), (codes_q, .inl (xI G, 60, .inl u2.2.2.2.2.2))] H := hP
  have hD : va_D A [(t, .inr (7, [.ref st, .ref kp, .int hasI, .int imgs, .ref vs, .ref rd, .ref wk, .ref chr, .ref shs, .ref er])), (st, .inr (3, [.ref kinds, .ref ms, .ref said, .ref signs, .ref tape, .ref avo, .ref tal, .ref wai, .int vow, .int day, .int worth, .int z])), (tape, .inr (1, [.ref tape_q, .int u3])), (tape_q, .inl (xI G, 60, .inl tape_f)), (tal, .inr (1, [.ref tal_q, .int tal_m])), (tal_q, .inl (xI G, 60, .inl tal_f)), (rd, .inr (0, [.ref tape, .ref codes, .ref (xK G u2.2.1), .int u2.2.2.1, .int u2.2.2.2.1])), (codes, .inr (1, [.ref codes_q, .int u2.2.2.2.2.1])), (codes_q, .inl (xI G, 60, .inl u2.2.2.2.2.2))] := hD
  refine lv_iload_n hx hb dX7_text_48 rfl (lv_at hl 0 rfl) ?_
  refine lv_if_lt (tgt := 57) hx hb dX7_text_49 (by decide) (fun c49 => ?_) (fun c49 => ?_)
  · have hF := itP c49 hF
    refine lv_aload_n hx hb dX7_text_57 rfl (lv_at hl 1 rfl) ?_
    refine lv_aload_n hx hb dX7_text_58 rfl (lv_at hl 2 rfl) ?_
    refine va_get (ci := 7) (v := .ref rd) (C := RX7) (T := TX7) (N := 10) hx hb hts (fun w h => tcons w (xin7 w h)) hown hK hP 0 rfl rfl 5 (by decide) (hts _ (tcons _ m28)) (fun _ h9 => h9) rfl dX7_text_59 ?_
    refine va_get (ci := 0) (v := .ref codes) (C := RX0) (T := TX0) (N := 5) hx hb hts (fun w h => tcons w (xin0 w h)) hown hK hP 6 rfl rfl 1 (by decide) (hts _ (tcons _ m496)) (fun _ h9 => h9) rfl dX7_text_62 ?_
    obtain ⟨u4, e4, hF⟩ := bdS hF
    refine xEndV (xRunV (As := [.ref codes]) (rest := []) hZ (c_X1_takeAll G tal tal_q codes codes_q 60 60 tal_m tal_f u2.2.2.2.2.1 u2.2.2.2.2.2 u4 e4 l H.size) m655 m656 m657 m49 m658 1 ⟨rfl, hdX1_takeAll⟩ ⟨Nat.le_of_ble_eq_true rfl, Nat.le_of_ble_eq_true rfl⟩ ⟨rfl, rfl⟩ hP hD hS 4 1 rfl rfl rfl [4, 5, 7, 8] rfl rfl rfl hl.1 rfl (Nat.le_of_ble_eq_true rfl) dX7_text_65 ⟨Nat.zero_le _, Nat.zero_le _⟩) hP hD hS hA [4, 5, 7, 8] rfl rfl rfl (fun H locs hP hD hS => ?_)
    have hP : va_P G.1 vwCl [(t, .inr (7, [.ref st, .ref kp, .int hasI, .int imgs, .ref vs, .ref rd, .ref wk, .ref chr, .ref shs, .ref er])), (st, .inr (3, [.ref kinds, .ref ms, .ref said, .ref signs, .ref tape, .ref avo, .ref tal, .ref wai, .int vow, .int day, .int worth, .int z])), (tape, .inr (1, [.ref tape_q, .int u3])), (tape_q, .inl (xI G, 60, .inl tape_f)), (tal, .inr (1, [.ref tal_q, .int u4.1])), (tal_q, .inl (xI G, 60, .inl u4.2)), (rd, .inr (0, [.ref tape, .ref codes, .ref (xK G u2.2.1), .int u2.2.2.1, .int u2.2.2.2.1])), (codes, .inr (1, [.ref codes_q, .int u2.2.2.2.2.1])), (codes_q, .inl (xI G, 60, .inl u2.2.2.2.2.2))] H := hP
    have hD : va_D A [(t, .inr (7, [.ref st, .ref kp, .int hasI, .int imgs, .ref vs, .ref rd, .ref wk, .ref chr, .ref shs, .ref er])), (st, .inr (3, [.ref kinds, .ref ms, .ref said, .ref signs, .ref tape, .ref avo, .ref tal, .ref wai, .int vow, .int day, .int worth, .int z])), (tape, .inr (1, [.ref tape_q, .int u3])), (tape_q, .inl (xI G, 60, .inl tape_f)), (tal, .inr (1, [.ref tal_q, .int u4.1])), (tal_q, .inl (xI G, 60, .inl u4.2)), (rd, .inr (0, [.ref tape, .ref codes, .ref (xK G u2.2.1), .int u2.2.2.1, .int u2.2.2.2.1])), (codes, .inr (1, [.ref codes_q, .int u2.2.2.2.2.1])), (codes_q, .inl (xI G, 60, .inl u2.2.2.2.2.2))] := hD
    refine lv_iconst (v := 1) hx hb dX7_text_68 (by decide) ?_
    obtain rfl := Option.some.inj hF
    rw [← hQ]
    exact W.iret (v := (1 : Int32)) hx hb hr (fun t ht hW => ⟨⟨_, (), rfl, ⟨rfl, rfl⟩, xLf hP ht⟩, hS.F ht⟩) hS.2.2 dX7_text_69
  · have hF := itN c49 hF
    refine lv_bipush (v := -10) hx hb dX7_text_52 (by decide) ?_
    refine lv_iload_n hx hb dX7_text_54 rfl (lv_at hl 0 rfl) ?_
    refine lv_isub hx hb dX7_text_55 ?_
    obtain rfl := Option.some.inj hF
    rw [← hQ]
    exact W.iret (v := ((-10 : Int32) - u2.1)) hx hb hr (fun t ht hW => ⟨⟨_, (), rfl, ⟨rfl, rfl⟩, xLf hP ht⟩, hS.F ht⟩) hS.2.2 dX7_text_56
def F_X7_untell_1 (tal_m : Int32) : Option (Int32 × Int32) := bd (F_X3_codesOf_1) (fun (u1 : Unit) => bd (F_X1_many tal_m) (fun (u2 : Int32) => if u2 ≤ 0 then (bd (F_X1_clear) (fun (u3 : Int32) => some ((0 : Int32), u3))) else (bd (F_X1_clear) (fun (u3 : Int32) => some ((1 : Int32), u3)))))
set_option maxHeartbeats 4000000 in
set_option maxRecDepth 100000 in
theorem c_X7_untell_1 (G : xG) (t : Nat) (st : Nat) (kp : Nat) (vs : Nat) (rd : Nat) (wk : Nat) (chr : Nat) (shs : Nat) (er : Nat) (kinds : Nat) (ms : Nat) (said : Nat) (signs : Nat) (tape : Nat) (avo : Nat) (tal : Nat) (wai : Nat) (tal_q : Nat) (hasI : Int32) (imgs : Int32) (vow : Int32) (day : Int32) (worth : Int32) (z : Int32) (tal_m : Int32)  (u : (Int32 × Int32)) (hF : F_X7_untell_1 tal_m = some u) : Ki G .int yX7_untell (Cond.code yX7_untell cX7_untell 4 (some .int) :: TBL) { frames := 1, cells := 0, slots := 0, locals := 21 } [.ref t, .int (1 : Int32)] [(t, .inr (7, [.ref st, .ref kp, .int hasI, .int imgs, .ref vs, .ref rd, .ref wk, .ref chr, .ref shs, .ref er])), (st, .inr (3, [.ref kinds, .ref ms, .ref said, .ref signs, .ref tape, .ref avo, .ref tal, .ref wai, .int vow, .int day, .int worth, .int z])), (tal, .inr (1, [.ref tal_q, .int tal_m]))] [(t, .inr (7, [.ref st, .ref kp, .int hasI, .int imgs, .ref vs, .ref rd, .ref wk, .ref chr, .ref shs, .ref er])), (st, .inr (3, [.ref kinds, .ref ms, .ref said, .ref signs, .ref tape, .ref avo, .ref tal, .ref wai, .int vow, .int day, .int worth, .int z])), (tal, .inr (1, [.ref tal_q, .int u.2]))] u.1 := by
  intro l sz
  refine Met.ofW (cc := cX7_untell) (maxL := 4) (ret := (some .int)) (by decide) rfl ?_
  intro p e s m args below meth c s₁ B hml hv
  obtain ⟨rfl, hsz, hP, hD0, hm⟩ := hv
  have hx := B.exec
  have hb := B.bytes
  have hr := B.returns
  have hts := atoms_spec (ws := Cond.code yX7_untell cX7_untell 4 (some .int) :: TBL) B.pre
  have hown : s.vm.findClass RX7 = some m.cls := findClass_of_methodNamed B.named
  have hlocks := B.notSynchronized
  subst hsz
  have hD := hD0.self (sz := s.heap.size)
  generalize hAe : va_A [(t, .inr (7, [.ref st, .ref kp, .int hasI, .int imgs, .ref vs, .ref rd, .ref wk, .ref chr, .ref shs, .ref er])), (st, .inr (3, [.ref kinds, .ref ms, .ref said, .ref signs, .ref tape, .ref avo, .ref tal, .ref wai, .int vow, .int day, .int worth, .int z])), (tal, .inr (1, [.ref tal_q, .int tal_m]))] s.heap.size = A at hD hm ⊢
  have hA : ∀ q : Nat, s.heap.size ≤ q → A q := fun q h => by rw [← hAe]; exact Or.inr h
  have hK := hm.1
  have hZ : xAnd p m c cX7_untell 4 s _ (Cond.code yX7_untell cX7_untell 4 (some .int) :: TBL) RX7 G A := ⟨⟨hx, hb, hml, hown, hts⟩, tcons, hA, hm⟩
  have hP : va_P G.1 vwCl [(t, .inr (7, [.ref st, .ref kp, .int hasI, .int imgs, .ref vs, .ref rd, .ref wk, .ref chr, .ref shs, .ref er])), (st, .inr (3, [.ref kinds, .ref ms, .ref said, .ref signs, .ref tape, .ref avo, .ref tal, .ref wai, .int vow, .int day, .int worth, .int z])), (tal, .inr (1, [.ref tal_q, .int tal_m]))] s.heap := hP
  have hl := lv_entry ([.ref t, .int (1 : Int32)]) (n := 4) (Nat.le_of_ble_eq_true rfl)
  rw [lg_entry_eq]
  generalize (lg_sl ([.ref t, .int (1 : Int32)]) ++ List.replicate (4 - (lg_sl ([.ref t, .int (1 : Int32)])).length) Slot.unset).toArray = ls at hl ⊢
  have hl : lv_has ls 4 [(0, .ref t), (1, .int (1 : Int32))] := hl
  generalize hQ : MQ below _ _ s _ _ _ = Q
  refine xGo (A := A) hP (fun H locs hP hS => ?_)
  unfold F_X7_untell_1 at hF
  refine lv_aload_n hx hb dX7_untell_0 rfl (lv_at hl 0 rfl) ?_
  refine va_get (ci := 7) (v := .ref st) (C := RX7) (T := TX7) (N := 10) hx hb hts (fun w h => tcons w (xin7 w h)) hown hK hP 0 rfl rfl 0 (by decide) (hts _ (tcons _ m16)) (fun _ h9 => h9) rfl dX7_untell_1 ?_
  refine lv_iload_n hx hb dX7_untell_4 rfl (lv_at hl 1 rfl) ?_
  obtain ⟨u1, e1, hF⟩ := bdS hF
  refine xEndQ (xRunV (As := [.int (1 : Int32)]) (rest := []) hZ (c_X3_codesOf_1 G st kinds ms said signs tape avo tal wai vow day worth z u1 e1 l H.size) m242 m243 m244 m15 m245 1 ⟨rfl, hdX3_codesOf⟩ ⟨Nat.le_of_ble_eq_true rfl, Nat.le_of_ble_eq_true rfl⟩ ⟨rfl, rfl⟩ hP hD hS 1 3 rfl rfl rfl [1] rfl rfl rfl hl.1 rfl (Nat.le_of_ble_eq_true rfl) dX7_untell_5 ⟨Nat.zero_le _, Nat.zero_le _⟩) hP hD hS hA [1] rfl rfl rfl (fun H locs hP hD hS => ?_)
  have hP : va_P G.1 vwCl [(t, .inr (7, [.ref st, .ref kp, .int hasI, .int imgs, .ref vs, .ref rd, .ref wk, .ref chr, .ref shs, .ref er])), (st, .inr (3, [.ref kinds, .ref ms, .ref said, .ref signs, .ref tape, .ref avo, .ref tal, .ref wai, .int vow, .int day, .int worth, .int z])), (tal, .inr (1, [.ref tal_q, .int tal_m]))] H := hP
  have hD : va_D A [(t, .inr (7, [.ref st, .ref kp, .int hasI, .int imgs, .ref vs, .ref rd, .ref wk, .ref chr, .ref shs, .ref er])), (st, .inr (3, [.ref kinds, .ref ms, .ref said, .ref signs, .ref tape, .ref avo, .ref tal, .ref wai, .int vow, .int day, .int worth, .int z])), (tal, .inr (1, [.ref tal_q, .int tal_m]))] := hD
  refine lv_astore_n (lv' := [(2, .ref tal), (0, .ref t), (1, .int (1 : Int32))]) hx hb dX7_untell_8 rfl hl (by decide) rfl (fun ls hl => ?_)
  refine lv_aload_n hx hb dX7_untell_9 rfl (lv_at hl 0 rfl) ?_
  refine lv_ifnonnull (tgt := 19) hx hb dX7_untell_10 (by decide) ?_
  refine lv_aload_n hx hb dX7_untell_19 rfl (lv_at hl 0 rfl) ?_
  obtain ⟨u2, e2, hF⟩ := bdS hF
  refine xEndI (xRunV (As := []) (rest := []) hZ (c_X1_many G tal tal_q tal_m u2 e2 l H.size) m246 m126 m127 m49 m128 0 ⟨rfl, hdX1_many⟩ ⟨Nat.le_of_ble_eq_true rfl, Nat.le_of_ble_eq_true rfl⟩ ⟨rfl, rfl⟩ hP hD hS 2 1 rfl rfl rfl [2] rfl rfl rfl hl.1 rfl (Nat.le_of_ble_eq_true rfl) dX7_untell_20 ⟨Nat.zero_le _, Nat.zero_le _⟩) hP hD hS hA [2] rfl rfl rfl (fun H locs n2 hP hD hS => ?_)
  have hP : va_P G.1 vwCl [(t, .inr (7, [.ref st, .ref kp, .int hasI, .int imgs, .ref vs, .ref rd, .ref wk, .ref chr, .ref shs, .ref er])), (st, .inr (3, [.ref kinds, .ref ms, .ref said, .ref signs, .ref tape, .ref avo, .ref tal, .ref wai, .int vow, .int day, .int worth, .int z])), (tal, .inr (1, [.ref tal_q, .int tal_m]))] H := hP
  have hD : va_D A [(t, .inr (7, [.ref st, .ref kp, .int hasI, .int imgs, .ref vs, .ref rd, .ref wk, .ref chr, .ref shs, .ref er])), (st, .inr (3, [.ref kinds, .ref ms, .ref said, .ref signs, .ref tape, .ref avo, .ref tal, .ref wai, .int vow, .int day, .int worth, .int z])), (tal, .inr (1, [.ref tal_q, .int tal_m]))] := hD
  refine lv_if_le (tgt := 30) hx hb dX7_untell_23 (by decide) (fun c23 => ?_) (fun c23 => ?_)
  · have hF := itP c23 hF
    refine lv_iconst (v := 0) hx hb dX7_untell_30 (by decide) ?_
    refine lv_istore_n (lv' := [(3, .int (0 : Int32)), (2, .ref tal), (0, .ref t), (1, .int (1 : Int32))]) hx hb dX7_untell_31 rfl hl (by decide) rfl (fun ls hl => ?_)
    refine lv_aload_n hx hb dX7_untell_32 rfl (lv_at hl 1 rfl) ?_
    obtain ⟨u3, e3, hF⟩ := bdS hF
    refine xEndV (xRunV (As := []) (rest := []) hZ (c_X1_clear G tal tal_q tal_m u3 e3 l H.size) m654 m252 m253 m49 m254 0 ⟨rfl, hdX1_clear⟩ ⟨Nat.le_of_ble_eq_true rfl, Nat.le_of_ble_eq_true rfl⟩ ⟨rfl, rfl⟩ hP hD hS 2 1 rfl rfl rfl [2] rfl rfl rfl hl.1 rfl (Nat.le_of_ble_eq_true rfl) dX7_untell_33 ⟨Nat.zero_le _, Nat.zero_le _⟩) hP hD hS hA [2] rfl rfl rfl (fun H locs hP hD hS => ?_)
    have hP : va_P G.1 vwCl [(t, .inr (7, [.ref st, .ref kp, .int hasI, .int imgs, .ref vs, .ref rd, .ref wk, .ref chr, .ref shs, .ref er])), (st, .inr (3, [.ref kinds, .ref ms, .ref said, .ref signs, .ref tape, .ref avo, .ref tal, .ref wai, .int vow, .int day, .int worth, .int z])), (tal, .inr (1, [.ref tal_q, .int u3]))] H := hP
    have hD : va_D A [(t, .inr (7, [.ref st, .ref kp, .int hasI, .int imgs, .ref vs, .ref rd, .ref wk, .ref chr, .ref shs, .ref er])), (st, .inr (3, [.ref kinds, .ref ms, .ref said, .ref signs, .ref tape, .ref avo, .ref tal, .ref wai, .int vow, .int day, .int worth, .int z])), (tal, .inr (1, [.ref tal_q, .int u3]))] := hD
    refine lv_iload_n hx hb dX7_untell_36 rfl (lv_at hl 0 rfl) ?_
    obtain rfl := Option.some.inj hF
    rw [← hQ]
    exact W.iret (v := (0 : Int32)) hx hb hr (fun t ht hW => ⟨⟨_, (), rfl, ⟨rfl, rfl⟩, xLf hP ht⟩, hS.F ht⟩) hS.2.2 dX7_untell_37
  · have hF := itN c23 hF
    refine lv_iconst (v := 1) hx hb dX7_untell_26 (by decide) ?_
    refine lv_goto (tgt := 31) hx hb dX7_untell_27 (by decide) ?_
    refine lv_istore_n (lv' := [(3, .int (1 : Int32)), (2, .ref tal), (0, .ref t), (1, .int (1 : Int32))]) hx hb dX7_untell_31 rfl hl (by decide) rfl (fun ls hl => ?_)
    refine lv_aload_n hx hb dX7_untell_32 rfl (lv_at hl 1 rfl) ?_
    obtain ⟨u3, e3, hF⟩ := bdS hF
    refine xEndV (xRunV (As := []) (rest := []) hZ (c_X1_clear G tal tal_q tal_m u3 e3 l H.size) m654 m252 m253 m49 m254 0 ⟨rfl, hdX1_clear⟩ ⟨Nat.le_of_ble_eq_true rfl, Nat.le_of_ble_eq_true rfl⟩ ⟨rfl, rfl⟩ hP hD hS 2 1 rfl rfl rfl [2] rfl rfl rfl hl.1 rfl (Nat.le_of_ble_eq_true rfl) dX7_untell_33 ⟨Nat.zero_le _, Nat.zero_le _⟩) hP hD hS hA [2] rfl rfl rfl (fun H locs hP hD hS => ?_)
    have hP : va_P G.1 vwCl [(t, .inr (7, [.ref st, .ref kp, .int hasI, .int imgs, .ref vs, .ref rd, .ref wk, .ref chr, .ref shs, .ref er])), (st, .inr (3, [.ref kinds, .ref ms, .ref said, .ref signs, .ref tape, .ref avo, .ref tal, .ref wai, .int vow, .int day, .int worth, .int z])), (tal, .inr (1, [.ref tal_q, .int u3]))] H := hP
    have hD : va_D A [(t, .inr (7, [.ref st, .ref kp, .int hasI, .int imgs, .ref vs, .ref rd, .ref wk, .ref chr, .ref shs, .ref er])), (st, .inr (3, [.ref kinds, .ref ms, .ref said, .ref signs, .ref tape, .ref avo, .ref tal, .ref wai, .int vow, .int day, .int worth, .int z])), (tal, .inr (1, [.ref tal_q, .int u3]))] := hD
    refine lv_iload_n hx hb dX7_untell_36 rfl (lv_at hl 0 rfl) ?_
    obtain rfl := Option.some.inj hF
    rw [← hQ]
    exact W.iret (v := (1 : Int32)) hx hb hr (fun t ht hW => ⟨⟨_, (), rfl, ⟨rfl, rfl⟩, xLf hP ht⟩, hS.F ht⟩) hS.2.2 dX7_untell_37
def F_X7_law_1 (tal_m : Int32) (tal_f : Nat → Int32) (stack_m : Int32) (stack_f : Nat → Int32) (ia : Int32) (ib : Int32) (ic : Int32) : Option (Int32 × Int32 × (Nat → Int32)) := bd (F_X3_codesOf_1) (fun (u1 : Unit) => bd (F_X7_given_1 tal_m tal_f stack_m stack_f ia ib ic) (fun (u2 : (Int32 × Int32 × (Nat → Int32))) => some (u2.1, u2.2.1, u2.2.2)))
set_option maxHeartbeats 4000000 in
set_option maxRecDepth 100000 in
theorem c_X7_law_1 (G : xG) (t : Nat) (st : Nat) (kp : Nat) (vs : Nat) (rd : Nat) (wk : Nat) (chr : Nat) (shs : Nat) (er : Nat) (kinds : Nat) (ms : Nat) (said : Nat) (signs : Nat) (tape : Nat) (avo : Nat) (tal : Nat) (wai : Nat) (tal_q : Nat) (stack : Nat) (stack_q : Nat) (hasI : Int32) (imgs : Int32) (vow : Int32) (day : Int32) (worth : Int32) (z : Int32) (tal_m : Int32) (tal_f : Nat → Int32) (stack_m : Int32) (stack_f : Nat → Int32) (ia : Int32) (ib : Int32) (ic : Int32)  (u : (Int32 × Int32 × (Nat → Int32))) (hF : F_X7_law_1 tal_m tal_f stack_m stack_f ia ib ic = some u) : Ki G .int yX7_law (Cond.code yX7_law cX7_law 5 (some .int) :: TBL) { frames := 4, cells := 0, slots := 0, locals := 115 } [.ref t, .int (1 : Int32), .int ia, .int ib, .int ic] [(t, .inr (7, [.ref st, .ref kp, .int hasI, .int imgs, .ref vs, .ref rd, .ref wk, .ref chr, .ref shs, .ref er])), (st, .inr (3, [.ref kinds, .ref ms, .ref said, .ref signs, .ref tape, .ref avo, .ref tal, .ref wai, .int vow, .int day, .int worth, .int z])), (tal, .inr (1, [.ref tal_q, .int tal_m])), (tal_q, .inl (xI G, 60, .inl tal_f)), (wk, .inr (6, [.ref stack])), (stack, .inr (1, [.ref stack_q, .int stack_m])), (stack_q, .inl (xI G, 60, .inl stack_f))] [(t, .inr (7, [.ref st, .ref kp, .int hasI, .int imgs, .ref vs, .ref rd, .ref wk, .ref chr, .ref shs, .ref er])), (st, .inr (3, [.ref kinds, .ref ms, .ref said, .ref signs, .ref tape, .ref avo, .ref tal, .ref wai, .int vow, .int day, .int worth, .int z])), (tal, .inr (1, [.ref tal_q, .int tal_m])), (tal_q, .inl (xI G, 60, .inl tal_f)), (wk, .inr (6, [.ref stack])), (stack, .inr (1, [.ref stack_q, .int u.2.1])), (stack_q, .inl (xI G, 60, .inl u.2.2))] u.1 := by
  intro l sz
  refine Met.ofW (cc := cX7_law) (maxL := 5) (ret := (some .int)) (by decide) rfl ?_
  intro p e s m args below meth c s₁ B hml hv
  obtain ⟨rfl, hsz, hP, hD0, hm⟩ := hv
  have hx := B.exec
  have hb := B.bytes
  have hr := B.returns
  have hts := atoms_spec (ws := Cond.code yX7_law cX7_law 5 (some .int) :: TBL) B.pre
  have hown : s.vm.findClass RX7 = some m.cls := findClass_of_methodNamed B.named
  have hlocks := B.notSynchronized
  subst hsz
  have hD := hD0.self (sz := s.heap.size)
  generalize hAe : va_A [(t, .inr (7, [.ref st, .ref kp, .int hasI, .int imgs, .ref vs, .ref rd, .ref wk, .ref chr, .ref shs, .ref er])), (st, .inr (3, [.ref kinds, .ref ms, .ref said, .ref signs, .ref tape, .ref avo, .ref tal, .ref wai, .int vow, .int day, .int worth, .int z])), (tal, .inr (1, [.ref tal_q, .int tal_m])), (tal_q, .inl (xI G, 60, .inl tal_f)), (wk, .inr (6, [.ref stack])), (stack, .inr (1, [.ref stack_q, .int stack_m])), (stack_q, .inl (xI G, 60, .inl stack_f))] s.heap.size = A at hD hm ⊢
  have hA : ∀ q : Nat, s.heap.size ≤ q → A q := fun q h => by rw [← hAe]; exact Or.inr h
  have hK := hm.1
  have hZ : xAnd p m c cX7_law 5 s _ (Cond.code yX7_law cX7_law 5 (some .int) :: TBL) RX7 G A := ⟨⟨hx, hb, hml, hown, hts⟩, tcons, hA, hm⟩
  have hP : va_P G.1 vwCl [(t, .inr (7, [.ref st, .ref kp, .int hasI, .int imgs, .ref vs, .ref rd, .ref wk, .ref chr, .ref shs, .ref er])), (st, .inr (3, [.ref kinds, .ref ms, .ref said, .ref signs, .ref tape, .ref avo, .ref tal, .ref wai, .int vow, .int day, .int worth, .int z])), (tal, .inr (1, [.ref tal_q, .int tal_m])), (tal_q, .inl (xI G, 60, .inl tal_f)), (wk, .inr (6, [.ref stack])), (stack, .inr (1, [.ref stack_q, .int stack_m])), (stack_q, .inl (xI G, 60, .inl stack_f))] s.heap := hP
  have hl := lv_entry ([.ref t, .int (1 : Int32), .int ia, .int ib, .int ic]) (n := 5) (Nat.le_of_ble_eq_true rfl)
  rw [lg_entry_eq]
  generalize (lg_sl ([.ref t, .int (1 : Int32), .int ia, .int ib, .int ic]) ++ List.replicate (5 - (lg_sl ([.ref t, .int (1 : Int32), .int ia, .int ib, .int ic])).length) Slot.unset).toArray = ls at hl ⊢
  have hl : lv_has ls 5 [(0, .ref t), (1, .int (1 : Int32)), (2, .int ia), (3, .int ib), (4, .int ic)] := hl
  generalize hQ : MQ below _ _ s _ _ _ = Q
  refine xGo (A := A) hP (fun H locs hP hS => ?_)
  unfold F_X7_law_1 at hF
  refine lv_aload_n hx hb dX7_law_0 rfl (lv_at hl 0 rfl) ?_
  refine va_get (ci := 7) (v := .ref st) (C := RX7) (T := TX7) (N := 10) hx hb hts (fun w h => tcons w (xin7 w h)) hown hK hP 0 rfl rfl 0 (by decide) (hts _ (tcons _ m16)) (fun _ h9 => h9) rfl dX7_law_1 ?_
  refine lv_iload_n hx hb dX7_law_4 rfl (lv_at hl 1 rfl) ?_
  obtain ⟨u1, e1, hF⟩ := bdS hF
  refine xEndQ (xRunV (As := [.int (1 : Int32)]) (rest := []) hZ (c_X3_codesOf_1 G st kinds ms said signs tape avo tal wai vow day worth z u1 e1 l H.size) m242 m243 m244 m15 m245 1 ⟨rfl, hdX3_codesOf⟩ ⟨Nat.le_of_ble_eq_true rfl, Nat.le_of_ble_eq_true rfl⟩ ⟨rfl, rfl⟩ hP hD hS 1 3 rfl rfl rfl [1] rfl rfl rfl hl.1 rfl (Nat.le_of_ble_eq_true rfl) dX7_law_5 ⟨Nat.zero_le _, Nat.zero_le _⟩) hP hD hS hA [1] rfl rfl rfl (fun H locs hP hD hS => ?_)
  have hP : va_P G.1 vwCl [(t, .inr (7, [.ref st, .ref kp, .int hasI, .int imgs, .ref vs, .ref rd, .ref wk, .ref chr, .ref shs, .ref er])), (st, .inr (3, [.ref kinds, .ref ms, .ref said, .ref signs, .ref tape, .ref avo, .ref tal, .ref wai, .int vow, .int day, .int worth, .int z])), (tal, .inr (1, [.ref tal_q, .int tal_m])), (tal_q, .inl (xI G, 60, .inl tal_f)), (wk, .inr (6, [.ref stack])), (stack, .inr (1, [.ref stack_q, .int stack_m])), (stack_q, .inl (xI G, 60, .inl stack_f))] H := hP
  have hD : va_D A [(t, .inr (7, [.ref st, .ref kp, .int hasI, .int imgs, .ref vs, .ref rd, .ref wk, .ref chr, .ref shs, .ref er])), (st, .inr (3, [.ref kinds, .ref ms, .ref said, .ref signs, .ref tape, .ref avo, .ref tal, .ref wai, .int vow, .int day, .int worth, .int z])), (tal, .inr (1, [.ref tal_q, .int tal_m])), (tal_q, .inl (xI G, 60, .inl tal_f)), (wk, .inr (6, [.ref stack])), (stack, .inr (1, [.ref stack_q, .int stack_m])), (stack_q, .inl (xI G, 60, .inl stack_f))] := hD
  refine lv_ifnonnull (tgt := 17) hx hb dX7_law_8 (by decide) ?_
  refine lv_aload_n hx hb dX7_law_17 rfl (lv_at hl 0 rfl) ?_
  refine lv_iload_n hx hb dX7_law_18 rfl (lv_at hl 1 rfl) ?_
  refine lv_iload_n hx hb dX7_law_19 rfl (lv_at hl 2 rfl) ?_
  refine lv_iload_n hx hb dX7_law_20 rfl (lv_at hl 3 rfl) ?_
  refine lv_iload hx hb dX7_law_21 (lv_at hl 4 rfl) ?_
  obtain ⟨u2, e2, hF⟩ := bdS hF
  refine xEndI (xRunV (As := [.int (1 : Int32), .int ia, .int ib, .int ic]) (rest := []) hZ (c_X7_given_1 G t st kp vs rd wk chr shs er kinds ms said signs tape avo tal wai tal_q stack stack_q hasI imgs vow day worth z tal_m tal_f stack_m stack_f ia ib ic u2 e2 l H.size) m238 m239 m240 m2 m241 4 ⟨rfl, hdX7_given⟩ ⟨Nat.le_of_ble_eq_true rfl, Nat.le_of_ble_eq_true rfl⟩ ⟨rfl, rfl⟩ hP hD hS 0 7 rfl rfl rfl [0, 1, 2, 3, 4, 5, 6] rfl rfl rfl hl.1 rfl (Nat.le_of_ble_eq_true rfl) dX7_law_23 ⟨Nat.zero_le _, Nat.zero_le _⟩) hP hD hS hA [0, 1, 2, 3, 4, 5, 6] rfl rfl rfl (fun H locs n2 hP hD hS => ?_)
  have hP : va_P G.1 vwCl [(t, .inr (7, [.ref st, .ref kp, .int hasI, .int imgs, .ref vs, .ref rd, .ref wk, .ref chr, .ref shs, .ref er])), (st, .inr (3, [.ref kinds, .ref ms, .ref said, .ref signs, .ref tape, .ref avo, .ref tal, .ref wai, .int vow, .int day, .int worth, .int z])), (tal, .inr (1, [.ref tal_q, .int tal_m])), (tal_q, .inl (xI G, 60, .inl tal_f)), (wk, .inr (6, [.ref stack])), (stack, .inr (1, [.ref stack_q, .int u2.2.1])), (stack_q, .inl (xI G, 60, .inl u2.2.2))] H := hP
  have hD : va_D A [(t, .inr (7, [.ref st, .ref kp, .int hasI, .int imgs, .ref vs, .ref rd, .ref wk, .ref chr, .ref shs, .ref er])), (st, .inr (3, [.ref kinds, .ref ms, .ref said, .ref signs, .ref tape, .ref avo, .ref tal, .ref wai, .int vow, .int day, .int worth, .int z])), (tal, .inr (1, [.ref tal_q, .int tal_m])), (tal_q, .inl (xI G, 60, .inl tal_f)), (wk, .inr (6, [.ref stack])), (stack, .inr (1, [.ref stack_q, .int u2.2.1])), (stack_q, .inl (xI G, 60, .inl u2.2.2))] := hD
  obtain rfl := Option.some.inj hF
  rw [← hQ]
  exact W.iret (v := u2.1) hx hb hr (fun t ht hW => ⟨⟨_, (), rfl, ⟨rfl, rfl⟩, xLf hP ht⟩, hS.F ht⟩) hS.2.2 dX7_law_26
