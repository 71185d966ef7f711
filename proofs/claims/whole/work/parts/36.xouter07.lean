def F_X7_fits_out (er_f : Nat → Int32) (si : Int32) : Option (Int32 × (Nat → Int32)) := bd (F_X7_sheetOf_out si) (fun (u1 : Unit) => bd (F_X7_error er_f (1 : Int32)) (fun (u2 : (Int32 × (Nat → Int32))) => some (u2.1, u2.2)))
set_option maxHeartbeats 4000000 in
set_option maxRecDepth 100000 in
theorem c_X7_fits_out (G : xG) (t : Nat) (st : Nat) (kp : Nat) (vs : Nat) (rd : Nat) (wk : Nat) (chr : Nat) (shs : Nat) (er : Nat) (hasI : Int32) (imgs : Int32) (shs_f : Nat → Option Nat) (er_f : Nat → Int32) (si : Int32) (wh : Int32)  (u : (Int32 × (Nat → Int32))) (hF : F_X7_fits_out er_f si = some u) : Ki G .int yX7_fits (Cond.code yX7_fits cX7_fits 5 (some .int) :: TBL) { frames := 2, cells := 0, slots := 0, locals := 43 } [.ref t, .int si, .int wh] [(t, .inr (7, [.ref st, .ref kp, .int hasI, .int imgs, .ref vs, .ref rd, .ref wk, .ref chr, .ref shs, .ref er])), (shs, .inl (xY G, 4, .inr (.inr (.inr (.inr shs_f))))), (er, .inl (xI G, 7, .inl er_f))] [(t, .inr (7, [.ref st, .ref kp, .int hasI, .int imgs, .ref vs, .ref rd, .ref wk, .ref chr, .ref shs, .ref er])), (shs, .inl (xY G, 4, .inr (.inr (.inr (.inr shs_f))))), (er, .inl (xI G, 7, .inl u.2))] u.1 := by
  intro l sz
  refine Met.ofW (cc := cX7_fits) (maxL := 5) (ret := (some .int)) (by decide) rfl ?_
  intro p e s m args below meth c s₁ B hml hv
  obtain ⟨rfl, hsz, hP, hD0, hm⟩ := hv
  have hx := B.exec
  have hb := B.bytes
  have hr := B.returns
  have hts := atoms_spec (ws := Cond.code yX7_fits cX7_fits 5 (some .int) :: TBL) B.pre
  have hown : s.vm.findClass RX7 = some m.cls := findClass_of_methodNamed B.named
  have hlocks := B.notSynchronized
  subst hsz
  have hD := hD0.self (sz := s.heap.size)
  generalize hAe : va_A [(t, .inr (7, [.ref st, .ref kp, .int hasI, .int imgs, .ref vs, .ref rd, .ref wk, .ref chr, .ref shs, .ref er])), (shs, .inl (xY G, 4, .inr (.inr (.inr (.inr shs_f))))), (er, .inl (xI G, 7, .inl er_f))] s.heap.size = A at hD hm ⊢
  have hA : ∀ q : Nat, s.heap.size ≤ q → A q := fun q h => by rw [← hAe]; exact Or.inr h
  have hK := hm.1
  have hZ : xAnd p m c cX7_fits 5 s _ (Cond.code yX7_fits cX7_fits 5 (some .int) :: TBL) RX7 G A := ⟨⟨hx, hb, hml, hown, hts⟩, tcons, hA, hm⟩
  have hP : va_P G.1 vwCl [(t, .inr (7, [.ref st, .ref kp, .int hasI, .int imgs, .ref vs, .ref rd, .ref wk, .ref chr, .ref shs, .ref er])), (shs, .inl (xY G, 4, .inr (.inr (.inr (.inr shs_f))))), (er, .inl (xI G, 7, .inl er_f))] s.heap := hP
  have hl := lv_entry ([.ref t, .int si, .int wh]) (n := 5) (Nat.le_of_ble_eq_true rfl)
  rw [lg_entry_eq]
  generalize (lg_sl ([.ref t, .int si, .int wh]) ++ List.replicate (5 - (lg_sl ([.ref t, .int si, .int wh])).length) Slot.unset).toArray = ls at hl ⊢
  have hl : lv_has ls 5 [(0, .ref t), (1, .int si), (2, .int wh)] := hl
  generalize hQ : MQ below _ _ s _ _ _ = Q
  refine xGo (A := A) hP (fun H locs hP hS => ?_)
  unfold F_X7_fits_out at hF
  refine lv_aload_n hx hb dX7_fits_0 rfl (lv_at hl 0 rfl) ?_
  refine lv_iload_n hx hb dX7_fits_1 rfl (lv_at hl 1 rfl) ?_
  obtain ⟨u1, e1, hF⟩ := bdS hF
  refine xEndQ (xRunV (As := [.int si]) (rest := []) hZ (c_X7_sheetOf_out G t st kp vs rd wk chr shs er hasI imgs shs_f si u1 e1 l H.size) m874 m875 m876 m2 m877 1 ⟨rfl, hdX7_sheetOf⟩ ⟨Nat.le_of_ble_eq_true rfl, Nat.le_of_ble_eq_true rfl⟩ ⟨rfl, rfl⟩ hP hD hS 0 7 rfl rfl rfl [0, 1] rfl rfl rfl hl.1 rfl (Nat.le_of_ble_eq_true rfl) dX7_fits_2 ⟨Nat.zero_le _, Nat.zero_le _⟩) hP hD hS hA [0, 1] rfl rfl rfl (fun H locs hP hD hS => ?_)
  have hP : va_P G.1 vwCl [(t, .inr (7, [.ref st, .ref kp, .int hasI, .int imgs, .ref vs, .ref rd, .ref wk, .ref chr, .ref shs, .ref er])), (shs, .inl (xY G, 4, .inr (.inr (.inr (.inr shs_f))))), (er, .inl (xI G, 7, .inl er_f))] H := hP
  have hD : va_D A [(t, .inr (7, [.ref st, .ref kp, .int hasI, .int imgs, .ref vs, .ref rd, .ref wk, .ref chr, .ref shs, .ref er])), (shs, .inl (xY G, 4, .inr (.inr (.inr (.inr shs_f))))), (er, .inl (xI G, 7, .inl er_f))] := hD
  refine lv_astore_nN (lv' := [(3, .null), (0, .ref t), (1, .int si), (2, .int wh)]) hx hb dX7_fits_5 rfl hl (by decide) rfl (fun ls hl => ?_)
  refine lv_aload_nN hx hb dX7_fits_6 rfl (lv_at hl 0 rfl) ?_
  refine lv_ifnullN (tgt := 19) hx hb dX7_fits_7 (by decide) ?_
  refine lv_aload_n hx hb dX7_fits_19 rfl (lv_at hl 1 rfl) ?_
  refine lv_iconst (v := 1) hx hb dX7_fits_20 (by decide) ?_
  obtain ⟨u2, e2, hF⟩ := bdS hF
  refine xEndI (xRunV (As := [.int (1 : Int32)]) (rest := []) hZ (c_X7_error G t st kp vs rd wk chr shs er hasI imgs er_f (1 : Int32) u2 e2 l H.size) m167 m168 m169 m2 m170 1 ⟨rfl, hdX7_error⟩ ⟨Nat.le_of_ble_eq_true rfl, Nat.le_of_ble_eq_true rfl⟩ ⟨rfl, rfl⟩ hP hD hS 0 7 rfl rfl rfl [0, 2] rfl rfl rfl hl.1 rfl (Nat.le_of_ble_eq_true rfl) dX7_fits_21 ⟨Nat.zero_le _, Nat.zero_le _⟩) hP hD hS hA [0, 2] rfl rfl rfl (fun H locs n2 hP hD hS => ?_)
  have hP : va_P G.1 vwCl [(t, .inr (7, [.ref st, .ref kp, .int hasI, .int imgs, .ref vs, .ref rd, .ref wk, .ref chr, .ref shs, .ref er])), (shs, .inl (xY G, 4, .inr (.inr (.inr (.inr shs_f))))), (er, .inl (xI G, 7, .inl u2.2))] H := hP
  have hD : va_D A [(t, .inr (7, [.ref st, .ref kp, .int hasI, .int imgs, .ref vs, .ref rd, .ref wk, .ref chr, .ref shs, .ref er])), (shs, .inl (xY G, 4, .inr (.inr (.inr (.inr shs_f))))), (er, .inl (xI G, 7, .inl u2.2))] := hD
  obtain rfl := Option.some.inj hF
  rw [← hQ]
  exact W.iret (v := u2.1) hx hb hr (fun t ht hW => ⟨⟨_, (), rfl, ⟨rfl, rfl⟩, xLf hP ht⟩, hS.F ht⟩) hS.2.2 dX7_fits_24
def F_X7_voice (kinds_m : Int32) (kinds_f : Nat → Int32) (ms_m : Int32) (ms_f : Nat → Int32) (parted : Int32) (vkk : Int32) (vkd : Int32) (vmm : Int32) (trace_m : Int32) (trace_f : Nat → Int32) (er_f : Nat → Int32) (br : Int32) (vo : Int32) (xx : Int32) : Option (Int32 × Int32 × Int32 × Int32 × Int32 × Int32 × (Nat → Int32) × (Nat → Int32)) := bd (F_X7_isBrother kinds_m br) (fun (u1 : Int32) => if u1 = 0 then (bd (F_X7_error er_f (1 : Int32)) (fun (u2 : (Int32 × (Nat → Int32))) => some (u2.1, parted, vkk, vkd, vmm, trace_m, trace_f, u2.2))) else (bd (F_X7_within vo (0 : Int32) (3 : Int32)) (fun (u2 : Int32) => if u2 = 0 then (bd (F_X7_error er_f (1 : Int32)) (fun (u3 : (Int32 × (Nat → Int32))) => some (u3.1, parted, vkk, vkd, vmm, trace_m, trace_f, u3.2))) else (bd (F_X1_get 6 kinds_m kinds_f br) (fun (u3 : Int32) => bd (F_X1_get 6 ms_m ms_f br) (fun (u4 : Int32) => bd (F_X4_hear trace_f br u3 u4 vo xx) (fun (u5 : (Int32 × Int32 × Int32 × Int32 × Int32 × Int32 × (Nat → Int32))) => if u5.2.1 = 0 then (some (u5.1, u5.2.1, u5.2.2.1, u5.2.2.2.1, u5.2.2.2.2.1, u5.2.2.2.2.2.1, u5.2.2.2.2.2.2, er_f)) else (bd (F_X7_error er_f (6 : Int32)) (fun (u6 : (Int32 × (Nat → Int32))) => some (u6.1, u5.2.1, u5.2.2.1, u5.2.2.2.1, u5.2.2.2.2.1, u5.2.2.2.2.2.1, u5.2.2.2.2.2.2, u6.2))))))))))
theorem hdX7_voice : yX7_voice.cls ≠ "java/lang/invoke/MethodHandle" ∧ yX7_voice.cls ≠ "java/lang/invoke/VarHandle" ∧ (parseMethodDescriptor yX7_voice.desc).map (fun d => d.parameters.length) = some 3 := by decide +kernel
set_option maxHeartbeats 4000000 in
set_option maxRecDepth 100000 in
theorem c_X7_voice (G : xG) (t : Nat) (st : Nat) (kp : Nat) (vs : Nat) (rd : Nat) (wk : Nat) (chr : Nat) (shs : Nat) (er : Nat) (kinds : Nat) (ms : Nat) (said : Nat) (signs : Nat) (tape : Nat) (avo : Nat) (tal : Nat) (wai : Nat) (kinds_q : Nat) (ms_q : Nat) (trace : Nat) (trace_q : Nat) (hasI : Int32) (imgs : Int32) (vow : Int32) (day : Int32) (worth : Int32) (z : Int32) (kinds_m : Int32) (kinds_f : Nat → Int32) (ms_m : Int32) (ms_f : Nat → Int32) (parted : Int32) (vkk : Int32) (vkd : Int32) (vmm : Int32) (trace_m : Int32) (trace_f : Nat → Int32) (er_f : Nat → Int32) (br : Int32) (vo : Int32) (xx : Int32)  (u : (Int32 × Int32 × Int32 × Int32 × Int32 × Int32 × (Nat → Int32) × (Nat → Int32))) (hF : F_X7_voice kinds_m kinds_f ms_m ms_f parted vkk vkd vmm trace_m trace_f er_f br vo xx = some u) : Ki G .int yX7_voice (Cond.code yX7_voice cX7_voice 5 (some .int) :: TBL) { frames := 30, cells := 0, slots := 0, locals := 751 } [.ref t, .int br, .int vo, .int xx] [(t, .inr (7, [.ref st, .ref kp, .int hasI, .int imgs, .ref vs, .ref rd, .ref wk, .ref chr, .ref shs, .ref er])), (st, .inr (3, [.ref kinds, .ref ms, .ref said, .ref signs, .ref tape, .ref avo, .ref tal, .ref wai, .int vow, .int day, .int worth, .int z])), (kinds, .inr (1, [.ref kinds_q, .int kinds_m])), (kinds_q, .inl (xI G, 6, .inl kinds_f)), (ms, .inr (1, [.ref ms_q, .int ms_m])), (ms_q, .inl (xI G, 6, .inl ms_f)), (chr, .inr (4, [.ref trace, .int parted, .int vkk, .int vkd, .int vmm])), (trace, .inr (1, [.ref trace_q, .int trace_m])), (trace_q, .inl (xI G, 30, .inl trace_f)), (er, .inl (xI G, 7, .inl er_f))] [(t, .inr (7, [.ref st, .ref kp, .int hasI, .int imgs, .ref vs, .ref rd, .ref wk, .ref chr, .ref shs, .ref er])), (st, .inr (3, [.ref kinds, .ref ms, .ref said, .ref signs, .ref tape, .ref avo, .ref tal, .ref wai, .int vow, .int day, .int worth, .int z])), (kinds, .inr (1, [.ref kinds_q, .int kinds_m])), (kinds_q, .inl (xI G, 6, .inl kinds_f)), (ms, .inr (1, [.ref ms_q, .int ms_m])), (ms_q, .inl (xI G, 6, .inl ms_f)), (chr, .inr (4, [.ref trace, .int u.2.1, .int u.2.2.1, .int u.2.2.2.1, .int u.2.2.2.2.1])), (trace, .inr (1, [.ref trace_q, .int u.2.2.2.2.2.1])), (trace_q, .inl (xI G, 30, .inl u.2.2.2.2.2.2.1)), (er, .inl (xI G, 7, .inl u.2.2.2.2.2.2.2))] u.1 := by
  intro l sz
  refine Met.ofW (cc := cX7_voice) (maxL := 5) (ret := (some .int)) (by decide) rfl ?_
  intro p e s m args below meth c s₁ B hml hv
  obtain ⟨rfl, hsz, hP, hD0, hm⟩ := hv
  have hx := B.exec
  have hb := B.bytes
  have hr := B.returns
  have hts := atoms_spec (ws := Cond.code yX7_voice cX7_voice 5 (some .int) :: TBL) B.pre
  have hown : s.vm.findClass RX7 = some m.cls := findClass_of_methodNamed B.named
  have hlocks := B.notSynchronized
  subst hsz
  have hD := hD0.self (sz := s.heap.size)
  generalize hAe : va_A [(t, .inr (7, [.ref st, .ref kp, .int hasI, .int imgs, .ref vs, .ref rd, .ref wk, .ref chr, .ref shs, .ref er])), (st, .inr (3, [.ref kinds, .ref ms, .ref said, .ref signs, .ref tape, .ref avo, .ref tal, .ref wai, .int vow, .int day, .int worth, .int z])), (kinds, .inr (1, [.ref kinds_q, .int kinds_m])), (kinds_q, .inl (xI G, 6, .inl kinds_f)), (ms, .inr (1, [.ref ms_q, .int ms_m])), (ms_q, .inl (xI G, 6, .inl ms_f)), (chr, .inr (4, [.ref trace, .int parted, .int vkk, .int vkd, .int vmm])), (trace, .inr (1, [.ref trace_q, .int trace_m])), (trace_q, .inl (xI G, 30, .inl trace_f)), (er, .inl (xI G, 7, .inl er_f))] s.heap.size = A at hD hm ⊢
  have hA : ∀ q : Nat, s.heap.size ≤ q → A q := fun q h => by rw [← hAe]; exact Or.inr h
  have hK := hm.1
  have hZ : xAnd p m c cX7_voice 5 s _ (Cond.code yX7_voice cX7_voice 5 (some .int) :: TBL) RX7 G A := ⟨⟨hx, hb, hml, hown, hts⟩, tcons, hA, hm⟩
  have hP : va_P G.1 vwCl [(t, .inr (7, [.ref st, .ref kp, .int hasI, .int imgs, .ref vs, .ref rd, .ref wk, .ref chr, .ref shs, .ref er])), (st, .inr (3, [.ref kinds, .ref ms, .ref said, .ref signs, .ref tape, .ref avo, .ref tal, .ref wai, .int vow, .int day, .int worth, .int z])), (kinds, .inr (1, [.ref kinds_q, .int kinds_m])), (kinds_q, .inl (xI G, 6, .inl kinds_f)), (ms, .inr (1, [.ref ms_q, .int ms_m])), (ms_q, .inl (xI G, 6, .inl ms_f)), (chr, .inr (4, [.ref trace, .int parted, .int vkk, .int vkd, .int vmm])), (trace, .inr (1, [.ref trace_q, .int trace_m])), (trace_q, .inl (xI G, 30, .inl trace_f)), (er, .inl (xI G, 7, .inl er_f))] s.heap := hP
  have hl := lv_entry ([.ref t, .int br, .int vo, .int xx]) (n := 5) (Nat.le_of_ble_eq_true rfl)
  rw [lg_entry_eq]
  generalize (lg_sl ([.ref t, .int br, .int vo, .int xx]) ++ List.replicate (5 - (lg_sl ([.ref t, .int br, .int vo, .int xx])).length) Slot.unset).toArray = ls at hl ⊢
  have hl : lv_has ls 5 [(0, .ref t), (1, .int br), (2, .int vo), (3, .int xx)] := hl
  generalize hQ : MQ below _ _ s _ _ _ = Q
  refine xGo (A := A) hP (fun H locs hP hS => ?_)
  unfold F_X7_voice at hF
  refine lv_aload_n hx hb dX7_voice_0 rfl (lv_at hl 0 rfl) ?_
  refine lv_iload_n hx hb dX7_voice_1 rfl (lv_at hl 1 rfl) ?_
  obtain ⟨u1, e1, hF⟩ := bdS hF
  refine xEndI (xRunV (As := [.int br]) (rest := []) hZ (c_X7_isBrother G t st kp vs rd wk chr shs er kinds ms said signs tape avo tal wai kinds_q hasI imgs vow day worth z kinds_m br u1 e1 l H.size) m202 m203 m204 m2 m205 1 ⟨rfl, hdX7_isBrother⟩ ⟨Nat.le_of_ble_eq_true rfl, Nat.le_of_ble_eq_true rfl⟩ ⟨rfl, rfl⟩ hP hD hS 0 7 rfl rfl rfl [0, 1, 2] rfl rfl rfl hl.1 rfl (Nat.le_of_ble_eq_true rfl) dX7_voice_2 ⟨Nat.zero_le _, Nat.zero_le _⟩) hP hD hS hA [0, 1, 2] rfl rfl rfl (fun H locs n1 hP hD hS => ?_)
  have hP : va_P G.1 vwCl [(t, .inr (7, [.ref st, .ref kp, .int hasI, .int imgs, .ref vs, .ref rd, .ref wk, .ref chr, .ref shs, .ref er])), (st, .inr (3, [.ref kinds, .ref ms, .ref said, .ref signs, .ref tape, .ref avo, .ref tal, .ref wai, .int vow, .int day, .int worth, .int z])), (kinds, .inr (1, [.ref kinds_q, .int kinds_m])), (kinds_q, .inl (xI G, 6, .inl kinds_f)), (ms, .inr (1, [.ref ms_q, .int ms_m])), (ms_q, .inl (xI G, 6, .inl ms_f)), (chr, .inr (4, [.ref trace, .int parted, .int vkk, .int vkd, .int vmm])), (trace, .inr (1, [.ref trace_q, .int trace_m])), (trace_q, .inl (xI G, 30, .inl trace_f)), (er, .inl (xI G, 7, .inl er_f))] H := hP
  have hD : va_D A [(t, .inr (7, [.ref st, .ref kp, .int hasI, .int imgs, .ref vs, .ref rd, .ref wk, .ref chr, .ref shs, .ref er])), (st, .inr (3, [.ref kinds, .ref ms, .ref said, .ref signs, .ref tape, .ref avo, .ref tal, .ref wai, .int vow, .int day, .int worth, .int z])), (kinds, .inr (1, [.ref kinds_q, .int kinds_m])), (kinds_q, .inl (xI G, 6, .inl kinds_f)), (ms, .inr (1, [.ref ms_q, .int ms_m])), (ms_q, .inl (xI G, 6, .inl ms_f)), (chr, .inr (4, [.ref trace, .int parted, .int vkk, .int vkd, .int vmm])), (trace, .inr (1, [.ref trace_q, .int trace_m])), (trace_q, .inl (xI G, 30, .inl trace_f)), (er, .inl (xI G, 7, .inl er_f))] := hD
  refine lv_if_eq (tgt := 17) hx hb dX7_voice_5 (by decide) (fun c5 => ?_) (fun c5 => ?_)
  · have hF := itP c5 hF
    refine lv_aload_n hx hb dX7_voice_17 rfl (lv_at hl 0 rfl) ?_
    refine lv_iconst (v := 1) hx hb dX7_voice_18 (by decide) ?_
    obtain ⟨u2, e2, hF⟩ := bdS hF
    refine xEndI (xRunV (As := [.int (1 : Int32)]) (rest := []) hZ (c_X7_error G t st kp vs rd wk chr shs er hasI imgs er_f (1 : Int32) u2 e2 l H.size) m167 m168 m169 m2 m170 1 ⟨rfl, hdX7_error⟩ ⟨Nat.le_of_ble_eq_true rfl, Nat.le_of_ble_eq_true rfl⟩ ⟨rfl, rfl⟩ hP hD hS 0 7 rfl rfl rfl [0, 9] rfl rfl rfl hl.1 rfl (Nat.le_of_ble_eq_true rfl) dX7_voice_19 ⟨Nat.zero_le _, Nat.zero_le _⟩) hP hD hS hA [0, 9] rfl rfl rfl (fun H locs n2 hP hD hS => ?_)
    have hP : va_P G.1 vwCl [(t, .inr (7, [.ref st, .ref kp, .int hasI, .int imgs, .ref vs, .ref rd, .ref wk, .ref chr, .ref shs, .ref er])), (st, .inr (3, [.ref kinds, .ref ms, .ref said, .ref signs, .ref tape, .ref avo, .ref tal, .ref wai, .int vow, .int day, .int worth, .int z])), (kinds, .inr (1, [.ref kinds_q, .int kinds_m])), (kinds_q, .inl (xI G, 6, .inl kinds_f)), (ms, .inr (1, [.ref ms_q, .int ms_m])), (ms_q, .inl (xI G, 6, .inl ms_f)), (chr, .inr (4, [.ref trace, .int parted, .int vkk, .int vkd, .int vmm])), (trace, .inr (1, [.ref trace_q, .int trace_m])), (trace_q, .inl (xI G, 30, .inl trace_f)), (er, .inl (xI G, 7, .inl u2.2))] H := hP
    have hD : va_D A [(t, .inr (7, [.ref st, .ref kp, .int hasI, .int imgs, .ref vs, .ref rd, .ref wk, .ref chr, .ref shs, .ref er])), (st, .inr (3, [.ref kinds, .ref ms, .ref said, .ref signs, .ref tape, .ref avo, .ref tal, .ref wai, .int vow, .int day, .int worth, .int z])), (kinds, .inr (1, [.ref kinds_q, .int kinds_m])), (kinds_q, .inl (xI G, 6, .inl kinds_f)), (ms, .inr (1, [.ref ms_q, .int ms_m])), (ms_q, .inl (xI G, 6, .inl ms_f)), (chr, .inr (4, [.ref trace, .int parted, .int vkk, .int vkd, .int vmm])), (trace, .inr (1, [.ref trace_q, .int trace_m])), (trace_q, .inl (xI G, 30, .inl trace_f)), (er, .inl (xI G, 7, .inl u2.2))] := hD
    obtain rfl := Option.some.inj hF
    rw [← hQ]
    exact W.iret (v := u2.1) hx hb hr (fun t ht hW => ⟨⟨_, (), rfl, ⟨rfl, rfl⟩, xLf hP ht⟩, hS.F ht⟩) hS.2.2 dX7_voice_22
  · have hF := itN c5 hF
    refine lv_iload_n hx hb dX7_voice_8 rfl (lv_at hl 2 rfl) ?_
    refine lv_iconst (v := 0) hx hb dX7_voice_9 (by decide) ?_
    refine lv_iconst (v := 3) hx hb dX7_voice_10 (by decide) ?_
    obtain ⟨u2, e2, hF⟩ := bdS hF
    refine xEndI (xRunS (As := [.int vo, .int (0 : Int32), .int (3 : Int32)]) (rest := []) hZ (c_X7_within G vo (0 : Int32) (3 : Int32) u2 e2 l H.size) m164 m165 m2 m166 3 hdX7_within ⟨Nat.le_of_ble_eq_true rfl, Nat.le_of_ble_eq_true rfl⟩ ⟨rfl, rfl⟩ hP hD hS [] rfl rfl rfl hl.1 rfl (Nat.le_of_ble_eq_true rfl) dX7_voice_11 ⟨Nat.zero_le _, Nat.zero_le _⟩) hP hD hS hA [] rfl rfl rfl (fun H locs n2 hP hD hS => ?_)
    have hP : va_P G.1 vwCl [(t, .inr (7, [.ref st, .ref kp, .int hasI, .int imgs, .ref vs, .ref rd, .ref wk, .ref chr, .ref shs, .ref er])), (st, .inr (3, [.ref kinds, .ref ms, .ref said, .ref signs, .ref tape, .ref avo, .ref tal, .ref wai, .int vow, .int day, .int worth, .int z])), (kinds, .inr (1, [.ref kinds_q, .int kinds_m])), (kinds_q, .inl (xI G, 6, .inl kinds_f)), (ms, .inr (1, [.ref ms_q, .int ms_m])), (ms_q, .inl (xI G, 6, .inl ms_f)), (chr, .inr (4, [.ref trace, .int parted, .int vkk, .int vkd, .int vmm])), (trace, .inr (1, [.ref trace_q, .int trace_m])), (trace_q, .inl (xI G, 30, .inl trace_f)), (er, .inl (xI G, 7, .inl er_f))] H := hP
    have hD : va_D A [(t, .inr (7, [.ref st, .ref kp, .int hasI, .int imgs, .ref vs, .ref rd, .ref wk, .ref chr, .ref shs, .ref er])), (st, .inr (3, [.ref kinds, .ref ms, .ref said, .ref signs, .ref tape, .ref avo, .ref tal, .ref wai, .int vow, .int day, .int worth, .int z])), (kinds, .inr (1, [.ref kinds_q, .int kinds_m])), (kinds_q, .inl (xI G, 6, .inl kinds_f)), (ms, .inr (1, [.ref ms_q, .int ms_m])), (ms_q, .inl (xI G, 6, .inl ms_f)), (chr, .inr (4, [.ref trace, .int parted, .int vkk, .int vkd, .int vmm])), (trace, .inr (1, [.ref trace_q, .int trace_m])), (trace_q, .inl (xI G, 30, .inl trace_f)), (er, .inl (xI G, 7, .inl er_f))] := hD
    refine lv_if_ne (tgt := 23) hx hb dX7_voice_14 (by decide) (fun c14 => ?_) (fun c14 => ?_)
    · have hF := itN c14 hF
      refine lv_aload_n hx hb dX7_voice_23 rfl (lv_at hl 0 rfl) ?_
      refine va_get (ci := 7) (v := .ref chr) (C := RX7) (T := TX7) (N := 10) hx hb hts (fun w h => tcons w (xin7 w h)) hown hK hP 0 rfl rfl 7 (by decide) (hts _ (tcons _ m36)) (fun _ h9 => h9) rfl dX7_voice_24 ?_
      refine lv_iload_n hx hb dX7_voice_27 rfl (lv_at hl 1 rfl) ?_
      refine lv_aload_n hx hb dX7_voice_28 rfl (lv_at hl 0 rfl) ?_
      refine va_get (ci := 7) (v := .ref st) (C := RX7) (T := TX7) (N := 10) hx hb hts (fun w h => tcons w (xin7 w h)) hown hK hP 0 rfl rfl 0 (by decide) (hts _ (tcons _ m16)) (fun _ h9 => h9) rfl dX7_voice_29 ?_
      refine va_get (ci := 3) (v := .ref kinds) (C := RX3) (T := TX3) (N := 12) hx hb hts (fun w h => tcons w (xin3 w h)) hown hK hP 1 rfl rfl 0 (by decide) (hts _ (tcons _ m158)) (fun _ h9 => h9) rfl dX7_voice_32 ?_
      refine lv_iload_n hx hb dX7_voice_35 rfl (lv_at hl 1 rfl) ?_
      obtain ⟨u3, e3, hF⟩ := bdS hF
      refine xEndI (xRunV (As := [.int br]) (rest := [.int br, .ref chr]) hZ (c_X1_get G kinds kinds_q 6 kinds_m kinds_f br u3 e3 l H.size) m210 m130 m131 m49 m132 1 ⟨rfl, hdX1_get⟩ ⟨Nat.le_of_ble_eq_true rfl, Nat.le_of_ble_eq_true rfl⟩ ⟨rfl, rfl⟩ hP hD hS 2 1 rfl rfl rfl [2, 3] rfl rfl rfl hl.1 rfl (Nat.le_of_ble_eq_true rfl) dX7_voice_36 ⟨Nat.zero_le _, Nat.zero_le _⟩) hP hD hS hA [2, 3] rfl rfl rfl (fun H locs n3 hP hD hS => ?_)
      have hP : va_P G.1 vwCl [(t, .inr (7, [.ref st, .ref kp, .int hasI, .int imgs, .ref vs, .ref rd, .ref wk, .ref chr, .ref shs, .ref er])), (st, .inr (3, [.ref kinds, .ref ms, .ref said, .ref signs, .ref tape, .ref avo, .ref tal, .ref wai, .int vow, .int day, .int worth, .int z])), (kinds, .inr (1, [.ref kinds_q, .int kinds_m])), (kinds_q, .inl (xI G, 6, .inl kinds_f)), (ms, .inr (1, [.ref ms_q, .int ms_m])), (ms_q, .inl (xI G, 6, .inl ms_f)), (chr, .inr (4, [.ref trace, .int parted, .int vkk, .int vkd, .int vmm])), (trace, .inr (1, [.ref trace_q, .int trace_m])), (trace_q, .inl (xI G, 30, .inl trace_f)), (er, .inl (xI G, 7, .inl er_f))] H := hP
      have hD : va_D A [(t, .inr (7, [.ref st, .ref kp, .int hasI, .int imgs, .ref vs, .ref rd, .ref wk, .ref chr, .ref shs, .ref er])), (st, .inr (3, [.ref kinds, .ref ms, .ref said, .ref signs, .ref tape, .ref avo, .ref tal, .ref wai, .int vow, .int day, .int worth, .int z])), (kinds, .inr (1, [.ref kinds_q, .int kinds_m])), (kinds_q, .inl (xI G, 6, .inl kinds_f)), (ms, .inr (1, [.ref ms_q, .int ms_m])), (ms_q, .inl (xI G, 6, .inl ms_f)), (chr, .inr (4, [.ref trace, .int parted, .int vkk, .int vkd, .int vmm])), (trace, .inr (1, [.ref trace_q, .int trace_m])), (trace_q, .inl (xI G, 30, .inl trace_f)), (er, .inl (xI G, 7, .inl er_f))] := hD
      refine lv_aload_n hx hb dX7_voice_39 rfl (lv_at hl 0 rfl) ?_
      refine va_get (ci := 7) (v := .ref st) (C := RX7) (T := TX7) (N := 10) hx hb hts (fun w h => tcons w (xin7 w h)) hown hK hP 0 rfl rfl 0 (by decide) (hts _ (tcons _ m16)) (fun _ h9 => h9) rfl dX7_voice_40 ?_
      refine va_get (ci := 3) (v := .ref ms) (C := RX3) (T := TX3) (N := 12) hx hb hts (fun w h => tcons w (xin3 w h)) hown hK hP 1 rfl rfl 1 (by decide) (hts _ (tcons _ m159)) (fun _ h9 => h9) rfl dX7_voice_43 ?_
      refine lv_iload_n hx hb dX7_voice_46 rfl (lv_at hl 1 rfl) ?_
      obtain ⟨u4, e4, hF⟩ := bdS hF
      refine xEndI (xRunV (As := [.int br]) (rest := [.int u3, .int br, .ref chr]) hZ (c_X1_get G ms ms_q 6 ms_m ms_f br u4 e4 l H.size) m210 m130 m131 m49 m132 1 ⟨rfl, hdX1_get⟩ ⟨Nat.le_of_ble_eq_true rfl, Nat.le_of_ble_eq_true rfl⟩ ⟨rfl, rfl⟩ hP hD hS 4 1 rfl rfl rfl [4, 5] rfl rfl rfl hl.1 rfl (Nat.le_of_ble_eq_true rfl) dX7_voice_47 ⟨Nat.zero_le _, Nat.zero_le _⟩) hP hD hS hA [4, 5] rfl rfl rfl (fun H locs n4 hP hD hS => ?_)
      have hP : va_P G.1 vwCl [(t, .inr (7, [.ref st, .ref kp, .int hasI, .int imgs, .ref vs, .ref rd, .ref wk, .ref chr, .ref shs, .ref er])), (st, .inr (3, [.ref kinds, .ref ms, .ref said, .ref signs, .ref tape, .ref avo, .ref tal, .ref wai, .int vow, .int day, .int worth, .int z])), (kinds, .inr (1, [.ref kinds_q, .int kinds_m])), (kinds_q, .inl (xI G, 6, .inl kinds_f)), (ms, .inr (1, [.ref ms_q, .int ms_m])), (ms_q, .inl (xI G, 6, .inl ms_f)), (chr, .inr (4, [.ref trace, .int parted, .int vkk, .int vkd, .int vmm])), (trace, .inr (1, [.ref trace_q, .int trace_m])), (trace_q, .inl (xI G, 30, .inl trace_f)), (er, .inl (xI G, 7, .inl er_f))] H := hP
      have hD : va_D A [(t, .inr (7, [.ref st, .ref kp, .int hasI, .int imgs, .ref vs, .ref rd, .ref wk, .ref chr, .ref shs, .ref er])), (st, .inr (3, [.ref kinds, .ref ms, .ref said, .ref signs, .ref tape, .ref avo, .ref tal, .ref wai, .int vow, .int day, .int worth, .int z])), (kinds, .inr (1, [.ref kinds_q, .int kinds_m])), (kinds_q, .inl (xI G, 6, .inl kinds_f)), (ms, .inr (1, [.ref ms_q, .int ms_m])), (ms_q, .inl (xI G, 6, .inl ms_f)), (chr, .inr (4, [.ref trace, .int parted, .int vkk, .int vkd, .int vmm])), (trace, .inr (1, [.ref trace_q, .int trace_m])), (trace_q, .inl (xI G, 30, .inl trace_f)), (er, .inl (xI G, 7, .inl er_f))] := hD
      refine lv_iload_n hx hb dX7_voice_50 rfl (lv_at hl 2 rfl) ?_
      refine lv_iload_n hx hb dX7_voice_51 rfl (lv_at hl 3 rfl) ?_
      obtain ⟨u5, e5, hF⟩ := bdS hF
      refine xEndI (xRunV (As := [.int br, .int u3, .int u4, .int vo, .int xx]) (rest := []) hZ (c_X4_hear G chr trace trace_q parted vkk vkd vmm trace_m trace_f br u3 u4 vo xx u5 e5 l H.size) m911 m912 m913 m35 m914 5 ⟨rfl, hdX4_hear⟩ ⟨Nat.le_of_ble_eq_true rfl, Nat.le_of_ble_eq_true rfl⟩ ⟨rfl, rfl⟩ hP hD hS 6 4 rfl rfl rfl [6, 7, 8] rfl rfl rfl hl.1 rfl (Nat.le_of_ble_eq_true rfl) dX7_voice_52 ⟨Nat.zero_le _, Nat.zero_le _⟩) hP hD hS hA [6, 7, 8] rfl rfl rfl (fun H locs n5 hP hD hS => ?_)
      have hP : va_P G.1 vwCl [(t, .inr (7, [.ref st, .ref kp, .int hasI, .int imgs, .ref vs, .ref rd, .ref wk, .ref chr, .ref shs, .ref er])), (st, .inr (3, [.ref kinds, .ref ms, .ref said, .ref signs, .ref tape, .ref avo, .ref tal, .ref wai, .int vow, .int day, .int worth, .int z])), (kinds, .inr (1, [.ref kinds_q, .int kinds_m])), (kinds_q, .inl (xI G, 6, .inl kinds_f)), (ms, .inr (1, [.ref ms_q, .int ms_m])), (ms_q, .inl (xI G, 6, .inl ms_f)), (chr, .inr (4, [.ref trace, .int u5.2.1, .int u5.2.2.1, .int u5.2.2.2.1, .int u5.2.2.2.2.1])), (trace, .inr (1, [.ref trace_q, .int u5.2.2.2.2.2.1])), (trace_q, .inl (xI G, 30, .inl u5.2.2.2.2.2.2)), (er, .inl (xI G, 7, .inl er_f))] H := hP
      have hD : va_D A [(t, .inr (7, [.ref st, .ref kp, .int hasI, .int imgs, .ref vs, .ref rd, .ref wk, .ref chr, .ref shs, .ref er])), (st, .inr (3, [.ref kinds, .ref ms, .ref said, .ref signs, .ref tape, .ref avo, .ref tal, .ref wai, .int vow, .int day, .int worth, .int z])), (kinds, .inr (1, [.ref kinds_q, .int kinds_m])), (kinds_q, .inl (xI G, 6, .inl kinds_f)), (ms, .inr (1, [.ref ms_q, .int ms_m])), (ms_q, .inl (xI G, 6, .inl ms_f)), (chr, .inr (4, [.ref trace, .int u5.2.1, .int u5.2.2.1, .int u5.2.2.2.1, .int u5.2.2.2.2.1])), (trace, .inr (1, [.ref trace_q, .int u5.2.2.2.2.2.1])), (trace_q, .inl (xI G, 30, .inl u5.2.2.2.2.2.2)), (er, .inl (xI G, 7, .inl er_f))] := hD
      refine lv_istore (lv' := [(4, .int u5.1), (0, .ref t), (1, .int br), (2, .int vo), (3, .int xx)]) hx hb dX7_voice_55 hl (by decide) rfl (fun ls hl => ?_)
      refine lv_aload_n hx hb dX7_voice_57 rfl (lv_at hl 1 rfl) ?_
      refine va_get (ci := 7) (v := .ref chr) (C := RX7) (T := TX7) (N := 10) hx hb hts (fun w h => tcons w (xin7 w h)) hown hK hP 0 rfl rfl 7 (by decide) (hts _ (tcons _ m36)) (fun _ h9 => h9) rfl dX7_voice_58 ?_
      refine va_get (ci := 4) (v := .int u5.2.1) (C := RX4) (T := TX4) (N := 5) hx hb hts (fun w h => tcons w (xin4 w h)) hown hK hP 6 rfl rfl 1 (by decide) (hts _ (tcons _ m910)) (fun _ h9 => h9) rfl dX7_voice_61 ?_
      refine lv_if_eq (tgt := 76) hx hb dX7_voice_64 (by decide) (fun c64 => ?_) (fun c64 => ?_)
      · have hF := itP c64 hF
        refine lv_iload hx hb dX7_voice_76 (lv_at hl 0 rfl) ?_
        obtain rfl := Option.some.inj hF
        rw [← hQ]
        exact W.iret (v := u5.1) hx hb hr (fun t ht hW => ⟨⟨_, (), rfl, ⟨rfl, rfl⟩, xLf hP ht⟩, hS.F ht⟩) hS.2.2 dX7_voice_78
      · have hF := itN c64 hF
        refine lv_aload_n hx hb dX7_voice_67 rfl (lv_at hl 1 rfl) ?_
        refine lv_bipush (v := 6) hx hb dX7_voice_68 (by decide) ?_
        obtain ⟨u6, e6, hF⟩ := bdS hF
        refine xEndI (xRunV (As := [.int (6 : Int32)]) (rest := []) hZ (c_X7_error G t st kp vs rd wk chr shs er hasI imgs er_f (6 : Int32) u6 e6 l H.size) m167 m168 m169 m2 m170 1 ⟨rfl, hdX7_error⟩ ⟨Nat.le_of_ble_eq_true rfl, Nat.le_of_ble_eq_true rfl⟩ ⟨rfl, rfl⟩ hP hD hS 0 7 rfl rfl rfl [0, 9] rfl rfl rfl hl.1 rfl (Nat.le_of_ble_eq_true rfl) dX7_voice_70 ⟨Nat.zero_le _, Nat.zero_le _⟩) hP hD hS hA [0, 9] rfl rfl rfl (fun H locs n6 hP hD hS => ?_)
        have hP : va_P G.1 vwCl [(t, .inr (7, [.ref st, .ref kp, .int hasI, .int imgs, .ref vs, .ref rd, .ref wk, .ref chr, .ref shs, .ref er])), (st, .inr (3, [.ref kinds, .ref ms, .ref said, .ref signs, .ref tape, .ref avo, .ref tal, .ref wai, .int vow, .int day, .int worth, .int z])), (kinds, .inr (1, [.ref kinds_q, .int kinds_m])), (kinds_q, .inl (xI G, 6, .inl kinds_f)), (ms, .inr (1, [.ref ms_q, .int ms_m])), (ms_q, .inl (xI G, 6, .inl ms_f)), (chr, .inr (4, [.ref trace, .int u5.2.1, .int u5.2.2.1, .int u5.2.2.2.1, .int u5.2.2.2.2.1])), (trace, .inr (1, [.ref trace_q, .int u5.2.2.2.2.2.1])), (trace_q, .inl (xI G, 30, .inl u5.2.2.2.2.2.2)), (er, .inl (xI G, 7, .inl u6.2))] H := hP
        have hD : va_D A [(t, .inr (7, [.ref st, .ref kp, .int hasI, .int imgs, .ref vs, .ref rd, .ref wk, .ref chr, .ref shs, .ref er])), (st, .inr (3, [.ref kinds, .ref ms, .ref said, .ref signs, .ref tape, .ref avo, .ref tal, .ref wai, .int vow, .int day, .int worth, .int z])), (kinds, .inr (1, [.ref kinds_q, .int kinds_m])), (kinds_q, .inl (xI G, 6, .inl kinds_f)), (ms, .inr (1, [.ref ms_q, .int ms_m])), (ms_q, .inl (xI G, 6, .inl ms_f)), (chr, .inr (4, [.ref trace, .int u5.2.1, .int u5.2.2.1, .int u5.2.2.2.1, .int u5.2.2.2.2.1])), (trace, .inr (1, [.ref trace_q, .int u5.2.2.2.2.2.1])), (trace_q, .inl (xI G, 30, .inl u5.2.2.2.2.2.2)), (er, .inl (xI G, 7, .inl u6.2))] := hD
        refine lv_goto (tgt := 78) hx hb dX7_voice_73 (by decide) ?_
        obtain rfl := Option.some.inj hF
        rw [← hQ]
        exact W.iret (v := u6.1) hx hb hr (fun t ht hW => ⟨⟨_, (), rfl, ⟨rfl, rfl⟩, xLf hP ht⟩, hS.F ht⟩) hS.2.2 dX7_voice_78
    · have hF := itP c14 hF
      refine lv_aload_n hx hb dX7_voice_17 rfl (lv_at hl 0 rfl) ?_
      refine lv_iconst (v := 1) hx hb dX7_voice_18 (by decide) ?_
      obtain ⟨u3, e3, hF⟩ := bdS hF
      refine xEndI (xRunV (As := [.int (1 : Int32)]) (rest := []) hZ (c_X7_error G t st kp vs rd wk chr shs er hasI imgs er_f (1 : Int32) u3 e3 l H.size) m167 m168 m169 m2 m170 1 ⟨rfl, hdX7_error⟩ ⟨Nat.le_of_ble_eq_true rfl, Nat.le_of_ble_eq_true rfl⟩ ⟨rfl, rfl⟩ hP hD hS 0 7 rfl rfl rfl [0, 9] rfl rfl rfl hl.1 rfl (Nat.le_of_ble_eq_true rfl) dX7_voice_19 ⟨Nat.zero_le _, Nat.zero_le _⟩) hP hD hS hA [0, 9] rfl rfl rfl (fun H locs n3 hP hD hS => ?_)
      have hP : va_P G.1 vwCl [(t, .inr (7, [.ref st, .ref kp, .int hasI, .int imgs, .ref vs, .ref rd, .ref wk, .ref chr, .ref shs, .ref er])), (st, .inr (3, [.ref kinds, .ref ms, .ref said, .ref signs, .ref tape, .ref avo, .ref tal, .ref wai, .int vow, .int day, .int worth, .int z])), (kinds, .inr (1, [.ref kinds_q, .int kinds_m])), (kinds_q, .inl (xI G, 6, .inl kinds_f)), (ms, .inr (1, [.ref ms_q, .int ms_m])), (ms_q, .inl (xI G, 6, .inl ms_f)), (chr, .inr (4, [.ref trace, .int parted, .int vkk, .int vkd, .int vmm])), (trace, .inr (1, [.ref trace_q, .int trace_m])), (trace_q, .inl (xI G, 30, .inl trace_f)), (er, .inl (xI G, 7, .inl u3.2))] H := hP
      have hD : va_D A [(t, .inr (7, [.ref st, .ref kp, .int hasI, .int imgs, .ref vs, .ref rd, .ref wk, .ref chr, .ref shs, .ref er])), (st, .inr (3, [.ref kinds, .ref ms, .ref said, .ref signs, .ref tape, .ref avo, .ref tal, .ref wai, .int vow, .int day, .int worth, .int z])), (kinds, .inr (1, [.ref kinds_q, .int kinds_m])), (kinds_q, .inl (xI G, 6, .inl kinds_f)), (ms, .inr (1, [.ref ms_q, .int ms_m])), (ms_q, .inl (xI G, 6, .inl ms_f)), (chr, .inr (4, [.ref trace, .int parted, .int vkk, .int vkd, .int vmm])), (trace, .inr (1, [.ref trace_q, .int trace_m])), (trace_q, .inl (xI G, 30, .inl trace_f)), (er, .inl (xI G, 7, .inl u3.2))] := hD
      obtain rfl := Option.some.inj hF
      rw [← hQ]
      exact W.iret (v := u3.1) hx hb hr (fun t ht hW => ⟨⟨_, (), rfl, ⟨rfl, rfl⟩, xLf hP ht⟩, hS.F ht⟩) hS.2.2 dX7_voice_22
def F_X7_body (trace_m : Int32) (trace_f : Nat → Int32) (er_f : Nat → Int32) (i : Int32) : Option (Int32 × (Nat → Int32)) := bd (F_X1_has trace_m i) (fun (u1 : Int32) => if u1 = 0 then (bd (F_X7_error er_f (2 : Int32)) (fun (u2 : (Int32 × (Nat → Int32))) => some (u2.1, u2.2))) else (bd (F_X1_get 30 trace_m trace_f i) (fun (u2 : Int32) => some (u2, er_f))))
theorem hdX7_body : yX7_body.cls ≠ "java/lang/invoke/MethodHandle" ∧ yX7_body.cls ≠ "java/lang/invoke/VarHandle" ∧ (parseMethodDescriptor yX7_body.desc).map (fun d => d.parameters.length) = some 1 := by decide +kernel
set_option maxHeartbeats 4000000 in
set_option maxRecDepth 100000 in
theorem c_X7_body (G : xG) (t : Nat) (st : Nat) (kp : Nat) (vs : Nat) (rd : Nat) (wk : Nat) (chr : Nat) (shs : Nat) (er : Nat) (trace : Nat) (trace_q : Nat) (hasI : Int32) (imgs : Int32) (parted : Int32) (vkk : Int32) (vkd : Int32) (vmm : Int32) (trace_m : Int32) (trace_f : Nat → Int32) (er_f : Nat → Int32) (i : Int32)  (u : (Int32 × (Nat → Int32))) (hF : F_X7_body trace_m trace_f er_f i = some u) : Ki G .int yX7_body (Cond.code yX7_body cX7_body 2 (some .int) :: TBL) { frames := 2, cells := 0, slots := 0, locals := 43 } [.ref t, .int i] [(t, .inr (7, [.ref st, .ref kp, .int hasI, .int imgs, .ref vs, .ref rd, .ref wk, .ref chr, .ref shs, .ref er])), (chr, .inr (4, [.ref trace, .int parted, .int vkk, .int vkd, .int vmm])), (trace, .inr (1, [.ref trace_q, .int trace_m])), (trace_q, .inl (xI G, 30, .inl trace_f)), (er, .inl (xI G, 7, .inl er_f))] [(t, .inr (7, [.ref st, .ref kp, .int hasI, .int imgs, .ref vs, .ref rd, .ref wk, .ref chr, .ref shs, .ref er])), (chr, .inr (4, [.ref trace, .int parted, .int vkk, .int vkd, .int vmm])), (trace, .inr (1, [.ref trace_q, .int trace_m])), (trace_q, .inl (xI G, 30, .inl trace_f)), (er, .inl (xI G, 7, .inl u.2))] u.1 := by
  intro l sz
  refine Met.ofW (cc := cX7_body) (maxL := 2) (ret := (some .int)) (by decide) rfl ?_
  intro p e s m args below meth c s₁ B hml hv
  obtain ⟨rfl, hsz, hP, hD0, hm⟩ := hv
  have hx := B.exec
  have hb := B.bytes
  have hr := B.returns
  have hts := atoms_spec (ws := Cond.code yX7_body cX7_body 2 (some .int) :: TBL) B.pre
  have hown : s.vm.findClass RX7 = some m.cls := findClass_of_methodNamed B.named
  have hlocks := B.notSynchronized
  subst hsz
  have hD := hD0.self (sz := s.heap.size)
  generalize hAe : va_A [(t, .inr (7, [.ref st, .ref kp, .int hasI, .int imgs, .ref vs, .ref rd, .ref wk, .ref chr, .ref shs, .ref er])), (chr, .inr (4, [.ref trace, .int parted, .int vkk, .int vkd, .int vmm])), (trace, .inr (1, [.ref trace_q, .int trace_m])), (trace_q, .inl (xI G, 30, .inl trace_f)), (er, .inl (xI G, 7, .inl er_f))] s.heap.size = A at hD hm ⊢
  have hA : ∀ q : Nat, s.heap.size ≤ q → A q := fun q h => by rw [← hAe]; exact Or.inr h
  have hK := hm.1
  have hZ : xAnd p m c cX7_body 2 s _ (Cond.code yX7_body cX7_body 2 (some .int) :: TBL) RX7 G A := ⟨⟨hx, hb, hml, hown, hts⟩, tcons, hA, hm⟩
  have hP : va_P G.1 vwCl [(t, .inr (7, [.ref st, .ref kp, .int hasI, .int imgs, .ref vs, .ref rd, .ref wk, .ref chr, .ref shs, .ref er])), (chr, .inr (4, [.ref trace, .int parted, .int vkk, .int vkd, .int vmm])), (trace, .inr (1, [.ref trace_q, .int trace_m])), (trace_q, .inl (xI G, 30, .inl trace_f)), (er, .inl (xI G, 7, .inl er_f))] s.heap := hP
  have hl := lv_entry ([.ref t, .int i]) (n := 2) (Nat.le_of_ble_eq_true rfl)
  rw [lg_entry_eq]
  generalize (lg_sl ([.ref t, .int i]) ++ List.replicate (2 - (lg_sl ([.ref t, .int i])).length) Slot.unset).toArray = ls at hl ⊢
  have hl : lv_has ls 2 [(0, .ref t), (1, .int i)] := hl
  generalize hQ : MQ below _ _ s _ _ _ = Q
  refine xGo (A := A) hP (fun H locs hP hS => ?_)
  unfold F_X7_body at hF
  refine lv_aload_n hx hb dX7_body_0 rfl (lv_at hl 0 rfl) ?_
  refine va_get (ci := 7) (v := .ref chr) (C := RX7) (T := TX7) (N := 10) hx hb hts (fun w h => tcons w (xin7 w h)) hown hK hP 0 rfl rfl 7 (by decide) (hts _ (tcons _ m36)) (fun _ h9 => h9) rfl dX7_body_1 ?_
  refine va_get (ci := 4) (v := .ref trace) (C := RX4) (T := TX4) (N := 5) hx hb hts (fun w h => tcons w (xin4 w h)) hown hK hP 1 rfl rfl 0 (by decide) (hts _ (tcons _ m987)) (fun _ h9 => h9) rfl dX7_body_4 ?_
  refine lv_iload_n hx hb dX7_body_7 rfl (lv_at hl 1 rfl) ?_
  obtain ⟨u1, e1, hF⟩ := bdS hF
  refine xEndI (xRunV (As := [.int i]) (rest := []) hZ (c_X1_has G trace trace_q trace_m i u1 e1 l H.size) m206 m207 m208 m49 m209 1 ⟨rfl, hdX1_has⟩ ⟨Nat.le_of_ble_eq_true rfl, Nat.le_of_ble_eq_true rfl⟩ ⟨rfl, rfl⟩ hP hD hS 2 1 rfl rfl rfl [2] rfl rfl rfl hl.1 rfl (Nat.le_of_ble_eq_true rfl) dX7_body_8 ⟨Nat.zero_le _, Nat.zero_le _⟩) hP hD hS hA [2] rfl rfl rfl (fun H locs n1 hP hD hS => ?_)
  have hP : va_P G.1 vwCl [(t, .inr (7, [.ref st, .ref kp, .int hasI, .int imgs, .ref vs, .ref rd, .ref wk, .ref chr, .ref shs, .ref er])), (chr, .inr (4, [.ref trace, .int parted, .int vkk, .int vkd, .int vmm])), (trace, .inr (1, [.ref trace_q, .int trace_m])), (trace_q, .inl (xI G, 30, .inl trace_f)), (er, .inl (xI G, 7, .inl er_f))] H := hP
  have hD : va_D A [(t, .inr (7, [.ref st, .ref kp, .int hasI, .int imgs, .ref vs, .ref rd, .ref wk, .ref chr, .ref shs, .ref er])), (chr, .inr (4, [.ref trace, .int parted, .int vkk, .int vkd, .int vmm])), (trace, .inr (1, [.ref trace_q, .int trace_m])), (trace_q, .inl (xI G, 30, .inl trace_f)), (er, .inl (xI G, 7, .inl er_f))] := hD
  refine lv_if_eq (tgt := 28) hx hb dX7_body_11 (by decide) (fun c11 => ?_) (fun c11 => ?_)
  · have hF := itP c11 hF
    refine lv_aload_n hx hb dX7_body_28 rfl (lv_at hl 0 rfl) ?_
    refine lv_iconst (v := 2) hx hb dX7_body_29 (by decide) ?_
    obtain ⟨u2, e2, hF⟩ := bdS hF
    refine xEndI (xRunV (As := [.int (2 : Int32)]) (rest := []) hZ (c_X7_error G t st kp vs rd wk chr shs er hasI imgs er_f (2 : Int32) u2 e2 l H.size) m167 m168 m169 m2 m170 1 ⟨rfl, hdX7_error⟩ ⟨Nat.le_of_ble_eq_true rfl, Nat.le_of_ble_eq_true rfl⟩ ⟨rfl, rfl⟩ hP hD hS 0 7 rfl rfl rfl [0, 4] rfl rfl rfl hl.1 rfl (Nat.le_of_ble_eq_true rfl) dX7_body_30 ⟨Nat.zero_le _, Nat.zero_le _⟩) hP hD hS hA [0, 4] rfl rfl rfl (fun H locs n2 hP hD hS => ?_)
    have hP : va_P G.1 vwCl [(t, .inr (7, [.ref st, .ref kp, .int hasI, .int imgs, .ref vs, .ref rd, .ref wk, .ref chr, .ref shs, .ref er])), (chr, .inr (4, [.ref trace, .int parted, .int vkk, .int vkd, .int vmm])), (trace, .inr (1, [.ref trace_q, .int trace_m])), (trace_q, .inl (xI G, 30, .inl trace_f)), (er, .inl (xI G, 7, .inl u2.2))] H := hP
    have hD : va_D A [(t, .inr (7, [.ref st, .ref kp, .int hasI, .int imgs, .ref vs, .ref rd, .ref wk, .ref chr, .ref shs, .ref er])), (chr, .inr (4, [.ref trace, .int parted, .int vkk, .int vkd, .int vmm])), (trace, .inr (1, [.ref trace_q, .int trace_m])), (trace_q, .inl (xI G, 30, .inl trace_f)), (er, .inl (xI G, 7, .inl u2.2))] := hD
    obtain rfl := Option.some.inj hF
    rw [← hQ]
    exact W.iret (v := u2.1) hx hb hr (fun t ht hW => ⟨⟨_, (), rfl, ⟨rfl, rfl⟩, xLf hP ht⟩, hS.F ht⟩) hS.2.2 dX7_body_33
  · have hF := itN c11 hF
    refine lv_aload_n hx hb dX7_body_14 rfl (lv_at hl 0 rfl) ?_
    refine va_get (ci := 7) (v := .ref chr) (C := RX7) (T := TX7) (N := 10) hx hb hts (fun w h => tcons w (xin7 w h)) hown hK hP 0 rfl rfl 7 (by decide) (hts _ (tcons _ m36)) (fun _ h9 => h9) rfl dX7_body_15 ?_
    refine va_get (ci := 4) (v := .ref trace) (C := RX4) (T := TX4) (N := 5) hx hb hts (fun w h => tcons w (xin4 w h)) hown hK hP 1 rfl rfl 0 (by decide) (hts _ (tcons _ m987)) (fun _ h9 => h9) rfl dX7_body_18 ?_
    refine lv_iload_n hx hb dX7_body_21 rfl (lv_at hl 1 rfl) ?_
    obtain ⟨u2, e2, hF⟩ := bdS hF
    refine xEndI (xRunV (As := [.int i]) (rest := []) hZ (c_X1_get G trace trace_q 30 trace_m trace_f i u2 e2 l H.size) m210 m130 m131 m49 m132 1 ⟨rfl, hdX1_get⟩ ⟨Nat.le_of_ble_eq_true rfl, Nat.le_of_ble_eq_true rfl⟩ ⟨rfl, rfl⟩ hP hD hS 2 1 rfl rfl rfl [2, 3] rfl rfl rfl hl.1 rfl (Nat.le_of_ble_eq_true rfl) dX7_body_22 ⟨Nat.zero_le _, Nat.zero_le _⟩) hP hD hS hA [2, 3] rfl rfl rfl (fun H locs n2 hP hD hS => ?_)
    have hP : va_P G.1 vwCl [(t, .inr (7, [.ref st, .ref kp, .int hasI, .int imgs, .ref vs, .ref rd, .ref wk, .ref chr, .ref shs, .ref er])), (chr, .inr (4, [.ref trace, .int parted, .int vkk, .int vkd, .int vmm])), (trace, .inr (1, [.ref trace_q, .int trace_m])), (trace_q, .inl (xI G, 30, .inl trace_f)), (er, .inl (xI G, 7, .inl er_f))] H := hP
    have hD : va_D A [(t, .inr (7, [.ref st, .ref kp, .int hasI, .int imgs, .ref vs, .ref rd, .ref wk, .ref chr, .ref shs, .ref er])), (chr, .inr (4, [.ref trace, .int parted, .int vkk, .int vkd, .int vmm])), (trace, .inr (1, [.ref trace_q, .int trace_m])), (trace_q, .inl (xI G, 30, .inl trace_f)), (er, .inl (xI G, 7, .inl er_f))] := hD
    refine lv_goto (tgt := 33) hx hb dX7_body_25 (by decide) ?_
    obtain rfl := Option.some.inj hF
    rw [← hQ]
    exact W.iret (v := u2) hx hb hr (fun t ht hW => ⟨⟨_, (), rfl, ⟨rfl, rfl⟩, xLf hP ht⟩, hS.F ht⟩) hS.2.2 dX7_body_33
def F_X7_sheet_in (er_f : Nat → Int32) (bits : Int32) (num_m : Int32) (num_f : Nat → Int32) (si : Int32) (wi : Int32) (k : Int32) : Option (Int32 × (Nat → Int32) × Int32 × Int32 × (Nat → Int32)) := bd (F_X7_sheetOf_in si) (fun (u1 : Unit) => bd (F_X7_isWidth wi) (fun (u2 : Int32) => if u2 = 0 then (bd (F_X7_error er_f (1 : Int32)) (fun (u3 : (Int32 × (Nat → Int32))) => some (u3.1, u3.2, bits, num_m, num_f))) else (if wi = 0 then (bd (F_X2_remake num_f (0 : Int32) (0 : Int32)) (fun (u3 : (Int32 × Int32 × (Nat → Int32))) => some ((1 : Int32), er_f, u3.1, u3.2.1, u3.2.2))) else (if 0 ≤ k then (if k ≤ (24 : Int32) then (bd (F_X2_remake num_f wi k) (fun (u3 : (Int32 × Int32 × (Nat → Int32))) => some ((1 : Int32), er_f, u3.1, u3.2.1, u3.2.2))) else (bd (F_X7_error er_f (1 : Int32)) (fun (u3 : (Int32 × (Nat → Int32))) => some (u3.1, u3.2, bits, num_m, num_f)))) else (bd (F_X7_error er_f (3 : Int32)) (fun (u3 : (Int32 × (Nat → Int32))) => some (u3.1, u3.2, bits, num_m, num_f)))))))
theorem hdX7_sheet : yX7_sheet.cls ≠ "java/lang/invoke/MethodHandle" ∧ yX7_sheet.cls ≠ "java/lang/invoke/VarHandle" ∧ (parseMethodDescriptor yX7_sheet.desc).map (fun d => d.parameters.length) = some 3 := by decide +kernel
set_option maxHeartbeats 4000000 in
set_option maxRecDepth 100000 in
theorem c_X7_sheet_in (G : xG) (t : Nat) (st : Nat) (kp : Nat) (vs : Nat) (rd : Nat) (wk : Nat) (chr : Nat) (shs : Nat) (er : Nat) (sh : Nat) (num : Nat) (num_q : Nat) (hasI : Int32) (imgs : Int32) (shs_f : Nat → Option Nat) (er_f : Nat → Int32) (bits : Int32) (num_m : Int32) (num_f : Nat → Int32) (si : Int32) (wi : Int32) (k : Int32) (hsel : shs_f si.toNatClampNeg = some sh) (u : (Int32 × (Nat → Int32) × Int32 × Int32 × (Nat → Int32))) (hF : F_X7_sheet_in er_f bits num_m num_f si wi k = some u) : Ki G .int yX7_sheet (Cond.code yX7_sheet cX7_sheet 5 (some .int) :: TBL) { frames := 4, cells := 0, slots := 0, locals := 106 } [.ref t, .int si, .int wi, .int k] [(t, .inr (7, [.ref st, .ref kp, .int hasI, .int imgs, .ref vs, .ref rd, .ref wk, .ref chr, .ref shs, .ref er])), (shs, .inl (xY G, 4, .inr (.inr (.inr (.inr shs_f))))), (er, .inl (xI G, 7, .inl er_f)), (sh, .inr (2, [.ref num, .int bits])), (num, .inr (1, [.ref num_q, .int num_m])), (num_q, .inl (xI G, 24, .inl num_f))] [(t, .inr (7, [.ref st, .ref kp, .int hasI, .int imgs, .ref vs, .ref rd, .ref wk, .ref chr, .ref shs, .ref er])), (shs, .inl (xY G, 4, .inr (.inr (.inr (.inr shs_f))))), (er, .inl (xI G, 7, .inl u.2.1)), (sh, .inr (2, [.ref num, .int u.2.2.1])), (num, .inr (1, [.ref num_q, .int u.2.2.2.1])), (num_q, .inl (xI G, 24, .inl u.2.2.2.2))] u.1 := by
  intro l sz
  refine Met.ofW (cc := cX7_sheet) (maxL := 5) (ret := (some .int)) (by decide) rfl ?_
  intro p e s m args below meth c s₁ B hml hv
  obtain ⟨rfl, hsz, hP, hD0, hm⟩ := hv
  have hx := B.exec
  have hb := B.bytes
  have hr := B.returns
  have hts := atoms_spec (ws := Cond.code yX7_sheet cX7_sheet 5 (some .int) :: TBL) B.pre
  have hown : s.vm.findClass RX7 = some m.cls := findClass_of_methodNamed B.named
  have hlocks := B.notSynchronized
  subst hsz
  have hD := hD0.self (sz := s.heap.size)
  generalize hAe : va_A [(t, .inr (7, [.ref st, .ref kp, .int hasI, .int imgs, .ref vs, .ref rd, .ref wk, .ref chr, .ref shs, .ref er])), (shs, .inl (xY G, 4, .inr (.inr (.inr (.inr shs_f))))), (er, .inl (xI G, 7, .inl er_f)), (sh, .inr (2, [.ref num, .int bits])), (num, .inr (1, [.ref num_q, .int num_m])), (num_q, .inl (xI G, 24, .inl num_f))] s.heap.size = A at hD hm ⊢
  have hA : ∀ q : Nat, s.heap.size ≤ q → A q := fun q h => by rw [← hAe]; exact Or.inr h
  have hK := hm.1
  have hZ : xAnd p m c cX7_sheet 5 s _ (Cond.code yX7_sheet cX7_sheet 5 (some .int) :: TBL) RX7 G A := ⟨⟨hx, hb, hml, hown, hts⟩, tcons, hA, hm⟩
  have hP : va_P G.1 vwCl [(t, .inr (7, [.ref st, .ref kp, .int hasI, .int imgs, .ref vs, .ref rd, .ref wk, .ref chr, .ref shs, .ref er])), (shs, .inl (xY G, 4, .inr (.inr (.inr (.inr shs_f))))), (er, .inl (xI G, 7, .inl er_f)), (sh, .inr (2, [.ref num, .int bits])), (num, .inr (1, [.ref num_q, .int num_m])), (num_q, .inl (xI G, 24, .inl num_f))] s.heap := hP
  have hl := lv_entry ([.ref t, .int si, .int wi, .int k]) (n := 5) (Nat.le_of_ble_eq_true rfl)
  rw [lg_entry_eq]
  generalize (lg_sl ([.ref t, .int si, .int wi, .int k]) ++ List.replicate (5 - (lg_sl ([.ref t, .int si, .int wi, .int k])).length) Slot.unset).toArray = ls at hl ⊢
  have hl : lv_has ls 5 [(0, .ref t), (1, .int si), (2, .int wi), (3, .int k)] := hl
  generalize hQ : MQ below _ _ s _ _ _ = Q
  refine xGo (A := A) hP (fun H locs hP hS => ?_)
  unfold F_X7_sheet_in at hF
  refine lv_aload_n hx hb dX7_sheet_0 rfl (lv_at hl 0 rfl) ?_
  refine lv_iload_n hx hb dX7_sheet_1 rfl (lv_at hl 1 rfl) ?_
  obtain ⟨u1, e1, hF⟩ := bdS hF
  refine xEndQ (xRunV (As := [.int si]) (rest := []) hZ (c_X7_sheetOf_in G t st kp vs rd wk chr shs er sh hasI imgs shs_f si hsel u1 e1 l H.size) m874 m875 m876 m2 m877 1 ⟨rfl, hdX7_sheetOf⟩ ⟨Nat.le_of_ble_eq_true rfl, Nat.le_of_ble_eq_true rfl⟩ ⟨rfl, rfl⟩ hP hD hS 0 7 rfl rfl rfl [0, 1] rfl rfl rfl hl.1 rfl (Nat.le_of_ble_eq_true rfl) dX7_sheet_2 ⟨Nat.zero_le _, Nat.zero_le _⟩) hP hD hS hA [0, 1] rfl rfl rfl (fun H locs hP hD hS => ?_)
  have hP : va_P G.1 vwCl [(t, .inr (7, [.ref st, .ref kp, .int hasI, .int imgs, .ref vs, .ref rd, .ref wk, .ref chr, .ref shs, .ref er])), (shs, .inl (xY G, 4, .inr (.inr (.inr (.inr shs_f))))), (er, .inl (xI G, 7, .inl er_f)), (sh, .inr (2, [.ref num, .int bits])), (num, .inr (1, [.ref num_q, .int num_m])), (num_q, .inl (xI G, 24, .inl num_f))] H := hP
  have hD : va_D A [(t, .inr (7, [.ref st, .ref kp, .int hasI, .int imgs, .ref vs, .ref rd, .ref wk, .ref chr, .ref shs, .ref er])), (shs, .inl (xY G, 4, .inr (.inr (.inr (.inr shs_f))))), (er, .inl (xI G, 7, .inl er_f)), (sh, .inr (2, [.ref num, .int bits])), (num, .inr (1, [.ref num_q, .int num_m])), (num_q, .inl (xI G, 24, .inl num_f))] := hD
  refine lv_astore (lv' := [(4, .ref sh), (0, .ref t), (1, .int si), (2, .int wi), (3, .int k)]) hx hb dX7_sheet_5 hl (by decide) rfl (fun ls hl => ?_)
  refine lv_aload hx hb dX7_sheet_7 (lv_at hl 0 rfl) ?_
  refine lv_ifnull hx hb dX7_sheet_9 ?_
  refine lv_iload_n hx hb dX7_sheet_12 rfl (lv_at hl 3 rfl) ?_
  obtain ⟨u2, e2, hF⟩ := bdS hF
  refine xEndI (xRunS (As := [.int wi]) (rest := []) hZ (c_X7_isWidth G wi u2 e2 l H.size) m996 m997 m2 m998 1 hdX7_isWidth ⟨Nat.le_of_ble_eq_true rfl, Nat.le_of_ble_eq_true rfl⟩ ⟨rfl, rfl⟩ hP hD hS [] rfl rfl rfl hl.1 rfl (Nat.le_of_ble_eq_true rfl) dX7_sheet_13 ⟨Nat.zero_le _, Nat.zero_le _⟩) hP hD hS hA [] rfl rfl rfl (fun H locs n2 hP hD hS => ?_)
  have hP : va_P G.1 vwCl [(t, .inr (7, [.ref st, .ref kp, .int hasI, .int imgs, .ref vs, .ref rd, .ref wk, .ref chr, .ref shs, .ref er])), (shs, .inl (xY G, 4, .inr (.inr (.inr (.inr shs_f))))), (er, .inl (xI G, 7, .inl er_f)), (sh, .inr (2, [.ref num, .int bits])), (num, .inr (1, [.ref num_q, .int num_m])), (num_q, .inl (xI G, 24, .inl num_f))] H := hP
  have hD : va_D A [(t, .inr (7, [.ref st, .ref kp, .int hasI, .int imgs, .ref vs, .ref rd, .ref wk, .ref chr, .ref shs, .ref er])), (shs, .inl (xY G, 4, .inr (.inr (.inr (.inr shs_f))))), (er, .inl (xI G, 7, .inl er_f)), (sh, .inr (2, [.ref num, .int bits])), (num, .inr (1, [.ref num_q, .int num_m])), (num_q, .inl (xI G, 24, .inl num_f))] := hD
  refine lv_if_ne (tgt := 25) hx hb dX7_sheet_16 (by decide) (fun c16 => ?_) (fun c16 => ?_)
  · have hF := itN c16 hF
    refine lv_iload_n hx hb dX7_sheet_25 rfl (lv_at hl 3 rfl) ?_
    refine lv_if_ne (tgt := 38) hx hb dX7_sheet_26 (by decide) (fun c26 => ?_) (fun c26 => ?_)
    · have hF := itN c26 hF
      refine lv_iload_n hx hb dX7_sheet_38 rfl (lv_at hl 4 rfl) ?_
      refine lv_if_ge (tgt := 48) hx hb dX7_sheet_39 (by decide) (fun c39 => ?_) (fun c39 => ?_)
      · have hF := itP c39 hF
        refine lv_iload_n hx hb dX7_sheet_48 rfl (lv_at hl 4 rfl) ?_
        refine lv_bipush (v := 24) hx hb dX7_sheet_49 (by decide) ?_
        refine lv_icmp_le (tgt := 60) hx hb dX7_sheet_51 (by decide) (fun c51 => ?_) (fun c51 => ?_)
        · have hF := itP c51 hF
          refine lv_aload hx hb dX7_sheet_60 (lv_at hl 0 rfl) ?_
          refine lv_iload_n hx hb dX7_sheet_62 rfl (lv_at hl 3 rfl) ?_
          refine lv_iload_n hx hb dX7_sheet_63 rfl (lv_at hl 4 rfl) ?_
          obtain ⟨u3, e3, hF⟩ := bdS hF
          refine xEndV (xRunV (As := [.int wi, .int k]) (rest := []) hZ (c_X2_remake G sh num num_q bits num_m num_f wi k u3 e3 l H.size) m999 m1000 m1001 m42 m1002 2 ⟨rfl, hdX2_remake⟩ ⟨Nat.le_of_ble_eq_true rfl, Nat.le_of_ble_eq_true rfl⟩ ⟨rfl, rfl⟩ hP hD hS 3 2 rfl rfl rfl [3, 4, 5] rfl rfl rfl hl.1 rfl (Nat.le_of_ble_eq_true rfl) dX7_sheet_64 ⟨Nat.zero_le _, Nat.zero_le _⟩) hP hD hS hA [3, 4, 5] rfl rfl rfl (fun H locs hP hD hS => ?_)
          have hP : va_P G.1 vwCl [(t, .inr (7, [.ref st, .ref kp, .int hasI, .int imgs, .ref vs, .ref rd, .ref wk, .ref chr, .ref shs, .ref er])), (shs, .inl (xY G, 4, .inr (.inr (.inr (.inr shs_f))))), (er, .inl (xI G, 7, .inl er_f)), (sh, .inr (2, [.ref num, .int u3.1])), (num, .inr (1, [.ref num_q, .int u3.2.1])), (num_q, .inl (xI G, 24, .inl u3.2.2))] H := hP
          have hD : va_D A [(t, .inr (7, [.ref st, .ref kp, .int hasI, .int imgs, .ref vs, .ref rd, .ref wk, .ref chr, .ref shs, .ref er])), (shs, .inl (xY G, 4, .inr (.inr (.inr (.inr shs_f))))), (er, .inl (xI G, 7, .inl er_f)), (sh, .inr (2, [.ref num, .int u3.1])), (num, .inr (1, [.ref num_q, .int u3.2.1])), (num_q, .inl (xI G, 24, .inl u3.2.2))] := hD
          refine lv_iconst (v := 1) hx hb dX7_sheet_67 (by decide) ?_
          obtain rfl := Option.some.inj hF
          rw [← hQ]
          exact W.iret (v := (1 : Int32)) hx hb hr (fun t ht hW => ⟨⟨_, (), rfl, ⟨rfl, rfl⟩, xLf hP ht⟩, hS.F ht⟩) hS.2.2 dX7_sheet_68
        · have hF := itN c51 hF
          refine lv_aload_n hx hb dX7_sheet_54 rfl (lv_at hl 1 rfl) ?_
          refine lv_iconst (v := 1) hx hb dX7_sheet_55 (by decide) ?_
          obtain ⟨u3, e3, hF⟩ := bdS hF
          refine xEndI (xRunV (As := [.int (1 : Int32)]) (rest := []) hZ (c_X7_error G t st kp vs rd wk chr shs er hasI imgs er_f (1 : Int32) u3 e3 l H.size) m167 m168 m169 m2 m170 1 ⟨rfl, hdX7_error⟩ ⟨Nat.le_of_ble_eq_true rfl, Nat.le_of_ble_eq_true rfl⟩ ⟨rfl, rfl⟩ hP hD hS 0 7 rfl rfl rfl [0, 2] rfl rfl rfl hl.1 rfl (Nat.le_of_ble_eq_true rfl) dX7_sheet_56 ⟨Nat.zero_le _, Nat.zero_le _⟩) hP hD hS hA [0, 2] rfl rfl rfl (fun H locs n3 hP hD hS => ?_)
          have hP : va_P G.1 vwCl [(t, .inr (7, [.ref st, .ref kp, .int hasI, .int imgs, .ref vs, .ref rd, .ref wk, .ref chr, .ref shs, .ref er])), (shs, .inl (xY G, 4, .inr (.inr (.inr (.inr shs_f))))), (er, .inl (xI G, 7, .inl u3.2)), (sh, .inr (2, [.ref num, .int bits])), (num, .inr (1, [.ref num_q, .int num_m])), (num_q, .inl (xI G, 24, .inl num_f))] H := hP
          have hD : va_D A [(t, .inr (7, [.ref st, .ref kp, .int hasI, .int imgs, .ref vs, .ref rd, .ref wk, .ref chr, .ref shs, .ref er])), (shs, .inl (xY G, 4, .inr (.inr (.inr (.inr shs_f))))), (er, .inl (xI G, 7, .inl u3.2)), (sh, .inr (2, [.ref num, .int bits])), (num, .inr (1, [.ref num_q, .int num_m])), (num_q, .inl (xI G, 24, .inl num_f))] := hD
          obtain rfl := Option.some.inj hF
          rw [← hQ]
          exact W.iret (v := u3.1) hx hb hr (fun t ht hW => ⟨⟨_, (), rfl, ⟨rfl, rfl⟩, xLf hP ht⟩, hS.F ht⟩) hS.2.2 dX7_sheet_59
      · have hF := itN c39 hF
        refine lv_aload_n hx hb dX7_sheet_42 rfl (lv_at hl 1 rfl) ?_
        refine lv_iconst (v := 3) hx hb dX7_sheet_43 (by decide) ?_
        obtain ⟨u3, e3, hF⟩ := bdS hF
        refine xEndI (xRunV (As := [.int (3 : Int32)]) (rest := []) hZ (c_X7_error G t st kp vs rd wk chr shs er hasI imgs er_f (3 : Int32) u3 e3 l H.size) m167 m168 m169 m2 m170 1 ⟨rfl, hdX7_error⟩ ⟨Nat.le_of_ble_eq_true rfl, Nat.le_of_ble_eq_true rfl⟩ ⟨rfl, rfl⟩ hP hD hS 0 7 rfl rfl rfl [0, 2] rfl rfl rfl hl.1 rfl (Nat.le_of_ble_eq_true rfl) dX7_sheet_44 ⟨Nat.zero_le _, Nat.zero_le _⟩) hP hD hS hA [0, 2] rfl rfl rfl (fun H locs n3 hP hD hS => ?_)
        have hP : va_P G.1 vwCl [(t, .inr (7, [.ref st, .ref kp, .int hasI, .int imgs, .ref vs, .ref rd, .ref wk, .ref chr, .ref shs, .ref er])), (shs, .inl (xY G, 4, .inr (.inr (.inr (.inr shs_f))))), (er, .inl (xI G, 7, .inl u3.2)), (sh, .inr (2, [.ref num, .int bits])), (num, .inr (1, [.ref num_q, .int num_m])), (num_q, .inl (xI G, 24, .inl num_f))] H := hP
        have hD : va_D A [(t, .inr (7, [.ref st, .ref kp, .int hasI, .int imgs, .ref vs, .ref rd, .ref wk, .ref chr, .ref shs, .ref er])), (shs, .inl (xY G, 4, .inr (.inr (.inr (.inr shs_f))))), (er, .inl (xI G, 7, .inl u3.2)), (sh, .inr (2, [.ref num, .int bits])), (num, .inr (1, [.ref num_q, .int num_m])), (num_q, .inl (xI G, 24, .inl num_f))] := hD
        obtain rfl := Option.some.inj hF
        rw [← hQ]
        exact W.iret (v := u3.1) hx hb hr (fun t ht hW => ⟨⟨_, (), rfl, ⟨rfl, rfl⟩, xLf hP ht⟩, hS.F ht⟩) hS.2.2 dX7_sheet_47
    · have hF := itP c26 hF
      refine lv_aload hx hb dX7_sheet_29 (lv_at hl 0 rfl) ?_
      refine lv_iconst (v := 0) hx hb dX7_sheet_31 (by decide) ?_
      refine lv_iconst (v := 0) hx hb dX7_sheet_32 (by decide) ?_
      obtain ⟨u3, e3, hF⟩ := bdS hF
      refine xEndV (xRunV (As := [.int (0 : Int32), .int (0 : Int32)]) (rest := []) hZ (c_X2_remake G sh num num_q bits num_m num_f (0 : Int32) (0 : Int32) u3 e3 l H.size) m999 m1000 m1001 m42 m1002 2 ⟨rfl, hdX2_remake⟩ ⟨Nat.le_of_ble_eq_true rfl, Nat.le_of_ble_eq_true rfl⟩ ⟨rfl, rfl⟩ hP hD hS 3 2 rfl rfl rfl [3, 4, 5] rfl rfl rfl hl.1 rfl (Nat.le_of_ble_eq_true rfl) dX7_sheet_33 ⟨Nat.zero_le _, Nat.zero_le _⟩) hP hD hS hA [3, 4, 5] rfl rfl rfl (fun H locs hP hD hS => ?_)
      have hP : va_P G.1 vwCl [(t, .inr (7, [.ref st, .ref kp, .int hasI, .int imgs, .ref vs, .ref rd, .ref wk, .ref chr, .ref shs, .ref er])), (shs, .inl (xY G, 4, .inr (.inr (.inr (.inr shs_f))))), (er, .inl (xI G, 7, .inl er_f)), (sh, .inr (2, [.ref num, .int u3.1])), (num, .inr (1, [.ref num_q, .int u3.2.1])), (num_q, .inl (xI G, 24, .inl u3.2.2))] H := hP
      have hD : va_D A [(t, .inr (7, [.ref st, .ref kp, .int hasI, .int imgs, .ref vs, .ref rd, .ref wk, .ref chr, .ref shs, .ref er])), (shs, .inl (xY G, 4, .inr (.inr (.inr (.inr shs_f))))), (er, .inl (xI G, 7, .inl er_f)), (sh, .inr (2, [.ref num, .int u3.1])), (num, .inr (1, [.ref num_q, .int u3.2.1])), (num_q, .inl (xI G, 24, .inl u3.2.2))] := hD
      refine lv_iconst (v := 1) hx hb dX7_sheet_36 (by decide) ?_
      obtain rfl := Option.some.inj hF
      rw [← hQ]
      exact W.iret (v := (1 : Int32)) hx hb hr (fun t ht hW => ⟨⟨_, (), rfl, ⟨rfl, rfl⟩, xLf hP ht⟩, hS.F ht⟩) hS.2.2 dX7_sheet_37
  · have hF := itP c16 hF
    refine lv_aload_n hx hb dX7_sheet_19 rfl (lv_at hl 1 rfl) ?_
    refine lv_iconst (v := 1) hx hb dX7_sheet_20 (by decide) ?_
    obtain ⟨u3, e3, hF⟩ := bdS hF
    refine xEndI (xRunV (As := [.int (1 : Int32)]) (rest := []) hZ (c_X7_error G t st kp vs rd wk chr shs er hasI imgs er_f (1 : Int32) u3 e3 l H.size) m167 m168 m169 m2 m170 1 ⟨rfl, hdX7_error⟩ ⟨Nat.le_of_ble_eq_true rfl, Nat.le_of_ble_eq_true rfl⟩ ⟨rfl, rfl⟩ hP hD hS 0 7 rfl rfl rfl [0, 2] rfl rfl rfl hl.1 rfl (Nat.le_of_ble_eq_true rfl) dX7_sheet_21 ⟨Nat.zero_le _, Nat.zero_le _⟩) hP hD hS hA [0, 2] rfl rfl rfl (fun H locs n3 hP hD hS => ?_)
    have hP : va_P G.1 vwCl [(t, .inr (7, [.ref st, .ref kp, .int hasI, .int imgs, .ref vs, .ref rd, .ref wk, .ref chr, .ref shs, .ref er])), (shs, .inl (xY G, 4, .inr (.inr (.inr (.inr shs_f))))), (er, .inl (xI G, 7, .inl u3.2)), (sh, .inr (2, [.ref num, .int bits])), (num, .inr (1, [.ref num_q, .int num_m])), (num_q, .inl (xI G, 24, .inl num_f))] H := hP
    have hD : va_D A [(t, .inr (7, [.ref st, .ref kp, .int hasI, .int imgs, .ref vs, .ref rd, .ref wk, .ref chr, .ref shs, .ref er])), (shs, .inl (xY G, 4, .inr (.inr (.inr (.inr shs_f))))), (er, .inl (xI G, 7, .inl u3.2)), (sh, .inr (2, [.ref num, .int bits])), (num, .inr (1, [.ref num_q, .int num_m])), (num_q, .inl (xI G, 24, .inl num_f))] := hD
    obtain rfl := Option.some.inj hF
    rw [← hQ]
    exact W.iret (v := u3.1) hx hb hr (fun t ht hW => ⟨⟨_, (), rfl, ⟨rfl, rfl⟩, xLf hP ht⟩, hS.F ht⟩) hS.2.2 dX7_sheet_24
def F_X7_sheet_out (er_f : Nat → Int32) (si : Int32) : Option (Int32 × (Nat → Int32)) := bd (F_X7_sheetOf_out si) (fun (u1 : Unit) => bd (F_X7_error er_f (1 : Int32)) (fun (u2 : (Int32 × (Nat → Int32))) => some (u2.1, u2.2)))
set_option maxHeartbeats 4000000 in
set_option maxRecDepth 100000 in
theorem c_X7_sheet_out (G : xG) (t : Nat) (st : Nat) (kp : Nat) (vs : Nat) (rd : Nat) (wk : Nat) (chr : Nat) (shs : Nat) (er : Nat) (hasI : Int32) (imgs : Int32) (shs_f : Nat → Option Nat) (er_f : Nat → Int32) (si : Int32) (wi : Int32) (k : Int32)  (u : (Int32 × (Nat → Int32))) (hF : F_X7_sheet_out er_f si = some u) : Ki G .int yX7_sheet (Cond.code yX7_sheet cX7_sheet 5 (some .int) :: TBL) { frames := 2, cells := 0, slots := 0, locals := 43 } [.ref t, .int si, .int wi, .int k] [(t, .inr (7, [.ref st, .ref kp, .int hasI, .int imgs, .ref vs, .ref rd, .ref wk, .ref chr, .ref shs, .ref er])), (shs, .inl (xY G, 4, .inr (.inr (.inr (.inr shs_f))))), (er, .inl (xI G, 7, .inl er_f))] [(t, .inr (7, [.ref st, .ref kp, .int hasI, .int imgs, .ref vs, .ref rd, .ref wk, .ref chr, .ref shs, .ref er])), (shs, .inl (xY G, 4, .inr (.inr (.inr (.inr shs_f))))), (er, .inl (xI G, 7, .inl u.2))] u.1 := by
  intro l sz
  refine Met.ofW (cc := cX7_sheet) (maxL := 5) (ret := (some .int)) (by decide) rfl ?_
  intro p e s m args below meth c s₁ B hml hv
  obtain ⟨rfl, hsz, hP, hD0, hm⟩ := hv
  have hx := B.exec
  have hb := B.bytes
  have hr := B.returns
  have hts := atoms_spec (ws := Cond.code yX7_sheet cX7_sheet 5 (some .int) :: TBL) B.pre
  have hown : s.vm.findClass RX7 = some m.cls := findClass_of_methodNamed B.named
  have hlocks := B.notSynchronized
  subst hsz
  have hD := hD0.self (sz := s.heap.size)
  generalize hAe : va_A [(t, .inr (7, [.ref st, .ref kp, .int hasI, .int imgs, .ref vs, .ref rd, .ref wk, .ref chr, .ref shs, .ref er])), (shs, .inl (xY G, 4, .inr (.inr (.inr (.inr shs_f))))), (er, .inl (xI G, 7, .inl er_f))] s.heap.size = A at hD hm ⊢
  have hA : ∀ q : Nat, s.heap.size ≤ q → A q := fun q h => by rw [← hAe]; exact Or.inr h
  have hK := hm.1
  have hZ : xAnd p m c cX7_sheet 5 s _ (Cond.code yX7_sheet cX7_sheet 5 (some .int) :: TBL) RX7 G A := ⟨⟨hx, hb, hml, hown, hts⟩, tcons, hA, hm⟩
  have hP : va_P G.1 vwCl [(t, .inr (7, [.ref st, .ref kp, .int hasI, .int imgs, .ref vs, .ref rd, .ref wk, .ref chr, .ref shs, .ref er])), (shs, .inl (xY G, 4, .inr (.inr (.inr (.inr shs_f))))), (er, .inl (xI G, 7, .inl er_f))] s.heap := hP
  have hl := lv_entry ([.ref t, .int si, .int wi, .int k]) (n := 5) (Nat.le_of_ble_eq_true rfl)
  rw [lg_entry_eq]
  generalize (lg_sl ([.ref t, .int si, .int wi, .int k]) ++ List.replicate (5 - (lg_sl ([.ref t, .int si, .int wi, .int k])).length) Slot.unset).toArray = ls at hl ⊢
  have hl : lv_has ls 5 [(0, .ref t), (1, .int si), (2, .int wi), (3, .int k)] := hl
  generalize hQ : MQ below _ _ s _ _ _ = Q
  refine xGo (A := A) hP (fun H locs hP hS => ?_)
  unfold F_X7_sheet_out at hF
  refine lv_aload_n hx hb dX7_sheet_0 rfl (lv_at hl 0 rfl) ?_
  refine lv_iload_n hx hb dX7_sheet_1 rfl (lv_at hl 1 rfl) ?_
  obtain ⟨u1, e1, hF⟩ := bdS hF
  refine xEndQ (xRunV (As := [.int si]) (rest := []) hZ (c_X7_sheetOf_out G t st kp vs rd wk chr shs er hasI imgs shs_f si u1 e1 l H.size) m874 m875 m876 m2 m877 1 ⟨rfl, hdX7_sheetOf⟩ ⟨Nat.le_of_ble_eq_true rfl, Nat.le_of_ble_eq_true rfl⟩ ⟨rfl, rfl⟩ hP hD hS 0 7 rfl rfl rfl [0, 1] rfl rfl rfl hl.1 rfl (Nat.le_of_ble_eq_true rfl) dX7_sheet_2 ⟨Nat.zero_le _, Nat.zero_le _⟩) hP hD hS hA [0, 1] rfl rfl rfl (fun H locs hP hD hS => ?_)
  have hP : va_P G.1 vwCl [(t, .inr (7, [.ref st, .ref kp, .int hasI, .int imgs, .ref vs, .ref rd, .ref wk, .ref chr, .ref shs, .ref er])), (shs, .inl (xY G, 4, .inr (.inr (.inr (.inr shs_f))))), (er, .inl (xI G, 7, .inl er_f))] H := hP
  have hD : va_D A [(t, .inr (7, [.ref st, .ref kp, .int hasI, .int imgs, .ref vs, .ref rd, .ref wk, .ref chr, .ref shs, .ref er])), (shs, .inl (xY G, 4, .inr (.inr (.inr (.inr shs_f))))), (er, .inl (xI G, 7, .inl er_f))] := hD
  refine lv_astoreN (lv' := [(4, .null), (0, .ref t), (1, .int si), (2, .int wi), (3, .int k)]) hx hb dX7_sheet_5 hl (by decide) rfl (fun ls hl => ?_)
  refine lv_aloadN hx hb dX7_sheet_7 (lv_at hl 0 rfl) ?_
  refine lv_ifnullN (tgt := 19) hx hb dX7_sheet_9 (by decide) ?_
  refine lv_aload_n hx hb dX7_sheet_19 rfl (lv_at hl 1 rfl) ?_
  refine lv_iconst (v := 1) hx hb dX7_sheet_20 (by decide) ?_
  obtain ⟨u2, e2, hF⟩ := bdS hF
  refine xEndI (xRunV (As := [.int (1 : Int32)]) (rest := []) hZ (c_X7_error G t st kp vs rd wk chr shs er hasI imgs er_f (1 : Int32) u2 e2 l H.size) m167 m168 m169 m2 m170 1 ⟨rfl, hdX7_error⟩ ⟨Nat.le_of_ble_eq_true rfl, Nat.le_of_ble_eq_true rfl⟩ ⟨rfl, rfl⟩ hP hD hS 0 7 rfl rfl rfl [0, 2] rfl rfl rfl hl.1 rfl (Nat.le_of_ble_eq_true rfl) dX7_sheet_21 ⟨Nat.zero_le _, Nat.zero_le _⟩) hP hD hS hA [0, 2] rfl rfl rfl (fun H locs n2 hP hD hS => ?_)
  have hP : va_P G.1 vwCl [(t, .inr (7, [.ref st, .ref kp, .int hasI, .int imgs, .ref vs, .ref rd, .ref wk, .ref chr, .ref shs, .ref er])), (shs, .inl (xY G, 4, .inr (.inr (.inr (.inr shs_f))))), (er, .inl (xI G, 7, .inl u2.2))] H := hP
  have hD : va_D A [(t, .inr (7, [.ref st, .ref kp, .int hasI, .int imgs, .ref vs, .ref rd, .ref wk, .ref chr, .ref shs, .ref er])), (shs, .inl (xY G, 4, .inr (.inr (.inr (.inr shs_f))))), (er, .inl (xI G, 7, .inl u2.2))] := hD
  obtain rfl := Option.some.inj hF
  rw [← hQ]
  exact W.iret (v := u2.1) hx hb hr (fun t ht hW => ⟨⟨_, (), rfl, ⟨rfl, rfl⟩, xLf hP ht⟩, hS.F ht⟩) hS.2.2 dX7_sheet_24
def F_X7_put_in (er_f : Nat → Int32) (bits : Int32) (num_m : Int32) (num_f : Nat → Int32) (si : Int32) (i : Int32) (vo : Int32) : Option (Int32 × (Nat → Int32) × (Nat → Int32)) := bd (F_X7_sheetOf_in si) (fun (u1 : Unit) => bd (F_X2_isMissing bits) (fun (u2 : Int32) => if u2 = 0 then (bd (F_X1_has num_m i) (fun (u3 : Int32) => if u3 = 0 then (bd (F_X7_error er_f (1 : Int32)) (fun (u4 : (Int32 × (Nat → Int32))) => some (u4.1, u4.2, num_f))) else (bd (F_X2_lowestBits bits vo) (fun (u4 : Int32) => bd (F_X1_set 24 num_m num_f i u4) (fun (u5 : (Nat → Int32)) => some ((1 : Int32), er_f, u5)))))) else (bd (F_X7_error er_f (2 : Int32)) (fun (u3 : (Int32 × (Nat → Int32))) => some (u3.1, u3.2, num_f)))))
theorem hdX7_put : yX7_put.cls ≠ "java/lang/invoke/MethodHandle" ∧ yX7_put.cls ≠ "java/lang/invoke/VarHandle" ∧ (parseMethodDescriptor yX7_put.desc).map (fun d => d.parameters.length) = some 3 := by decide +kernel
set_option maxHeartbeats 4000000 in
set_option maxRecDepth 100000 in
theorem c_X7_put_in (G : xG) (t : Nat) (st : Nat) (kp : Nat) (vs : Nat) (rd : Nat) (wk : Nat) (chr : Nat) (shs : Nat) (er : Nat) (sh : Nat) (num : Nat) (num_q : Nat) (hasI : Int32) (imgs : Int32) (shs_f : Nat → Option Nat) (er_f : Nat → Int32) (bits : Int32) (num_m : Int32) (num_f : Nat → Int32) (si : Int32) (i : Int32) (vo : Int32) (hsel : shs_f si.toNatClampNeg = some sh) (u : (Int32 × (Nat → Int32) × (Nat → Int32))) (hF : F_X7_put_in er_f bits num_m num_f si i vo = some u) : Ki G .int yX7_put (Cond.code yX7_put cX7_put 5 (some .int) :: TBL) { frames := 2, cells := 0, slots := 0, locals := 43 } [.ref t, .int si, .int i, .int vo] [(t, .inr (7, [.ref st, .ref kp, .int hasI, .int imgs, .ref vs, .ref rd, .ref wk, .ref chr, .ref shs, .ref er])), (shs, .inl (xY G, 4, .inr (.inr (.inr (.inr shs_f))))), (er, .inl (xI G, 7, .inl er_f)), (sh, .inr (2, [.ref num, .int bits])), (num, .inr (1, [.ref num_q, .int num_m])), (num_q, .inl (xI G, 24, .inl num_f))] [(t, .inr (7, [.ref st, .ref kp, .int hasI, .int imgs, .ref vs, .ref rd, .ref wk, .ref chr, .ref shs, .ref er])), (shs, .inl (xY G, 4, .inr (.inr (.inr (.inr shs_f))))), (er, .inl (xI G, 7, .inl u.2.1)), (sh, .inr (2, [.ref num, .int bits])), (num, .inr (1, [.ref num_q, .int num_m])), (num_q, .inl (xI G, 24, .inl u.2.2))] u.1 := by
  intro l sz
  refine Met.ofW (cc := cX7_put) (maxL := 5) (ret := (some .int)) (by decide) rfl ?_
  intro p e s m args below meth c s₁ B hml hv
  obtain ⟨rfl, hsz, hP, hD0, hm⟩ := hv
  have hx := B.exec
  have hb := B.bytes
  have hr := B.returns
  have hts := atoms_spec (ws := Cond.code yX7_put cX7_put 5 (some .int) :: TBL) B.pre
  have hown : s.vm.findClass RX7 = some m.cls := findClass_of_methodNamed B.named
  have hlocks := B.notSynchronized
  subst hsz
  have hD := hD0.self (sz := s.heap.size)
  generalize hAe : va_A [(t, .inr (7, [.ref st, .ref kp, .int hasI, .int imgs, .ref vs, .ref rd, .ref wk, .ref chr, .ref shs, .ref er])), (shs, .inl (xY G, 4, .inr (.inr (.inr (.inr shs_f))))), (er, .inl (xI G, 7, .inl er_f)), (sh, .inr (2, [.ref num, .int bits])), (num, .inr (1, [.ref num_q, .int num_m])), (num_q, .inl (xI G, 24, .inl num_f))] s.heap.size = A at hD hm ⊢
  have hA : ∀ q : Nat, s.heap.size ≤ q → A q := fun q h => by rw [← hAe]; exact Or.inr h
  have hK := hm.1
  have hZ : xAnd p m c cX7_put 5 s _ (Cond.code yX7_put cX7_put 5 (some .int) :: TBL) RX7 G A := ⟨⟨hx, hb, hml, hown, hts⟩, tcons, hA, hm⟩
  have hP : va_P G.1 vwCl [(t, .inr (7, [.ref st, .ref kp, .int hasI, .int imgs, .ref vs, .ref rd, .ref wk, .ref chr, .ref shs, .ref er])), (shs, .inl (xY G, 4, .inr (.inr (.inr (.inr shs_f))))), (er, .inl (xI G, 7, .inl er_f)), (sh, .inr (2, [.ref num, .int bits])), (num, .inr (1, [.ref num_q, .int num_m])), (num_q, .inl (xI G, 24, .inl num_f))] s.heap := hP
  have hl := lv_entry ([.ref t, .int si, .int i, .int vo]) (n := 5) (Nat.le_of_ble_eq_true rfl)
  rw [lg_entry_eq]
  generalize (lg_sl ([.ref t, .int si, .int i, .int vo]) ++ List.replicate (5 - (lg_sl ([.ref t, .int si, .int i, .int vo])).length) Slot.unset).toArray = ls at hl ⊢
  have hl : lv_has ls 5 [(0, .ref t), (1, .int si), (2, .int i), (3, .int vo)] := hl
  generalize hQ : MQ below _ _ s _ _ _ = Q
  refine xGo (A := A) hP (fun H locs hP hS => ?_)
  unfold F_X7_put_in at hF
  refine lv_aload_n hx hb dX7_put_0 rfl (lv_at hl 0 rfl) ?_
  refine lv_iload_n hx hb dX7_put_1 rfl (lv_at hl 1 rfl) ?_
  obtain ⟨u1, e1, hF⟩ := bdS hF
  refine xEndQ (xRunV (As := [.int si]) (rest := []) hZ (c_X7_sheetOf_in G t st kp vs rd wk chr shs er sh hasI imgs shs_f si hsel u1 e1 l H.size) m874 m875 m876 m2 m877 1 ⟨rfl, hdX7_sheetOf⟩ ⟨Nat.le_of_ble_eq_true rfl, Nat.le_of_ble_eq_true rfl⟩ ⟨rfl, rfl⟩ hP hD hS 0 7 rfl rfl rfl [0, 1] rfl rfl rfl hl.1 rfl (Nat.le_of_ble_eq_true rfl) dX7_put_2 ⟨Nat.zero_le _, Nat.zero_le _⟩) hP hD hS hA [0, 1] rfl rfl rfl (fun H locs hP hD hS => ?_)
  have hP : va_P G.1 vwCl [(t, .inr (7, [.ref st, .ref kp, .int hasI, .int imgs, .ref vs, .ref rd, .ref wk, .ref chr, .ref shs, .ref er])), (shs, .inl (xY G, 4, .inr (.inr (.inr (.inr shs_f))))), (er, .inl (xI G, 7, .inl er_f)), (sh, .inr (2, [.ref num, .int bits])), (num, .inr (1, [.ref num_q, .int num_m])), (num_q, .inl (xI G, 24, .inl num_f))] H := hP
  have hD : va_D A [(t, .inr (7, [.ref st, .ref kp, .int hasI, .int imgs, .ref vs, .ref rd, .ref wk, .ref chr, .ref shs, .ref er])), (shs, .inl (xY G, 4, .inr (.inr (.inr (.inr shs_f))))), (er, .inl (xI G, 7, .inl er_f)), (sh, .inr (2, [.ref num, .int bits])), (num, .inr (1, [.ref num_q, .int num_m])), (num_q, .inl (xI G, 24, .inl num_f))] := hD
  refine lv_astore (lv' := [(4, .ref sh), (0, .ref t), (1, .int si), (2, .int i), (3, .int vo)]) hx hb dX7_put_5 hl (by decide) rfl (fun ls hl => ?_)
  refine lv_aload hx hb dX7_put_7 (lv_at hl 0 rfl) ?_
  refine lv_ifnonnull (tgt := 18) hx hb dX7_put_9 (by decide) ?_
  refine lv_aload hx hb dX7_put_18 (lv_at hl 0 rfl) ?_
  obtain ⟨u2, e2, hF⟩ := bdS hF
  refine xEndI (xRunV (As := []) (rest := []) hZ (c_X2_isMissing G sh num bits u2 e2 l H.size) m878 m879 m880 m42 m881 0 ⟨rfl, hdX2_isMissing⟩ ⟨Nat.le_of_ble_eq_true rfl, Nat.le_of_ble_eq_true rfl⟩ ⟨rfl, rfl⟩ hP hD hS 3 2 rfl rfl rfl [3] rfl rfl rfl hl.1 rfl (Nat.le_of_ble_eq_true rfl) dX7_put_20 ⟨Nat.zero_le _, Nat.zero_le _⟩) hP hD hS hA [3] rfl rfl rfl (fun H locs n2 hP hD hS => ?_)
  have hP : va_P G.1 vwCl [(t, .inr (7, [.ref st, .ref kp, .int hasI, .int imgs, .ref vs, .ref rd, .ref wk, .ref chr, .ref shs, .ref er])), (shs, .inl (xY G, 4, .inr (.inr (.inr (.inr shs_f))))), (er, .inl (xI G, 7, .inl er_f)), (sh, .inr (2, [.ref num, .int bits])), (num, .inr (1, [.ref num_q, .int num_m])), (num_q, .inl (xI G, 24, .inl num_f))] H := hP
  have hD : va_D A [(t, .inr (7, [.ref st, .ref kp, .int hasI, .int imgs, .ref vs, .ref rd, .ref wk, .ref chr, .ref shs, .ref er])), (shs, .inl (xY G, 4, .inr (.inr (.inr (.inr shs_f))))), (er, .inl (xI G, 7, .inl er_f)), (sh, .inr (2, [.ref num, .int bits])), (num, .inr (1, [.ref num_q, .int num_m])), (num_q, .inl (xI G, 24, .inl num_f))] := hD
  refine lv_if_eq (tgt := 32) hx hb dX7_put_23 (by decide) (fun c23 => ?_) (fun c23 => ?_)
  · have hF := itP c23 hF
    refine lv_aload hx hb dX7_put_32 (lv_at hl 0 rfl) ?_
    refine va_get (ci := 2) (v := .ref num) (C := RX2) (T := TX2) (N := 2) hx hb hts (fun w h => tcons w (xin2 w h)) hown hK hP 3 rfl rfl 0 (by decide) (hts _ (tcons _ m873)) (fun _ h9 => h9) rfl dX7_put_34 ?_
    refine lv_iload_n hx hb dX7_put_37 rfl (lv_at hl 3 rfl) ?_
    obtain ⟨u3, e3, hF⟩ := bdS hF
    refine xEndI (xRunV (As := [.int i]) (rest := []) hZ (c_X1_has G num num_q num_m i u3 e3 l H.size) m206 m207 m208 m49 m209 1 ⟨rfl, hdX1_has⟩ ⟨Nat.le_of_ble_eq_true rfl, Nat.le_of_ble_eq_true rfl⟩ ⟨rfl, rfl⟩ hP hD hS 4 1 rfl rfl rfl [4] rfl rfl rfl hl.1 rfl (Nat.le_of_ble_eq_true rfl) dX7_put_38 ⟨Nat.zero_le _, Nat.zero_le _⟩) hP hD hS hA [4] rfl rfl rfl (fun H locs n3 hP hD hS => ?_)
    have hP : va_P G.1 vwCl [(t, .inr (7, [.ref st, .ref kp, .int hasI, .int imgs, .ref vs, .ref rd, .ref wk, .ref chr, .ref shs, .ref er])), (shs, .inl (xY G, 4, .inr (.inr (.inr (.inr shs_f))))), (er, .inl (xI G, 7, .inl er_f)), (sh, .inr (2, [.ref num, .int bits])), (num, .inr (1, [.ref num_q, .int num_m])), (num_q, .inl (xI G, 24, .inl num_f))] H := hP
    have hD : va_D A [(t, .inr (7, [.ref st, .ref kp, .int hasI, .int imgs, .ref vs, .ref rd, .ref wk, .ref chr, .ref shs, .ref er])), (shs, .inl (xY G, 4, .inr (.inr (.inr (.inr shs_f))))), (er, .inl (xI G, 7, .inl er_f)), (sh, .inr (2, [.ref num, .int bits])), (num, .inr (1, [.ref num_q, .int num_m])), (num_q, .inl (xI G, 24, .inl num_f))] := hD
    refine lv_if_ne (tgt := 50) hx hb dX7_put_41 (by decide) (fun c41 => ?_) (fun c41 => ?_)
    · have hF := itN c41 hF
      refine lv_aload hx hb dX7_put_50 (lv_at hl 0 rfl) ?_
      refine va_get (ci := 2) (v := .ref num) (C := RX2) (T := TX2) (N := 2) hx hb hts (fun w h => tcons w (xin2 w h)) hown hK hP 3 rfl rfl 0 (by decide) (hts _ (tcons _ m873)) (fun _ h9 => h9) rfl dX7_put_52 ?_
      refine lv_iload_n hx hb dX7_put_55 rfl (lv_at hl 3 rfl) ?_
      refine lv_aload hx hb dX7_put_56 (lv_at hl 0 rfl) ?_
      refine lv_iload_n hx hb dX7_put_58 rfl (lv_at hl 4 rfl) ?_
      obtain ⟨u4, e4, hF⟩ := bdS hF
      refine xEndI (xRunV (As := [.int vo]) (rest := [.int i, .ref num]) hZ (c_X2_lowestBits G sh num bits vo u4 e4 l H.size) m1016 m1017 m1018 m42 m1019 1 ⟨rfl, hdX2_lowestBits⟩ ⟨Nat.le_of_ble_eq_true rfl, Nat.le_of_ble_eq_true rfl⟩ ⟨rfl, rfl⟩ hP hD hS 3 2 rfl rfl rfl [3] rfl rfl rfl hl.1 rfl (Nat.le_of_ble_eq_true rfl) dX7_put_59 ⟨Nat.zero_le _, Nat.zero_le _⟩) hP hD hS hA [3] rfl rfl rfl (fun H locs n4 hP hD hS => ?_)
      have hP : va_P G.1 vwCl [(t, .inr (7, [.ref st, .ref kp, .int hasI, .int imgs, .ref vs, .ref rd, .ref wk, .ref chr, .ref shs, .ref er])), (shs, .inl (xY G, 4, .inr (.inr (.inr (.inr shs_f))))), (er, .inl (xI G, 7, .inl er_f)), (sh, .inr (2, [.ref num, .int bits])), (num, .inr (1, [.ref num_q, .int num_m])), (num_q, .inl (xI G, 24, .inl num_f))] H := hP
      have hD : va_D A [(t, .inr (7, [.ref st, .ref kp, .int hasI, .int imgs, .ref vs, .ref rd, .ref wk, .ref chr, .ref shs, .ref er])), (shs, .inl (xY G, 4, .inr (.inr (.inr (.inr shs_f))))), (er, .inl (xI G, 7, .inl er_f)), (sh, .inr (2, [.ref num, .int bits])), (num, .inr (1, [.ref num_q, .int num_m])), (num_q, .inl (xI G, 24, .inl num_f))] := hD
      obtain ⟨u5, e5, hF⟩ := bdS hF
      refine xEndV (xRunV (As := [.int i, .int u4]) (rest := []) hZ (c_X1_set G num num_q 24 num_m num_f i u4 u5 e5 l H.size) m343 m344 m345 m49 m346 2 ⟨rfl, hdX1_set⟩ ⟨Nat.le_of_ble_eq_true rfl, Nat.le_of_ble_eq_true rfl⟩ ⟨rfl, rfl⟩ hP hD hS 4 1 rfl rfl rfl [4, 5] rfl rfl rfl hl.1 rfl (Nat.le_of_ble_eq_true rfl) dX7_put_62 ⟨Nat.zero_le _, Nat.zero_le _⟩) hP hD hS hA [4, 5] rfl rfl rfl (fun H locs hP hD hS => ?_)
      have hP : va_P G.1 vwCl [(t, .inr (7, [.ref st, .ref kp, .int hasI, .int imgs, .ref vs, .ref rd, .ref wk, .ref chr, .ref shs, .ref er])), (shs, .inl (xY G, 4, .inr (.inr (.inr (.inr shs_f))))), (er, .inl (xI G, 7, .inl er_f)), (sh, .inr (2, [.ref num, .int bits])), (num, .inr (1, [.ref num_q, .int num_m])), (num_q, .inl (xI G, 24, .inl u5))] H := hP
      have hD : va_D A [(t, .inr (7, [.ref st, .ref kp, .int hasI, .int imgs, .ref vs, .ref rd, .ref wk, .ref chr, .ref shs, .ref er])), (shs, .inl (xY G, 4, .inr (.inr (.inr (.inr shs_f))))), (er, .inl (xI G, 7, .inl er_f)), (sh, .inr (2, [.ref num, .int bits])), (num, .inr (1, [.ref num_q, .int num_m])), (num_q, .inl (xI G, 24, .inl u5))] := hD
      refine lv_iconst (v := 1) hx hb dX7_put_65 (by decide) ?_
      obtain rfl := Option.some.inj hF
      rw [← hQ]
      exact W.iret (v := (1 : Int32)) hx hb hr (fun t ht hW => ⟨⟨_, (), rfl, ⟨rfl, rfl⟩, xLf hP ht⟩, hS.F ht⟩) hS.2.2 dX7_put_66
    · have hF := itP c41 hF
      refine lv_aload_n hx hb dX7_put_44 rfl (lv_at hl 1 rfl) ?_
      refine lv_iconst (v := 1) hx hb dX7_put_45 (by decide) ?_
      obtain ⟨u4, e4, hF⟩ := bdS hF
      refine xEndI (xRunV (As := [.int (1 : Int32)]) (rest := []) hZ (c_X7_error G t st kp vs rd wk chr shs er hasI imgs er_f (1 : Int32) u4 e4 l H.size) m167 m168 m169 m2 m170 1 ⟨rfl, hdX7_error⟩ ⟨Nat.le_of_ble_eq_true rfl, Nat.le_of_ble_eq_true rfl⟩ ⟨rfl, rfl⟩ hP hD hS 0 7 rfl rfl rfl [0, 2] rfl rfl rfl hl.1 rfl (Nat.le_of_ble_eq_true rfl) dX7_put_46 ⟨Nat.zero_le _, Nat.zero_le _⟩) hP hD hS hA [0, 2] rfl rfl rfl (fun H locs n4 hP hD hS => ?_)
      have hP : va_P G.1 vwCl [(t, .inr (7, [.ref st, .ref kp, .int hasI, .int imgs, .ref vs, .ref rd, .ref wk, .ref chr, .ref shs, .ref er])), (shs, .inl (xY G, 4, .inr (.inr (.inr (.inr shs_f))))), (er, .inl (xI G, 7, .inl u4.2)), (sh, .inr (2, [.ref num, .int bits])), (num, .inr (1, [.ref num_q, .int num_m])), (num_q, .inl (xI G, 24, .inl num_f))] H := hP
      have hD : va_D A [(t, .inr (7, [.ref st, .ref kp, .int hasI, .int imgs, .ref vs, .ref rd, .ref wk, .ref chr, .ref shs, .ref er])), (shs, .inl (xY G, 4, .inr (.inr (.inr (.inr shs_f))))), (er, .inl (xI G, 7, .inl u4.2)), (sh, .inr (2, [.ref num, .int bits])), (num, .inr (1, [.ref num_q, .int num_m])), (num_q, .inl (xI G, 24, .inl num_f))] := hD
      obtain rfl := Option.some.inj hF
      rw [← hQ]
      exact W.iret (v := u4.1) hx hb hr (fun t ht hW => ⟨⟨_, (), rfl, ⟨rfl, rfl⟩, xLf hP ht⟩, hS.F ht⟩) hS.2.2 dX7_put_49
  · have hF := itN c23 hF
    refine lv_aload_n hx hb dX7_put_26 rfl (lv_at hl 1 rfl) ?_
    refine lv_iconst (v := 2) hx hb dX7_put_27 (by decide) ?_
    obtain ⟨u3, e3, hF⟩ := bdS hF
    refine xEndI (xRunV (As := [.int (2 : Int32)]) (rest := []) hZ (c_X7_error G t st kp vs rd wk chr shs er hasI imgs er_f (2 : Int32) u3 e3 l H.size) m167 m168 m169 m2 m170 1 ⟨rfl, hdX7_error⟩ ⟨Nat.le_of_ble_eq_true rfl, Nat.le_of_ble_eq_true rfl⟩ ⟨rfl, rfl⟩ hP hD hS 0 7 rfl rfl rfl [0, 2] rfl rfl rfl hl.1 rfl (Nat.le_of_ble_eq_true rfl) dX7_put_28 ⟨Nat.zero_le _, Nat.zero_le _⟩) hP hD hS hA [0, 2] rfl rfl rfl (fun H locs n3 hP hD hS => ?_)
    have hP : va_P G.1 vwCl [(t, .inr (7, [.ref st, .ref kp, .int hasI, .int imgs, .ref vs, .ref rd, .ref wk, .ref chr, .ref shs, .ref er])), (shs, .inl (xY G, 4, .inr (.inr (.inr (.inr shs_f))))), (er, .inl (xI G, 7, .inl u3.2)), (sh, .inr (2, [.ref num, .int bits])), (num, .inr (1, [.ref num_q, .int num_m])), (num_q, .inl (xI G, 24, .inl num_f))] H := hP
    have hD : va_D A [(t, .inr (7, [.ref st, .ref kp, .int hasI, .int imgs, .ref vs, .ref rd, .ref wk, .ref chr, .ref shs, .ref er])), (shs, .inl (xY G, 4, .inr (.inr (.inr (.inr shs_f))))), (er, .inl (xI G, 7, .inl u3.2)), (sh, .inr (2, [.ref num, .int bits])), (num, .inr (1, [.ref num_q, .int num_m])), (num_q, .inl (xI G, 24, .inl num_f))] := hD
    obtain rfl := Option.some.inj hF
    rw [← hQ]
    exact W.iret (v := u3.1) hx hb hr (fun t ht hW => ⟨⟨_, (), rfl, ⟨rfl, rfl⟩, xLf hP ht⟩, hS.F ht⟩) hS.2.2 dX7_put_31
