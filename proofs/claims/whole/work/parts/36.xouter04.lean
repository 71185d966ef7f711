def F_X7_text_out (er_f : Nat → Int32) (us : Int32) : Option (Int32 × (Nat → Int32)) := bd (F_X3_codesOf_out us) (fun (u1 : Unit) => bd (F_X7_error er_f (1 : Int32)) (fun (u2 : (Int32 × (Nat → Int32))) => some (u2.1, u2.2)))
set_option maxHeartbeats 4000000 in
set_option maxRecDepth 100000 in
theorem c_X7_text_out (G : xG) (t : Nat) (st : Nat) (kp : Nat) (vs : Nat) (rd : Nat) (wk : Nat) (chr : Nat) (shs : Nat) (er : Nat) (kinds : Nat) (ms : Nat) (said : Nat) (signs : Nat) (tape : Nat) (avo : Nat) (tal : Nat) (wai : Nat) (hasI : Int32) (imgs : Int32) (vow : Int32) (day : Int32) (worth : Int32) (z : Int32) (er_f : Nat → Int32) (us : Int32)  (u : (Int32 × (Nat → Int32))) (hF : F_X7_text_out er_f us = some u) : Ki G .int yX7_text (Cond.code yX7_text cX7_text 4 (some .int) :: TBL) { frames := 2, cells := 0, slots := 0, locals := 43 } [.ref t, .int us] [(t, .inr (7, [.ref st, .ref kp, .int hasI, .int imgs, .ref vs, .ref rd, .ref wk, .ref chr, .ref shs, .ref er])), (st, .inr (3, [.ref kinds, .ref ms, .ref said, .ref signs, .ref tape, .ref avo, .ref tal, .ref wai, .int vow, .int day, .int worth, .int z])), (er, .inl (xI G, 7, .inl er_f))] [(t, .inr (7, [.ref st, .ref kp, .int hasI, .int imgs, .ref vs, .ref rd, .ref wk, .ref chr, .ref shs, .ref er])), (st, .inr (3, [.ref kinds, .ref ms, .ref said, .ref signs, .ref tape, .ref avo, .ref tal, .ref wai, .int vow, .int day, .int worth, .int z])), (er, .inl (xI G, 7, .inl u.2))] u.1 := by
  intro l sz
  refine Met.ofW (cc := cX7_text) (maxL := 4) (ret := (some .int)) (by decide) rfl ?_
  intro p e s m args below meth c s₁ B hml hv
  obtain ⟨rfl, hsz, hP, hD0, hm⟩ := hv
  have hx := B.exec
  have hb := B.bytes
  have hr := B.returns
  have hts := atoms_spec (ws := Cond.code yX7_text cX7_text 4 (some .int) :: TBL) B.pre
  have hown : s.vm.findClass RX7 = some m.cls := findClass_of_methodNamed B.named
  have hlocks := B.notSynchronized
  subst hsz
  have hD := hD0.self (sz := s.heap.size)
  generalize hAe : va_A [(t, .inr (7, [.ref st, .ref kp, .int hasI, .int imgs, .ref vs, .ref rd, .ref wk, .ref chr, .ref shs, .ref er])), (st, .inr (3, [.ref kinds, .ref ms, .ref said, .ref signs, .ref tape, .ref avo, .ref tal, .ref wai, .int vow, .int day, .int worth, .int z])), (er, .inl (xI G, 7, .inl er_f))] s.heap.size = A at hD hm ⊢
  have hA : ∀ q : Nat, s.heap.size ≤ q → A q := fun q h => by rw [← hAe]; exact Or.inr h
  have hK := hm.1
  have hZ : xAnd p m c cX7_text 4 s _ (Cond.code yX7_text cX7_text 4 (some .int) :: TBL) RX7 G A := ⟨⟨hx, hb, hml, hown, hts⟩, tcons, hA, hm⟩
  have hP : va_P G.1 vwCl [(t, .inr (7, [.ref st, .ref kp, .int hasI, .int imgs, .ref vs, .ref rd, .ref wk, .ref chr, .ref shs, .ref er])), (st, .inr (3, [.ref kinds, .ref ms, .ref said, .ref signs, .ref tape, .ref avo, .ref tal, .ref wai, .int vow, .int day, .int worth, .int z])), (er, .inl (xI G, 7, .inl er_f))] s.heap := hP
  have hl := lv_entry ([.ref t, .int us]) (n := 4) (Nat.le_of_ble_eq_true rfl)
  rw [lg_entry_eq]
  generalize (lg_sl ([.ref t, .int us]) ++ List.replicate (4 - (lg_sl ([.ref t, .int us])).length) Slot.unset).toArray = ls at hl ⊢
  have hl : lv_has ls 4 [(0, .ref t), (1, .int us)] := hl
  generalize hQ : MQ below _ _ s _ _ _ = Q
  refine xGo (A := A) hP (fun H locs hP hS => ?_)
  unfold F_X7_text_out at hF
  refine lv_aload_n hx hb dX7_text_0 rfl (lv_at hl 0 rfl) ?_
  refine va_get (ci := 7) (v := .ref st) (C := RX7) (T := TX7) (N := 10) hx hb hts (fun w h => tcons w (xin7 w h)) hown hK hP 0 rfl rfl 0 (by decide) (hts _ (tcons _ m16)) (fun _ h9 => h9) rfl dX7_text_1 ?_
  refine lv_iload_n hx hb dX7_text_4 rfl (lv_at hl 1 rfl) ?_
  obtain ⟨u1, e1, hF⟩ := bdS hF
  refine xEndQ (xRunV (As := [.int us]) (rest := []) hZ (c_X3_codesOf_out G st kinds ms said signs tape avo tal wai vow day worth z us u1 e1 l H.size) m242 m243 m244 m15 m245 1 ⟨rfl, hdX3_codesOf⟩ ⟨Nat.le_of_ble_eq_true rfl, Nat.le_of_ble_eq_true rfl⟩ ⟨rfl, rfl⟩ hP hD hS 1 3 rfl rfl rfl [1] rfl rfl rfl hl.1 rfl (Nat.le_of_ble_eq_true rfl) dX7_text_5 ⟨Nat.zero_le _, Nat.zero_le _⟩) hP hD hS hA [1] rfl rfl rfl (fun H locs hP hD hS => ?_)
  have hP : va_P G.1 vwCl [(t, .inr (7, [.ref st, .ref kp, .int hasI, .int imgs, .ref vs, .ref rd, .ref wk, .ref chr, .ref shs, .ref er])), (st, .inr (3, [.ref kinds, .ref ms, .ref said, .ref signs, .ref tape, .ref avo, .ref tal, .ref wai, .int vow, .int day, .int worth, .int z])), (er, .inl (xI G, 7, .inl er_f))] H := hP
  have hD : va_D A [(t, .inr (7, [.ref st, .ref kp, .int hasI, .int imgs, .ref vs, .ref rd, .ref wk, .ref chr, .ref shs, .ref er])), (st, .inr (3, [.ref kinds, .ref ms, .ref said, .ref signs, .ref tape, .ref avo, .ref tal, .ref wai, .int vow, .int day, .int worth, .int z])), (er, .inl (xI G, 7, .inl er_f))] := hD
  refine lv_astore_nN (lv' := [(2, .null), (0, .ref t), (1, .int us)]) hx hb dX7_text_8 rfl hl (by decide) rfl (fun ls hl => ?_)
  refine lv_aload_nN hx hb dX7_text_9 rfl (lv_at hl 0 rfl) ?_
  refine lv_ifnonnullN hx hb dX7_text_10 ?_
  refine lv_aload_n hx hb dX7_text_13 rfl (lv_at hl 1 rfl) ?_
  refine lv_iconst (v := 1) hx hb dX7_text_14 (by decide) ?_
  obtain ⟨u2, e2, hF⟩ := bdS hF
  refine xEndI (xRunV (As := [.int (1 : Int32)]) (rest := []) hZ (c_X7_error G t st kp vs rd wk chr shs er hasI imgs er_f (1 : Int32) u2 e2 l H.size) m167 m168 m169 m2 m170 1 ⟨rfl, hdX7_error⟩ ⟨Nat.le_of_ble_eq_true rfl, Nat.le_of_ble_eq_true rfl⟩ ⟨rfl, rfl⟩ hP hD hS 0 7 rfl rfl rfl [0, 2] rfl rfl rfl hl.1 rfl (Nat.le_of_ble_eq_true rfl) dX7_text_15 ⟨Nat.zero_le _, Nat.zero_le _⟩) hP hD hS hA [0, 2] rfl rfl rfl (fun H locs n2 hP hD hS => ?_)
  have hP : va_P G.1 vwCl [(t, .inr (7, [.ref st, .ref kp, .int hasI, .int imgs, .ref vs, .ref rd, .ref wk, .ref chr, .ref shs, .ref er])), (st, .inr (3, [.ref kinds, .ref ms, .ref said, .ref signs, .ref tape, .ref avo, .ref tal, .ref wai, .int vow, .int day, .int worth, .int z])), (er, .inl (xI G, 7, .inl u2.2))] H := hP
  have hD : va_D A [(t, .inr (7, [.ref st, .ref kp, .int hasI, .int imgs, .ref vs, .ref rd, .ref wk, .ref chr, .ref shs, .ref er])), (st, .inr (3, [.ref kinds, .ref ms, .ref said, .ref signs, .ref tape, .ref avo, .ref tal, .ref wai, .int vow, .int day, .int worth, .int z])), (er, .inl (xI G, 7, .inl u2.2))] := hD
  obtain rfl := Option.some.inj hF
  rw [← hQ]
  exact W.iret (v := u2.1) hx hb hr (fun t ht hW => ⟨⟨_, (), rfl, ⟨rfl, rfl⟩, xLf hP ht⟩, hS.F ht⟩) hS.2.2 dX7_text_18
def F_X7_untell_out (er_f : Nat → Int32) (us : Int32) : Option (Int32 × (Nat → Int32)) := bd (F_X3_codesOf_out us) (fun (u1 : Unit) => bd (F_X7_error er_f (1 : Int32)) (fun (u2 : (Int32 × (Nat → Int32))) => some (u2.1, u2.2)))
set_option maxHeartbeats 4000000 in
set_option maxRecDepth 100000 in
theorem c_X7_untell_out (G : xG) (t : Nat) (st : Nat) (kp : Nat) (vs : Nat) (rd : Nat) (wk : Nat) (chr : Nat) (shs : Nat) (er : Nat) (kinds : Nat) (ms : Nat) (said : Nat) (signs : Nat) (tape : Nat) (avo : Nat) (tal : Nat) (wai : Nat) (hasI : Int32) (imgs : Int32) (vow : Int32) (day : Int32) (worth : Int32) (z : Int32) (er_f : Nat → Int32) (us : Int32)  (u : (Int32 × (Nat → Int32))) (hF : F_X7_untell_out er_f us = some u) : Ki G .int yX7_untell (Cond.code yX7_untell cX7_untell 4 (some .int) :: TBL) { frames := 2, cells := 0, slots := 0, locals := 43 } [.ref t, .int us] [(t, .inr (7, [.ref st, .ref kp, .int hasI, .int imgs, .ref vs, .ref rd, .ref wk, .ref chr, .ref shs, .ref er])), (st, .inr (3, [.ref kinds, .ref ms, .ref said, .ref signs, .ref tape, .ref avo, .ref tal, .ref wai, .int vow, .int day, .int worth, .int z])), (er, .inl (xI G, 7, .inl er_f))] [(t, .inr (7, [.ref st, .ref kp, .int hasI, .int imgs, .ref vs, .ref rd, .ref wk, .ref chr, .ref shs, .ref er])), (st, .inr (3, [.ref kinds, .ref ms, .ref said, .ref signs, .ref tape, .ref avo, .ref tal, .ref wai, .int vow, .int day, .int worth, .int z])), (er, .inl (xI G, 7, .inl u.2))] u.1 := by
  intro l sz
  refine Met.ofW (cc := cX7_untell) (maxL := 4) (ret := (some .int)) (by decide) rfl ?_
  intro p e s m args below meth c s₁ B hml hv
  obtain ⟨rfl, hsz, hP, hD0, hm⟩ := hv
  have hx := B.exec
  have hb := B.bytes
  have hr := B.returns
  have hts := atoms_spec (ws := Cond.code yX7_untell cX7_untell 4 (some .int) :: TBL) B.pre
  have hown : s.vm.findClass RX7 = some m.cls := findClass_of_methodNamed B.named
  have hlocks := B.notSynchronized
  subst hsz
  have hD := hD0.self (sz := s.heap.size)
  generalize hAe : va_A [(t, .inr (7, [.ref st, .ref kp, .int hasI, .int imgs, .ref vs, .ref rd, .ref wk, .ref chr, .ref shs, .ref er])), (st, .inr (3, [.ref kinds, .ref ms, .ref said, .ref signs, .ref tape, .ref avo, .ref tal, .ref wai, .int vow, .int day, .int worth, .int z])), (er, .inl (xI G, 7, .inl er_f))] s.heap.size = A at hD hm ⊢
  have hA : ∀ q : Nat, s.heap.size ≤ q → A q := fun q h => by rw [← hAe]; exact Or.inr h
  have hK := hm.1
  have hZ : xAnd p m c cX7_untell 4 s _ (Cond.code yX7_untell cX7_untell 4 (some .int) :: TBL) RX7 G A := ⟨⟨hx, hb, hml, hown, hts⟩, tcons, hA, hm⟩
  have hP : va_P G.1 vwCl [(t, .inr (7, [.ref st, .ref kp, .int hasI, .int imgs, .ref vs, .ref rd, .ref wk, .ref chr, .ref shs, .ref er])), (st, .inr (3, [.ref kinds, .ref ms, .ref said, .ref signs, .ref tape, .ref avo, .ref tal, .ref wai, .int vow, .int day, .int worth, .int z])), (er, .inl (xI G, 7, .inl er_f))] s.heap := hP
  have hl := lv_entry ([.ref t, .int us]) (n := 4) (Nat.le_of_ble_eq_true rfl)
  rw [lg_entry_eq]
  generalize (lg_sl ([.ref t, .int us]) ++ List.replicate (4 - (lg_sl ([.ref t, .int us])).length) Slot.unset).toArray = ls at hl ⊢
  have hl : lv_has ls 4 [(0, .ref t), (1, .int us)] := hl
  generalize hQ : MQ below _ _ s _ _ _ = Q
  refine xGo (A := A) hP (fun H locs hP hS => ?_)
  unfold F_X7_untell_out at hF
  refine lv_aload_n hx hb dX7_untell_0 rfl (lv_at hl 0 rfl) ?_
  refine va_get (ci := 7) (v := .ref st) (C := RX7) (T := TX7) (N := 10) hx hb hts (fun w h => tcons w (xin7 w h)) hown hK hP 0 rfl rfl 0 (by decide) (hts _ (tcons _ m16)) (fun _ h9 => h9) rfl dX7_untell_1 ?_
  refine lv_iload_n hx hb dX7_untell_4 rfl (lv_at hl 1 rfl) ?_
  obtain ⟨u1, e1, hF⟩ := bdS hF
  refine xEndQ (xRunV (As := [.int us]) (rest := []) hZ (c_X3_codesOf_out G st kinds ms said signs tape avo tal wai vow day worth z us u1 e1 l H.size) m242 m243 m244 m15 m245 1 ⟨rfl, hdX3_codesOf⟩ ⟨Nat.le_of_ble_eq_true rfl, Nat.le_of_ble_eq_true rfl⟩ ⟨rfl, rfl⟩ hP hD hS 1 3 rfl rfl rfl [1] rfl rfl rfl hl.1 rfl (Nat.le_of_ble_eq_true rfl) dX7_untell_5 ⟨Nat.zero_le _, Nat.zero_le _⟩) hP hD hS hA [1] rfl rfl rfl (fun H locs hP hD hS => ?_)
  have hP : va_P G.1 vwCl [(t, .inr (7, [.ref st, .ref kp, .int hasI, .int imgs, .ref vs, .ref rd, .ref wk, .ref chr, .ref shs, .ref er])), (st, .inr (3, [.ref kinds, .ref ms, .ref said, .ref signs, .ref tape, .ref avo, .ref tal, .ref wai, .int vow, .int day, .int worth, .int z])), (er, .inl (xI G, 7, .inl er_f))] H := hP
  have hD : va_D A [(t, .inr (7, [.ref st, .ref kp, .int hasI, .int imgs, .ref vs, .ref rd, .ref wk, .ref chr, .ref shs, .ref er])), (st, .inr (3, [.ref kinds, .ref ms, .ref said, .ref signs, .ref tape, .ref avo, .ref tal, .ref wai, .int vow, .int day, .int worth, .int z])), (er, .inl (xI G, 7, .inl er_f))] := hD
  refine lv_astore_nN (lv' := [(2, .null), (0, .ref t), (1, .int us)]) hx hb dX7_untell_8 rfl hl (by decide) rfl (fun ls hl => ?_)
  refine lv_aload_nN hx hb dX7_untell_9 rfl (lv_at hl 0 rfl) ?_
  refine lv_ifnonnullN hx hb dX7_untell_10 ?_
  refine lv_aload_n hx hb dX7_untell_13 rfl (lv_at hl 1 rfl) ?_
  refine lv_iconst (v := 1) hx hb dX7_untell_14 (by decide) ?_
  obtain ⟨u2, e2, hF⟩ := bdS hF
  refine xEndI (xRunV (As := [.int (1 : Int32)]) (rest := []) hZ (c_X7_error G t st kp vs rd wk chr shs er hasI imgs er_f (1 : Int32) u2 e2 l H.size) m167 m168 m169 m2 m170 1 ⟨rfl, hdX7_error⟩ ⟨Nat.le_of_ble_eq_true rfl, Nat.le_of_ble_eq_true rfl⟩ ⟨rfl, rfl⟩ hP hD hS 0 7 rfl rfl rfl [0, 2] rfl rfl rfl hl.1 rfl (Nat.le_of_ble_eq_true rfl) dX7_untell_15 ⟨Nat.zero_le _, Nat.zero_le _⟩) hP hD hS hA [0, 2] rfl rfl rfl (fun H locs n2 hP hD hS => ?_)
  have hP : va_P G.1 vwCl [(t, .inr (7, [.ref st, .ref kp, .int hasI, .int imgs, .ref vs, .ref rd, .ref wk, .ref chr, .ref shs, .ref er])), (st, .inr (3, [.ref kinds, .ref ms, .ref said, .ref signs, .ref tape, .ref avo, .ref tal, .ref wai, .int vow, .int day, .int worth, .int z])), (er, .inl (xI G, 7, .inl u2.2))] H := hP
  have hD : va_D A [(t, .inr (7, [.ref st, .ref kp, .int hasI, .int imgs, .ref vs, .ref rd, .ref wk, .ref chr, .ref shs, .ref er])), (st, .inr (3, [.ref kinds, .ref ms, .ref said, .ref signs, .ref tape, .ref avo, .ref tal, .ref wai, .int vow, .int day, .int worth, .int z])), (er, .inl (xI G, 7, .inl u2.2))] := hD
  obtain rfl := Option.some.inj hF
  rw [← hQ]
  exact W.iret (v := u2.1) hx hb hr (fun t ht hW => ⟨⟨_, (), rfl, ⟨rfl, rfl⟩, xLf hP ht⟩, hS.F ht⟩) hS.2.2 dX7_untell_18
def F_X7_law_out (er_f : Nat → Int32) (us : Int32) : Option (Int32 × (Nat → Int32)) := bd (F_X3_codesOf_out us) (fun (u1 : Unit) => bd (F_X7_error er_f (1 : Int32)) (fun (u2 : (Int32 × (Nat → Int32))) => some (u2.1, u2.2)))
set_option maxHeartbeats 4000000 in
set_option maxRecDepth 100000 in
theorem c_X7_law_out (G : xG) (t : Nat) (st : Nat) (kp : Nat) (vs : Nat) (rd : Nat) (wk : Nat) (chr : Nat) (shs : Nat) (er : Nat) (kinds : Nat) (ms : Nat) (said : Nat) (signs : Nat) (tape : Nat) (avo : Nat) (tal : Nat) (wai : Nat) (hasI : Int32) (imgs : Int32) (vow : Int32) (day : Int32) (worth : Int32) (z : Int32) (er_f : Nat → Int32) (us : Int32) (ia : Int32) (ib : Int32) (ic : Int32)  (u : (Int32 × (Nat → Int32))) (hF : F_X7_law_out er_f us = some u) : Ki G .int yX7_law (Cond.code yX7_law cX7_law 5 (some .int) :: TBL) { frames := 2, cells := 0, slots := 0, locals := 43 } [.ref t, .int us, .int ia, .int ib, .int ic] [(t, .inr (7, [.ref st, .ref kp, .int hasI, .int imgs, .ref vs, .ref rd, .ref wk, .ref chr, .ref shs, .ref er])), (st, .inr (3, [.ref kinds, .ref ms, .ref said, .ref signs, .ref tape, .ref avo, .ref tal, .ref wai, .int vow, .int day, .int worth, .int z])), (er, .inl (xI G, 7, .inl er_f))] [(t, .inr (7, [.ref st, .ref kp, .int hasI, .int imgs, .ref vs, .ref rd, .ref wk, .ref chr, .ref shs, .ref er])), (st, .inr (3, [.ref kinds, .ref ms, .ref said, .ref signs, .ref tape, .ref avo, .ref tal, .ref wai, .int vow, .int day, .int worth, .int z])), (er, .inl (xI G, 7, .inl u.2))] u.1 := by
  intro l sz
  refine Met.ofW (cc := cX7_law) (maxL := 5) (ret := (some .int)) (by decide) rfl ?_
  intro p e s m args below meth c s₁ B hml hv
  obtain ⟨rfl, hsz, hP, hD0, hm⟩ := hv
  have hx := B.exec
  have hb := B.bytes
  have hr := B.returns
  have hts := atoms_spec (ws := Cond.code yX7_law cX7_law 5 (some .int) :: TBL) B.pre
  have hown : s.vm.findClass RX7 = some m.cls := findClass_of_methodNamed B.named
  have hlocks := B.notSynchronized
  subst hsz
  have hD := hD0.self (sz := s.heap.size)
  generalize hAe : va_A [(t, .inr (7, [.ref st, .ref kp, .int hasI, .int imgs, .ref vs, .ref rd, .ref wk, .ref chr, .ref shs, .ref er])), (st, .inr (3, [.ref kinds, .ref ms, .ref said, .ref signs, .ref tape, .ref avo, .ref tal, .ref wai, .int vow, .int day, .int worth, .int z])), (er, .inl (xI G, 7, .inl er_f))] s.heap.size = A at hD hm ⊢
  have hA : ∀ q : Nat, s.heap.size ≤ q → A q := fun q h => by rw [← hAe]; exact Or.inr h
  have hK := hm.1
  have hZ : xAnd p m c cX7_law 5 s _ (Cond.code yX7_law cX7_law 5 (some .int) :: TBL) RX7 G A := ⟨⟨hx, hb, hml, hown, hts⟩, tcons, hA, hm⟩
  have hP : va_P G.1 vwCl [(t, .inr (7, [.ref st, .ref kp, .int hasI, .int imgs, .ref vs, .ref rd, .ref wk, .ref chr, .ref shs, .ref er])), (st, .inr (3, [.ref kinds, .ref ms, .ref said, .ref signs, .ref tape, .ref avo, .ref tal, .ref wai, .int vow, .int day, .int worth, .int z])), (er, .inl (xI G, 7, .inl er_f))] s.heap := hP
  have hl := lv_entry ([.ref t, .int us, .int ia, .int ib, .int ic]) (n := 5) (Nat.le_of_ble_eq_true rfl)
  rw [lg_entry_eq]
  generalize (lg_sl ([.ref t, .int us, .int ia, .int ib, .int ic]) ++ List.replicate (5 - (lg_sl ([.ref t, .int us, .int ia, .int ib, .int ic])).length) Slot.unset).toArray = ls at hl ⊢
  have hl : lv_has ls 5 [(0, .ref t), (1, .int us), (2, .int ia), (3, .int ib), (4, .int ic)] := hl
  generalize hQ : MQ below _ _ s _ _ _ = Q
  refine xGo (A := A) hP (fun H locs hP hS => ?_)
  unfold F_X7_law_out at hF
  refine lv_aload_n hx hb dX7_law_0 rfl (lv_at hl 0 rfl) ?_
  refine va_get (ci := 7) (v := .ref st) (C := RX7) (T := TX7) (N := 10) hx hb hts (fun w h => tcons w (xin7 w h)) hown hK hP 0 rfl rfl 0 (by decide) (hts _ (tcons _ m16)) (fun _ h9 => h9) rfl dX7_law_1 ?_
  refine lv_iload_n hx hb dX7_law_4 rfl (lv_at hl 1 rfl) ?_
  obtain ⟨u1, e1, hF⟩ := bdS hF
  refine xEndQ (xRunV (As := [.int us]) (rest := []) hZ (c_X3_codesOf_out G st kinds ms said signs tape avo tal wai vow day worth z us u1 e1 l H.size) m242 m243 m244 m15 m245 1 ⟨rfl, hdX3_codesOf⟩ ⟨Nat.le_of_ble_eq_true rfl, Nat.le_of_ble_eq_true rfl⟩ ⟨rfl, rfl⟩ hP hD hS 1 3 rfl rfl rfl [1] rfl rfl rfl hl.1 rfl (Nat.le_of_ble_eq_true rfl) dX7_law_5 ⟨Nat.zero_le _, Nat.zero_le _⟩) hP hD hS hA [1] rfl rfl rfl (fun H locs hP hD hS => ?_)
  have hP : va_P G.1 vwCl [(t, .inr (7, [.ref st, .ref kp, .int hasI, .int imgs, .ref vs, .ref rd, .ref wk, .ref chr, .ref shs, .ref er])), (st, .inr (3, [.ref kinds, .ref ms, .ref said, .ref signs, .ref tape, .ref avo, .ref tal, .ref wai, .int vow, .int day, .int worth, .int z])), (er, .inl (xI G, 7, .inl er_f))] H := hP
  have hD : va_D A [(t, .inr (7, [.ref st, .ref kp, .int hasI, .int imgs, .ref vs, .ref rd, .ref wk, .ref chr, .ref shs, .ref er])), (st, .inr (3, [.ref kinds, .ref ms, .ref said, .ref signs, .ref tape, .ref avo, .ref tal, .ref wai, .int vow, .int day, .int worth, .int z])), (er, .inl (xI G, 7, .inl er_f))] := hD
  refine lv_ifnonnullN hx hb dX7_law_8 ?_
  refine lv_aload_n hx hb dX7_law_11 rfl (lv_at hl 0 rfl) ?_
  refine lv_iconst (v := 1) hx hb dX7_law_12 (by decide) ?_
  obtain ⟨u2, e2, hF⟩ := bdS hF
  refine xEndI (xRunV (As := [.int (1 : Int32)]) (rest := []) hZ (c_X7_error G t st kp vs rd wk chr shs er hasI imgs er_f (1 : Int32) u2 e2 l H.size) m167 m168 m169 m2 m170 1 ⟨rfl, hdX7_error⟩ ⟨Nat.le_of_ble_eq_true rfl, Nat.le_of_ble_eq_true rfl⟩ ⟨rfl, rfl⟩ hP hD hS 0 7 rfl rfl rfl [0, 2] rfl rfl rfl hl.1 rfl (Nat.le_of_ble_eq_true rfl) dX7_law_13 ⟨Nat.zero_le _, Nat.zero_le _⟩) hP hD hS hA [0, 2] rfl rfl rfl (fun H locs n2 hP hD hS => ?_)
  have hP : va_P G.1 vwCl [(t, .inr (7, [.ref st, .ref kp, .int hasI, .int imgs, .ref vs, .ref rd, .ref wk, .ref chr, .ref shs, .ref er])), (st, .inr (3, [.ref kinds, .ref ms, .ref said, .ref signs, .ref tape, .ref avo, .ref tal, .ref wai, .int vow, .int day, .int worth, .int z])), (er, .inl (xI G, 7, .inl u2.2))] H := hP
  have hD : va_D A [(t, .inr (7, [.ref st, .ref kp, .int hasI, .int imgs, .ref vs, .ref rd, .ref wk, .ref chr, .ref shs, .ref er])), (st, .inr (3, [.ref kinds, .ref ms, .ref said, .ref signs, .ref tape, .ref avo, .ref tal, .ref wai, .int vow, .int day, .int worth, .int z])), (er, .inl (xI G, 7, .inl u2.2))] := hD
  obtain rfl := Option.some.inj hF
  rw [← hQ]
  exact W.iret (v := u2.1) hx hb hr (fun t ht hW => ⟨⟨_, (), rfl, ⟨rfl, rfl⟩, xLf hP ht⟩, hS.F ht⟩) hS.2.2 dX7_law_16
def B_X7_loose_41 (vow : Int32) (kinds_m : Int32) (kinds_f : Nat → Int32) (ms_m : Int32) (ms_f : Nat → Int32) (said_m : Int32) (avo_m : Int32) (avo_f : Nat → Int32) (tal_m : Int32) (tal_f : Nat → Int32) (spread_f : Nat → Int32) (breakers_f : Nat → Int64) (er_f : Nat → Int32) (k : Int32) (k41 : (Int32 × Int32 × Int32 × Int32 × Int32 × (Nat → Int32) × Int32 × (Nat → Int32) × Int32 × (Nat → Int32) × (Nat → Int32) × Int32 × (Nat → Int32)) → Option (Int32 × Int32 × Int32 × Int32 × (Nat → Int32) × Int32 × (Nat → Int32) × Int32 × (Nat → Int32) × (Nat → Int32) × Int32 × (Nat → Int32) × (Nat → Int32))) (v41 : (Int32 × Int32 × Int32 × Int32 × Int32 × (Nat → Int32) × Int32 × (Nat → Int32) × Int32 × (Nat → Int32) × (Nat → Int32) × Int32 × (Nat → Int32))) : Option (Int32 × Int32 × Int32 × Int32 × (Nat → Int32) × Int32 × (Nat → Int32) × Int32 × (Nat → Int32) × (Nat → Int32) × Int32 × (Nat → Int32) × (Nat → Int32)) := if k ≤ v41.2.1 then (some (v41.1, v41.2.2.1, v41.2.2.2.1, v41.2.2.2.2.1, v41.2.2.2.2.2.1, v41.2.2.2.2.2.2.1, v41.2.2.2.2.2.2.2.1, v41.2.2.2.2.2.2.2.2.1, v41.2.2.2.2.2.2.2.2.2.1, v41.2.2.2.2.2.2.2.2.2.2.1, v41.2.2.2.2.2.2.2.2.2.2.2.1, v41.2.2.2.2.2.2.2.2.2.2.2.2, er_f)) else (bd (F_X7_looseDay vow v41.2.2.1 v41.2.2.2.1 v41.2.2.2.2.1 kinds_m kinds_f ms_m ms_f said_m v41.2.2.2.2.2.1 v41.2.2.2.2.2.2.1 v41.2.2.2.2.2.2.2.1 avo_m avo_f tal_m tal_f v41.2.2.2.2.2.2.2.2.1 spread_f breakers_f v41.2.2.2.2.2.2.2.2.2.1 v41.2.2.2.2.2.2.2.2.2.2.1 v41.2.2.2.2.2.2.2.2.2.2.2.1 v41.2.2.2.2.2.2.2.2.2.2.2.2) (fun (u2 : (Int32 × Int32 × Int32 × Int32 × (Nat → Int32) × Int32 × (Nat → Int32) × Int32 × (Nat → Int32) × (Nat → Int32) × Int32 × (Nat → Int32))) => k41 ((v41.1 + u2.1), (v41.2.1 + (1 : Int32)), u2.2.1, u2.2.2.1, u2.2.2.2.1, u2.2.2.2.2.1, u2.2.2.2.2.2.1, u2.2.2.2.2.2.2.1, u2.2.2.2.2.2.2.2.1, u2.2.2.2.2.2.2.2.2.1, u2.2.2.2.2.2.2.2.2.2.1, u2.2.2.2.2.2.2.2.2.2.2.1, u2.2.2.2.2.2.2.2.2.2.2.2)))
def F_X7_loose (vow : Int32) (day : Int32) (worth : Int32) (z : Int32) (kinds_m : Int32) (kinds_f : Nat → Int32) (ms_m : Int32) (ms_f : Nat → Int32) (said_m : Int32) (said_f : Nat → Int32) (signs_m : Int32) (signs_f : Nat → Int32) (avo_m : Int32) (avo_f : Nat → Int32) (tal_m : Int32) (tal_f : Nat → Int32) (fitting : Int32) (spread_f : Nat → Int32) (breakers_f : Nat → Int64) (fit_f : Nat → Int32) (counted_f : Nat → Int32) (stack_m : Int32) (stack_f : Nat → Int32) (er_f : Nat → Int32) (k : Int32) : Option (Int32 × Int32 × Int32 × Int32 × (Nat → Int32) × Int32 × (Nat → Int32) × Int32 × (Nat → Int32) × (Nat → Int32) × Int32 × (Nat → Int32) × (Nat → Int32)) := bd (F_X7_within k (1 : Int32) (20 : Int32)) (fun (u1 : Int32) => if u1 = 0 then (bd (F_X7_error er_f (1 : Int32)) (fun (u2 : (Int32 × (Nat → Int32))) => some (u2.1, day, worth, z, said_f, signs_m, signs_f, fitting, fit_f, counted_f, stack_m, stack_f, u2.2))) else (if (day + k) ≤ (9999 : Int32) then (lp (B_X7_loose_41 vow kinds_m kinds_f ms_m ms_f said_m avo_m avo_f tal_m tal_f spread_f breakers_f er_f k) fuelC ((0 : Int32), (0 : Int32), day, worth, z, said_f, signs_m, signs_f, fitting, fit_f, counted_f, stack_m, stack_f)) else (bd (F_X7_error er_f (3 : Int32)) (fun (u2 : (Int32 × (Nat → Int32))) => some (u2.1, day, worth, z, said_f, signs_m, signs_f, fitting, fit_f, counted_f, stack_m, stack_f, u2.2)))))
theorem hdX7_loose : yX7_loose.cls ≠ "java/lang/invoke/MethodHandle" ∧ yX7_loose.cls ≠ "java/lang/invoke/VarHandle" ∧ (parseMethodDescriptor yX7_loose.desc).map (fun d => d.parameters.length) = some 1 := by decide +kernel
set_option maxHeartbeats 4000000 in
set_option maxRecDepth 100000 in
theorem c_X7_loose (G : xG) (t : Nat) (st : Nat) (kp : Nat) (vs : Nat) (rd : Nat) (wk : Nat) (chr : Nat) (shs : Nat) (er : Nat) (kinds : Nat) (ms : Nat) (said : Nat) (signs : Nat) (tape : Nat) (avo : Nat) (tal : Nat) (wai : Nat) (kinds_q : Nat) (ms_q : Nat) (said_q : Nat) (signs_q : Nat) (avo_q : Nat) (tal_q : Nat) (spread : Nat) (breakers : Nat) (fit : Nat) (counted : Nat) (stack : Nat) (stack_q : Nat) (hasI : Int32) (imgs : Int32) (vow : Int32) (day : Int32) (worth : Int32) (z : Int32) (kinds_m : Int32) (kinds_f : Nat → Int32) (ms_m : Int32) (ms_f : Nat → Int32) (said_m : Int32) (said_f : Nat → Int32) (signs_m : Int32) (signs_f : Nat → Int32) (avo_m : Int32) (avo_f : Nat → Int32) (tal_m : Int32) (tal_f : Nat → Int32) (fitting : Int32) (spread_f : Nat → Int32) (breakers_f : Nat → Int64) (fit_f : Nat → Int32) (counted_f : Nat → Int32) (stack_m : Int32) (stack_f : Nat → Int32) (er_f : Nat → Int32) (k : Int32)  (u : (Int32 × Int32 × Int32 × Int32 × (Nat → Int32) × Int32 × (Nat → Int32) × Int32 × (Nat → Int32) × (Nat → Int32) × Int32 × (Nat → Int32) × (Nat → Int32))) (hF : F_X7_loose vow day worth z kinds_m kinds_f ms_m ms_f said_m said_f signs_m signs_f avo_m avo_f tal_m tal_f fitting spread_f breakers_f fit_f counted_f stack_m stack_f er_f k = some u) : Ki G .int yX7_loose (Cond.code yX7_loose cX7_loose 4 (some .int) :: TBL) { frames := 7, cells := 0, slots := 0, locals := 187 } [.ref t, .int k] [(t, .inr (7, [.ref st, .ref kp, .int hasI, .int imgs, .ref vs, .ref rd, .ref wk, .ref chr, .ref shs, .ref er])), (st, .inr (3, [.ref kinds, .ref ms, .ref said, .ref signs, .ref tape, .ref avo, .ref tal, .ref wai, .int vow, .int day, .int worth, .int z])), (kinds, .inr (1, [.ref kinds_q, .int kinds_m])), (kinds_q, .inl (xI G, 6, .inl kinds_f)), (ms, .inr (1, [.ref ms_q, .int ms_m])), (ms_q, .inl (xI G, 6, .inl ms_f)), (said, .inr (1, [.ref said_q, .int said_m])), (said_q, .inl (xI G, 6, .inl said_f)), (signs, .inr (1, [.ref signs_q, .int signs_m])), (signs_q, .inl (xI G, 24, .inl signs_f)), (avo, .inr (1, [.ref avo_q, .int avo_m])), (avo_q, .inl (xI G, 60, .inl avo_f)), (tal, .inr (1, [.ref tal_q, .int tal_m])), (tal_q, .inl (xI G, 60, .inl tal_f)), (vs, .inr (5, [.ref spread, .ref breakers, .ref fit, .int fitting, .ref counted])), (spread, .inl (xI G, 64, .inl spread_f)), (breakers, .inl (xJ G, 729, .inr (.inl breakers_f))), (fit, .inl (xZ G, 729, .inl fit_f)), (counted, .inl (xI G, 64, .inl counted_f)), (wk, .inr (6, [.ref stack])), (stack, .inr (1, [.ref stack_q, .int stack_m])), (stack_q, .inl (xI G, 60, .inl stack_f)), (er, .inl (xI G, 7, .inl er_f))] [(t, .inr (7, [.ref st, .ref kp, .int hasI, .int imgs, .ref vs, .ref rd, .ref wk, .ref chr, .ref shs, .ref er])), (st, .inr (3, [.ref kinds, .ref ms, .ref said, .ref signs, .ref tape, .ref avo, .ref tal, .ref wai, .int vow, .int u.2.1, .int u.2.2.1, .int u.2.2.2.1])), (kinds, .inr (1, [.ref kinds_q, .int kinds_m])), (kinds_q, .inl (xI G, 6, .inl kinds_f)), (ms, .inr (1, [.ref ms_q, .int ms_m])), (ms_q, .inl (xI G, 6, .inl ms_f)), (said, .inr (1, [.ref said_q, .int said_m])), (said_q, .inl (xI G, 6, .inl u.2.2.2.2.1)), (signs, .inr (1, [.ref signs_q, .int u.2.2.2.2.2.1])), (signs_q, .inl (xI G, 24, .inl u.2.2.2.2.2.2.1)), (avo, .inr (1, [.ref avo_q, .int avo_m])), (avo_q, .inl (xI G, 60, .inl avo_f)), (tal, .inr (1, [.ref tal_q, .int tal_m])), (tal_q, .inl (xI G, 60, .inl tal_f)), (vs, .inr (5, [.ref spread, .ref breakers, .ref fit, .int u.2.2.2.2.2.2.2.1, .ref counted])), (spread, .inl (xI G, 64, .inl spread_f)), (breakers, .inl (xJ G, 729, .inr (.inl breakers_f))), (fit, .inl (xZ G, 729, .inl u.2.2.2.2.2.2.2.2.1)), (counted, .inl (xI G, 64, .inl u.2.2.2.2.2.2.2.2.2.1)), (wk, .inr (6, [.ref stack])), (stack, .inr (1, [.ref stack_q, .int u.2.2.2.2.2.2.2.2.2.2.1])), (stack_q, .inl (xI G, 60, .inl u.2.2.2.2.2.2.2.2.2.2.2.1)), (er, .inl (xI G, 7, .inl u.2.2.2.2.2.2.2.2.2.2.2.2))] u.1 := by
  intro l sz
  refine Met.ofW (cc := cX7_loose) (maxL := 4) (ret := (some .int)) (by decide) rfl ?_
  intro p e s m args below meth c s₁ B hml hv
  obtain ⟨rfl, hsz, hP, hD0, hm⟩ := hv
  have hx := B.exec
  have hb := B.bytes
  have hr := B.returns
  have hts := atoms_spec (ws := Cond.code yX7_loose cX7_loose 4 (some .int) :: TBL) B.pre
  have hown : s.vm.findClass RX7 = some m.cls := findClass_of_methodNamed B.named
  have hlocks := B.notSynchronized
  subst hsz
  have hD := hD0.self (sz := s.heap.size)
  generalize hAe : va_A [(t, .inr (7, [.ref st, .ref kp, .int hasI, .int imgs, .ref vs, .ref rd, .ref wk, .ref chr, .ref shs, .ref er])), (st, .inr (3, [.ref kinds, .ref ms, .ref said, .ref signs, .ref tape, .ref avo, .ref tal, .ref wai, .int vow, .int day, .int worth, .int z])), (kinds, .inr (1, [.ref kinds_q, .int kinds_m])), (kinds_q, .inl (xI G, 6, .inl kinds_f)), (ms, .inr (1, [.ref ms_q, .int ms_m])), (ms_q, .inl (xI G, 6, .inl ms_f)), (said, .inr (1, [.ref said_q, .int said_m])), (said_q, .inl (xI G, 6, .inl said_f)), (signs, .inr (1, [.ref signs_q, .int signs_m])), (signs_q, .inl (xI G, 24, .inl signs_f)), (avo, .inr (1, [.ref avo_q, .int avo_m])), (avo_q, .inl (xI G, 60, .inl avo_f)), (tal, .inr (1, [.ref tal_q, .int tal_m])), (tal_q, .inl (xI G, 60, .inl tal_f)), (vs, .inr (5, [.ref spread, .ref breakers, .ref fit, .int fitting, .ref counted])), (spread, .inl (xI G, 64, .inl spread_f)), (breakers, .inl (xJ G, 729, .inr (.inl breakers_f))), (fit, .inl (xZ G, 729, .inl fit_f)), (counted, .inl (xI G, 64, .inl counted_f)), (wk, .inr (6, [.ref stack])), (stack, .inr (1, [.ref stack_q, .int stack_m])), (stack_q, .inl (xI G, 60, .inl stack_f)), (er, .inl (xI G, 7, .inl er_f))] s.heap.size = A at hD hm ⊢
  have hA : ∀ q : Nat, s.heap.size ≤ q → A q := fun q h => by rw [← hAe]; exact Or.inr h
  have hK := hm.1
  have hZ : xAnd p m c cX7_loose 4 s _ (Cond.code yX7_loose cX7_loose 4 (some .int) :: TBL) RX7 G A := ⟨⟨hx, hb, hml, hown, hts⟩, tcons, hA, hm⟩
  have hP : va_P G.1 vwCl [(t, .inr (7, [.ref st, .ref kp, .int hasI, .int imgs, .ref vs, .ref rd, .ref wk, .ref chr, .ref shs, .ref er])), (st, .inr (3, [.ref kinds, .ref ms, .ref said, .ref signs, .ref tape, .ref avo, .ref tal, .ref wai, .int vow, .int day, .int worth, .int z])), (kinds, .inr (1, [.ref kinds_q, .int kinds_m])), (kinds_q, .inl (xI G, 6, .inl kinds_f)), (ms, .inr (1, [.ref ms_q, .int ms_m])), (ms_q, .inl (xI G, 6, .inl ms_f)), (said, .inr (1, [.ref said_q, .int said_m])), (said_q, .inl (xI G, 6, .inl said_f)), (signs, .inr (1, [.ref signs_q, .int signs_m])), (signs_q, .inl (xI G, 24, .inl signs_f)), (avo, .inr (1, [.ref avo_q, .int avo_m])), (avo_q, .inl (xI G, 60, .inl avo_f)), (tal, .inr (1, [.ref tal_q, .int tal_m])), (tal_q, .inl (xI G, 60, .inl tal_f)), (vs, .inr (5, [.ref spread, .ref breakers, .ref fit, .int fitting, .ref counted])), (spread, .inl (xI G, 64, .inl spread_f)), (breakers, .inl (xJ G, 729, .inr (.inl breakers_f))), (fit, .inl (xZ G, 729, .inl fit_f)), (counted, .inl (xI G, 64, .inl counted_f)), (wk, .inr (6, [.ref stack])), (stack, .inr (1, [.ref stack_q, .int stack_m])), (stack_q, .inl (xI G, 60, .inl stack_f)), (er, .inl (xI G, 7, .inl er_f))] s.heap := hP
  have hl := lv_entry ([.ref t, .int k]) (n := 4) (Nat.le_of_ble_eq_true rfl)
  rw [lg_entry_eq]
  generalize (lg_sl ([.ref t, .int k]) ++ List.replicate (4 - (lg_sl ([.ref t, .int k])).length) Slot.unset).toArray = ls at hl ⊢
  have hl : lv_has ls 4 [(0, .ref t), (1, .int k)] := hl
  generalize hQ : MQ below _ _ s _ _ _ = Q
  refine xGo (A := A) hP (fun H locs hP hS => ?_)
  unfold F_X7_loose at hF
  refine lv_iload_n hx hb dX7_loose_0 rfl (lv_at hl 1 rfl) ?_
  refine lv_iconst (v := 1) hx hb dX7_loose_1 (by decide) ?_
  refine lv_bipush (v := 20) hx hb dX7_loose_2 (by decide) ?_
  obtain ⟨u1, e1, hF⟩ := bdS hF
  refine xEndI (xRunS (As := [.int k, .int (1 : Int32), .int (20 : Int32)]) (rest := []) hZ (c_X7_within G k (1 : Int32) (20 : Int32) u1 e1 l H.size) m164 m165 m2 m166 3 hdX7_within ⟨Nat.le_of_ble_eq_true rfl, Nat.le_of_ble_eq_true rfl⟩ ⟨rfl, rfl⟩ hP hD hS [] rfl rfl rfl hl.1 rfl (Nat.le_of_ble_eq_true rfl) dX7_loose_4 ⟨Nat.zero_le _, Nat.zero_le _⟩) hP hD hS hA [] rfl rfl rfl (fun H locs n1 hP hD hS => ?_)
  have hP : va_P G.1 vwCl [(t, .inr (7, [.ref st, .ref kp, .int hasI, .int imgs, .ref vs, .ref rd, .ref wk, .ref chr, .ref shs, .ref er])), (st, .inr (3, [.ref kinds, .ref ms, .ref said, .ref signs, .ref tape, .ref avo, .ref tal, .ref wai, .int vow, .int day, .int worth, .int z])), (kinds, .inr (1, [.ref kinds_q, .int kinds_m])), (kinds_q, .inl (xI G, 6, .inl kinds_f)), (ms, .inr (1, [.ref ms_q, .int ms_m])), (ms_q, .inl (xI G, 6, .inl ms_f)), (said, .inr (1, [.ref said_q, .int said_m])), (said_q, .inl (xI G, 6, .inl said_f)), (signs, .inr (1, [.ref signs_q, .int signs_m])), (signs_q, .inl (xI G, 24, .inl signs_f)), (avo, .inr (1, [.ref avo_q, .int avo_m])), (avo_q, .inl (xI G, 60, .inl avo_f)), (tal, .inr (1, [.ref tal_q, .int tal_m])), (tal_q, .inl (xI G, 60, .inl tal_f)), (vs, .inr (5, [.ref spread, .ref breakers, .ref fit, .int fitting, .ref counted])), (spread, .inl (xI G, 64, .inl spread_f)), (breakers, .inl (xJ G, 729, .inr (.inl breakers_f))), (fit, .inl (xZ G, 729, .inl fit_f)), (counted, .inl (xI G, 64, .inl counted_f)), (wk, .inr (6, [.ref stack])), (stack, .inr (1, [.ref stack_q, .int stack_m])), (stack_q, .inl (xI G, 60, .inl stack_f)), (er, .inl (xI G, 7, .inl er_f))] H := hP
  have hD : va_D A [(t, .inr (7, [.ref st, .ref kp, .int hasI, .int imgs, .ref vs, .ref rd, .ref wk, .ref chr, .ref shs, .ref er])), (st, .inr (3, [.ref kinds, .ref ms, .ref said, .ref signs, .ref tape, .ref avo, .ref tal, .ref wai, .int vow, .int day, .int worth, .int z])), (kinds, .inr (1, [.ref kinds_q, .int kinds_m])), (kinds_q, .inl (xI G, 6, .inl kinds_f)), (ms, .inr (1, [.ref ms_q, .int ms_m])), (ms_q, .inl (xI G, 6, .inl ms_f)), (said, .inr (1, [.ref said_q, .int said_m])), (said_q, .inl (xI G, 6, .inl said_f)), (signs, .inr (1, [.ref signs_q, .int signs_m])), (signs_q, .inl (xI G, 24, .inl signs_f)), (avo, .inr (1, [.ref avo_q, .int avo_m])), (avo_q, .inl (xI G, 60, .inl avo_f)), (tal, .inr (1, [.ref tal_q, .int tal_m])), (tal_q, .inl (xI G, 60, .inl tal_f)), (vs, .inr (5, [.ref spread, .ref breakers, .ref fit, .int fitting, .ref counted])), (spread, .inl (xI G, 64, .inl spread_f)), (breakers, .inl (xJ G, 729, .inr (.inl breakers_f))), (fit, .inl (xZ G, 729, .inl fit_f)), (counted, .inl (xI G, 64, .inl counted_f)), (wk, .inr (6, [.ref stack])), (stack, .inr (1, [.ref stack_q, .int stack_m])), (stack_q, .inl (xI G, 60, .inl stack_f)), (er, .inl (xI G, 7, .inl er_f))] := hD
  refine lv_if_ne (tgt := 16) hx hb dX7_loose_7 (by decide) (fun c7 => ?_) (fun c7 => ?_)
  · have hF := itN c7 hF
    refine lv_aload_n hx hb dX7_loose_16 rfl (lv_at hl 0 rfl) ?_
    refine va_get (ci := 7) (v := .ref st) (C := RX7) (T := TX7) (N := 10) hx hb hts (fun w h => tcons w (xin7 w h)) hown hK hP 0 rfl rfl 0 (by decide) (hts _ (tcons _ m16)) (fun _ h9 => h9) rfl dX7_loose_17 ?_
    refine va_get (ci := 3) (v := .int day) (C := RX3) (T := TX3) (N := 12) hx hb hts (fun w h => tcons w (xin3 w h)) hown hK hP 1 rfl rfl 9 (by decide) (hts _ (tcons _ m223)) (fun _ h9 => h9) rfl dX7_loose_20 ?_
    refine lv_iload_n hx hb dX7_loose_23 rfl (lv_at hl 1 rfl) ?_
    refine lv_iadd hx hb dX7_loose_24 ?_
    refine lv_sipush (v := 9999) hx hb dX7_loose_25 (by decide) ?_
    refine lv_icmp_le (tgt := 37) hx hb dX7_loose_28 (by decide) (fun c28 => ?_) (fun c28 => ?_)
    · have hF := itP c28 hF
      refine lv_iconst (v := 0) hx hb dX7_loose_37 (by decide) ?_
      refine lv_istore_n (lv' := [(2, .int (0 : Int32)), (0, .ref t), (1, .int k)]) hx hb dX7_loose_38 rfl hl (by decide) rfl (fun ls hl => ?_)
      refine lv_iconst (v := 0) hx hb dX7_loose_39 (by decide) ?_
      refine lv_istore_n (lv' := [(3, .int (0 : Int32)), (2, .int (0 : Int32)), (0, .ref t), (1, .int k)]) hx hb dX7_loose_40 rfl hl (by decide) rfl (fun ls hl => ?_)
      refine xLoop13 (body := (B_X7_loose_41 vow kinds_m kinds_f ms_m ms_f said_m avo_m avo_f tal_m tal_f spread_f breakers_f er_f k)) (fun (v41_0 : Int32) (v41_1 : Int32) (v41_2 : Int32) (v41_3 : Int32) (v41_4 : Int32) (v41_5 : Nat → Int32) (v41_6 : Int32) (v41_7 : Nat → Int32) (v41_8 : Int32) (v41_9 : Nat → Int32) (v41_10 : Nat → Int32) (v41_11 : Int32) (v41_12 : Nat → Int32) H locs ls => va_P G.1 vwCl [(t, .inr (7, [.ref st, .ref kp, .int hasI, .int imgs, .ref vs, .ref rd, .ref wk, .ref chr, .ref shs, .ref er])), (st, .inr (3, [.ref kinds, .ref ms, .ref said, .ref signs, .ref tape, .ref avo, .ref tal, .ref wai, .int vow, .int v41_2, .int v41_3, .int v41_4])), (kinds, .inr (1, [.ref kinds_q, .int kinds_m])), (kinds_q, .inl (xI G, 6, .inl kinds_f)), (ms, .inr (1, [.ref ms_q, .int ms_m])), (ms_q, .inl (xI G, 6, .inl ms_f)), (said, .inr (1, [.ref said_q, .int said_m])), (said_q, .inl (xI G, 6, .inl v41_5)), (signs, .inr (1, [.ref signs_q, .int v41_6])), (signs_q, .inl (xI G, 24, .inl v41_7)), (avo, .inr (1, [.ref avo_q, .int avo_m])), (avo_q, .inl (xI G, 60, .inl avo_f)), (tal, .inr (1, [.ref tal_q, .int tal_m])), (tal_q, .inl (xI G, 60, .inl tal_f)), (vs, .inr (5, [.ref spread, .ref breakers, .ref fit, .int v41_8, .ref counted])), (spread, .inl (xI G, 64, .inl spread_f)), (breakers, .inl (xJ G, 729, .inr (.inl breakers_f))), (fit, .inl (xZ G, 729, .inl v41_9)), (counted, .inl (xI G, 64, .inl v41_10)), (wk, .inr (6, [.ref stack])), (stack, .inr (1, [.ref stack_q, .int v41_11])), (stack_q, .inl (xI G, 60, .inl v41_12)), (er, .inl (xI G, 7, .inl er_f))] H ∧ va_D A [(t, .inr (7, [.ref st, .ref kp, .int hasI, .int imgs, .ref vs, .ref rd, .ref wk, .ref chr, .ref shs, .ref er])), (st, .inr (3, [.ref kinds, .ref ms, .ref said, .ref signs, .ref tape, .ref avo, .ref tal, .ref wai, .int vow, .int v41_2, .int v41_3, .int v41_4])), (kinds, .inr (1, [.ref kinds_q, .int kinds_m])), (kinds_q, .inl (xI G, 6, .inl kinds_f)), (ms, .inr (1, [.ref ms_q, .int ms_m])), (ms_q, .inl (xI G, 6, .inl ms_f)), (said, .inr (1, [.ref said_q, .int said_m])), (said_q, .inl (xI G, 6, .inl v41_5)), (signs, .inr (1, [.ref signs_q, .int v41_6])), (signs_q, .inl (xI G, 24, .inl v41_7)), (avo, .inr (1, [.ref avo_q, .int avo_m])), (avo_q, .inl (xI G, 60, .inl avo_f)), (tal, .inr (1, [.ref tal_q, .int tal_m])), (tal_q, .inl (xI G, 60, .inl tal_f)), (vs, .inr (5, [.ref spread, .ref breakers, .ref fit, .int v41_8, .ref counted])), (spread, .inl (xI G, 64, .inl spread_f)), (breakers, .inl (xJ G, 729, .inr (.inl breakers_f))), (fit, .inl (xZ G, 729, .inl v41_9)), (counted, .inl (xI G, 64, .inl v41_10)), (wk, .inr (6, [.ref stack])), (stack, .inr (1, [.ref stack_q, .int v41_11])), (stack_q, .inl (xI G, 60, .inl v41_12)), (er, .inl (xI G, 7, .inl er_f))] ∧ va_S A s.heap H locs ∧ lv_has ls 4 [(0, .ref t), (1, .int k), (2, .int v41_0), (3, .int v41_1)]) (fun N41 v41_0 v41_1 v41_2 v41_3 v41_4 v41_5 v41_6 v41_7 v41_8 v41_9 v41_10 v41_11 v41_12 ih41 H locs ls hI hF => ?_) fuelC (0 : Int32) (0 : Int32) day worth z said_f signs_m signs_f fitting fit_f counted_f stack_m stack_f H locs ls ⟨hP, hD, hS, lv_sub hl [2, 3, 1, 0] rfl⟩ hF
      obtain ⟨hP, hD, hS, hl⟩ := hI
      unfold B_X7_loose_41 at hF
      refine lv_iload_n hx hb dX7_loose_41 rfl (lv_at hl 3 rfl) ?_
      refine lv_iload_n hx hb dX7_loose_42 rfl (lv_at hl 1 rfl) ?_
      refine lv_icmp_ge (tgt := 59) hx hb dX7_loose_43 (by decide) (fun c43 => ?_) (fun c43 => ?_)
      · have hF := itP c43 hF
        refine lv_iload_n hx hb dX7_loose_59 rfl (lv_at hl 2 rfl) ?_
        obtain rfl := Option.some.inj hF
        rw [← hQ]
        exact W.iret (v := v41_0) hx hb hr (fun t ht hW => ⟨⟨_, (), rfl, ⟨rfl, rfl⟩, xLf hP ht⟩, hS.F ht⟩) hS.2.2 dX7_loose_60
      · have hF := itN c43 hF
        refine lv_iload_n hx hb dX7_loose_46 rfl (lv_at hl 2 rfl) ?_
        refine lv_aload_n hx hb dX7_loose_47 rfl (lv_at hl 0 rfl) ?_
        obtain ⟨u2, e2, hF⟩ := bdS hF
        refine xEndI (xRunV (As := []) (rest := [.int v41_0]) hZ (c_X7_looseDay G t st kp vs rd wk chr shs er kinds ms said signs tape avo tal wai kinds_q ms_q said_q signs_q avo_q tal_q spread breakers fit counted stack stack_q hasI imgs vow v41_2 v41_3 v41_4 kinds_m kinds_f ms_m ms_f said_m v41_5 v41_6 v41_7 avo_m avo_f tal_m tal_f v41_8 spread_f breakers_f v41_9 v41_10 v41_11 v41_12 u2 e2 l H.size) m745 m746 m747 m2 m748 0 ⟨rfl, hdX7_looseDay⟩ ⟨Nat.le_of_ble_eq_true rfl, Nat.le_of_ble_eq_true rfl⟩ ⟨rfl, rfl⟩ hP hD hS 0 7 rfl rfl rfl [0, 1, 2, 3, 4, 5, 6, 7, 8, 9, 10, 11, 12, 13, 14, 15, 16, 17, 18, 19, 20, 21] rfl rfl rfl hl.1 rfl (Nat.le_of_ble_eq_true rfl) dX7_loose_48 ⟨Nat.zero_le _, Nat.zero_le _⟩) hP hD hS hA [0, 1, 2, 3, 4, 5, 6, 7, 8, 9, 10, 11, 12, 13, 14, 15, 16, 17, 18, 19, 20, 21] rfl rfl rfl (fun H locs n2 hP hD hS => ?_)
        have hP : va_P G.1 vwCl [(t, .inr (7, [.ref st, .ref kp, .int hasI, .int imgs, .ref vs, .ref rd, .ref wk, .ref chr, .ref shs, .ref er])), (st, .inr (3, [.ref kinds, .ref ms, .ref said, .ref signs, .ref tape, .ref avo, .ref tal, .ref wai, .int vow, .int u2.2.1, .int u2.2.2.1, .int u2.2.2.2.1])), (kinds, .inr (1, [.ref kinds_q, .int kinds_m])), (kinds_q, .inl (xI G, 6, .inl kinds_f)), (ms, .inr (1, [.ref ms_q, .int ms_m])), (ms_q, .inl (xI G, 6, .inl ms_f)), (said, .inr (1, [.ref said_q, .int said_m])), (said_q, .inl (xI G, 6, .inl u2.2.2.2.2.1)), (signs, .inr (1, [.ref signs_q, .int u2.2.2.2.2.2.1])), (signs_q, .inl (xI G, 24, .inl u2.2.2.2.2.2.2.1)), (avo, .inr (1, [.ref avo_q, .int avo_m])), (avo_q, .inl (xI G, 60, .inl avo_f)), (tal, .inr (1, [.ref tal_q, .int tal_m])), (tal_q, .inl (xI G, 60, .inl tal_f)), (vs, .inr (5, [.ref spread, .ref breakers, .ref fit, .int u2.2.2.2.2.2.2.2.1, .ref counted])), (spread, .inl (xI G, 64, .inl spread_f)), (breakers, .inl (xJ G, 729, .inr (.inl breakers_f))), (fit, .inl (xZ G, 729, .inl u2.2.2.2.2.2.2.2.2.1)), (counted, .inl (xI G, 64, .inl u2.2.2.2.2.2.2.2.2.2.1)), (wk, .inr (6, [.ref stack])), (stack, .inr (1, [.ref stack_q, .int u2.2.2.2.2.2.2.2.2.2.2.1])), (stack_q, .inl (xI G, 60, .inl u2.2.2.2.2.2.2.2.2.2.2.2)), (er, .inl (xI G, 7, .inl er_f))] H := hP
        have hD : va_D A [(t, .inr (7, [.ref st, .ref kp, .int hasI, .int imgs, .ref vs, .ref rd, .ref wk, .ref chr, .ref shs, .ref er])), (st, .inr (3, [.ref kinds, .ref ms, .ref said, .ref signs, .ref tape, .ref avo, .ref tal, .ref wai, .int vow, .int u2.2.1, .int u2.2.2.1, .int u2.2.2.2.1])), (kinds, .inr (1, [.ref kinds_q, .int kinds_m])), (kinds_q, .inl (xI G, 6, .inl kinds_f)), (ms, .inr (1, [.ref ms_q, .int ms_m])), (ms_q, .inl (xI G, 6, .inl ms_f)), (said, .inr (1, [.ref said_q, .int said_m])), (said_q, .inl (xI G, 6, .inl u2.2.2.2.2.1)), (signs, .inr (1, [.ref signs_q, .int u2.2.2.2.2.2.1])), (signs_q, .inl (xI G, 24, .inl u2.2.2.2.2.2.2.1)), (avo, .inr (1, [.ref avo_q, .int avo_m])), (avo_q, .inl (xI G, 60, .inl avo_f)), (tal, .inr (1, [.ref tal_q, .int tal_m])), (tal_q, .inl (xI G, 60, .inl tal_f)), (vs, .inr (5, [.ref spread, .ref breakers, .ref fit, .int u2.2.2.2.2.2.2.2.1, .ref counted])), (spread, .inl (xI G, 64, .inl spread_f)), (breakers, .inl (xJ G, 729, .inr (.inl breakers_f))), (fit, .inl (xZ G, 729, .inl u2.2.2.2.2.2.2.2.2.1)), (counted, .inl (xI G, 64, .inl u2.2.2.2.2.2.2.2.2.2.1)), (wk, .inr (6, [.ref stack])), (stack, .inr (1, [.ref stack_q, .int u2.2.2.2.2.2.2.2.2.2.2.1])), (stack_q, .inl (xI G, 60, .inl u2.2.2.2.2.2.2.2.2.2.2.2)), (er, .inl (xI G, 7, .inl er_f))] := hD
        refine lv_iadd hx hb dX7_loose_51 ?_
        refine lv_istore_n (lv' := [(2, .int (v41_0 + u2.1)), (0, .ref t), (1, .int k), (3, .int v41_1)]) hx hb dX7_loose_52 rfl hl (by decide) rfl (fun ls hl => ?_)
        refine lv_iinc (v := (v41_1 + (1 : Int32))) (lv' := [(3, .int (v41_1 + (1 : Int32))), (2, .int (v41_0 + u2.1)), (0, .ref t), (1, .int k)]) hx hb dX7_loose_53 hl (k := 3) rfl (xInc_1 _) (by decide) rfl (fun ls hl => ?_)
        refine lv_goto (tgt := 41) hx hb dX7_loose_56 (by decide) ?_
        exact ih41 (v41_0 + u2.1) (v41_1 + (1 : Int32)) u2.2.1 u2.2.2.1 u2.2.2.2.1 u2.2.2.2.2.1 u2.2.2.2.2.2.1 u2.2.2.2.2.2.2.1 u2.2.2.2.2.2.2.2.1 u2.2.2.2.2.2.2.2.2.1 u2.2.2.2.2.2.2.2.2.2.1 u2.2.2.2.2.2.2.2.2.2.2.1 u2.2.2.2.2.2.2.2.2.2.2.2 H locs ls ⟨hP, hD, hS, lv_sub hl [2, 3, 1, 0] rfl⟩ hF
    · have hF := itN c28 hF
      refine lv_aload_n hx hb dX7_loose_31 rfl (lv_at hl 0 rfl) ?_
      refine lv_iconst (v := 3) hx hb dX7_loose_32 (by decide) ?_
      obtain ⟨u2, e2, hF⟩ := bdS hF
      refine xEndI (xRunV (As := [.int (3 : Int32)]) (rest := []) hZ (c_X7_error G t st kp vs rd wk chr shs er hasI imgs er_f (3 : Int32) u2 e2 l H.size) m167 m168 m169 m2 m170 1 ⟨rfl, hdX7_error⟩ ⟨Nat.le_of_ble_eq_true rfl, Nat.le_of_ble_eq_true rfl⟩ ⟨rfl, rfl⟩ hP hD hS 0 7 rfl rfl rfl [0, 22] rfl rfl rfl hl.1 rfl (Nat.le_of_ble_eq_true rfl) dX7_loose_33 ⟨Nat.zero_le _, Nat.zero_le _⟩) hP hD hS hA [0, 22] rfl rfl rfl (fun H locs n2 hP hD hS => ?_)
      have hP : va_P G.1 vwCl [(t, .inr (7, [.ref st, .ref kp, .int hasI, .int imgs, .ref vs, .ref rd, .ref wk, .ref chr, .ref shs, .ref er])), (st, .inr (3, [.ref kinds, .ref ms, .ref said, .ref signs, .ref tape, .ref avo, .ref tal, .ref wai, .int vow, .int day, .int worth, .int z])), (kinds, .inr (1, [.ref kinds_q, .int kinds_m])), (kinds_q, .inl (xI G, 6, .inl kinds_f)), (ms, .inr (1, [.ref ms_q, .int ms_m])), (ms_q, .inl (xI G, 6, .inl ms_f)), (said, .inr (1, [.ref said_q, .int said_m])), (said_q, .inl (xI G, 6, .inl said_f)), (signs, .inr (1, [.ref signs_q, .int signs_m])), (signs_q, .inl (xI G, 24, .inl signs_f)), (avo, .inr (1, [.ref avo_q, .int avo_m])), (avo_q, .inl (xI G, 60, .inl avo_f)), (tal, .inr (1, [.ref tal_q, .int tal_m])), (tal_q, .inl (xI G, 60, .inl tal_f)), (vs, .inr (5, [.ref spread, .ref breakers, .ref fit, .int fitting, .ref counted])), (spread, .inl (xI G, 64, .inl spread_f)), (breakers, .inl (xJ G, 729, .inr (.inl breakers_f))), (fit, .inl (xZ G, 729, .inl fit_f)), (counted, .inl (xI G, 64, .inl counted_f)), (wk, .inr (6, [.ref stack])), (stack, .inr (1, [.ref stack_q, .int stack_m])), (stack_q, .inl (xI G, 60, .inl stack_f)), (er, .inl (xI G, 7, .inl u2.2))] H := hP
      have hD : va_D A [(t, .inr (7, [.ref st, .ref kp, .int hasI, .int imgs, .ref vs, .ref rd, .ref wk, .ref chr, .ref shs, .ref er])), (st, .inr (3, [.ref kinds, .ref ms, .ref said, .ref signs, .ref tape, .ref avo, .ref tal, .ref wai, .int vow, .int day, .int worth, .int z])), (kinds, .inr (1, [.ref kinds_q, .int kinds_m])), (kinds_q, .inl (xI G, 6, .inl kinds_f)), (ms, .inr (1, [.ref ms_q, .int ms_m])), (ms_q, .inl (xI G, 6, .inl ms_f)), (said, .inr (1, [.ref said_q, .int said_m])), (said_q, .inl (xI G, 6, .inl said_f)), (signs, .inr (1, [.ref signs_q, .int signs_m])), (signs_q, .inl (xI G, 24, .inl signs_f)), (avo, .inr (1, [.ref avo_q, .int avo_m])), (avo_q, .inl (xI G, 60, .inl avo_f)), (tal, .inr (1, [.ref tal_q, .int tal_m])), (tal_q, .inl (xI G, 60, .inl tal_f)), (vs, .inr (5, [.ref spread, .ref breakers, .ref fit, .int fitting, .ref counted])), (spread, .inl (xI G, 64, .inl spread_f)), (breakers, .inl (xJ G, 729, .inr (.inl breakers_f))), (fit, .inl (xZ G, 729, .inl fit_f)), (counted, .inl (xI G, 64, .inl counted_f)), (wk, .inr (6, [.ref stack])), (stack, .inr (1, [.ref stack_q, .int stack_m])), (stack_q, .inl (xI G, 60, .inl stack_f)), (er, .inl (xI G, 7, .inl u2.2))] := hD
      obtain rfl := Option.some.inj hF
      rw [← hQ]
      exact W.iret (v := u2.1) hx hb hr (fun t ht hW => ⟨⟨_, (), rfl, ⟨rfl, rfl⟩, xLf hP ht⟩, hS.F ht⟩) hS.2.2 dX7_loose_36
  · have hF := itP c7 hF
    refine lv_aload_n hx hb dX7_loose_10 rfl (lv_at hl 0 rfl) ?_
    refine lv_iconst (v := 1) hx hb dX7_loose_11 (by decide) ?_
    obtain ⟨u2, e2, hF⟩ := bdS hF
    refine xEndI (xRunV (As := [.int (1 : Int32)]) (rest := []) hZ (c_X7_error G t st kp vs rd wk chr shs er hasI imgs er_f (1 : Int32) u2 e2 l H.size) m167 m168 m169 m2 m170 1 ⟨rfl, hdX7_error⟩ ⟨Nat.le_of_ble_eq_true rfl, Nat.le_of_ble_eq_true rfl⟩ ⟨rfl, rfl⟩ hP hD hS 0 7 rfl rfl rfl [0, 22] rfl rfl rfl hl.1 rfl (Nat.le_of_ble_eq_true rfl) dX7_loose_12 ⟨Nat.zero_le _, Nat.zero_le _⟩) hP hD hS hA [0, 22] rfl rfl rfl (fun H locs n2 hP hD hS => ?_)
    have hP : va_P G.1 vwCl [(t, .inr (7, [.ref st, .ref kp, .int hasI, .int imgs, .ref vs, .ref rd, .ref wk, .ref chr, .ref shs, .ref er])), (st, .inr (3, [.ref kinds, .ref ms, .ref said, .ref signs, .ref tape, .ref avo, .ref tal, .ref wai, .int vow, .int day, .int worth, .int z])), (kinds, .inr (1, [.ref kinds_q, .int kinds_m])), (kinds_q, .inl (xI G, 6, .inl kinds_f)), (ms, .inr (1, [.ref ms_q, .int ms_m])), (ms_q, .inl (xI G, 6, .inl ms_f)), (said, .inr (1, [.ref said_q, .int said_m])), (said_q, .inl (xI G, 6, .inl said_f)), (signs, .inr (1, [.ref signs_q, .int signs_m])), (signs_q, .inl (xI G, 24, .inl signs_f)), (avo, .inr (1, [.ref avo_q, .int avo_m])), (avo_q, .inl (xI G, 60, .inl avo_f)), (tal, .inr (1, [.ref tal_q, .int tal_m])), (tal_q, .inl (xI G, 60, .inl tal_f)), (vs, .inr (5, [.ref spread, .ref breakers, .ref fit, .int fitting, .ref counted])), (spread, .inl (xI G, 64, .inl spread_f)), (breakers, .inl (xJ G, 729, .inr (.inl breakers_f))), (fit, .inl (xZ G, 729, .inl fit_f)), (counted, .inl (xI G, 64, .inl counted_f)), (wk, .inr (6, [.ref stack])), (stack, .inr (1, [.ref stack_q, .int stack_m])), (stack_q, .inl (xI G, 60, .inl stack_f)), (er, .inl (xI G, 7, .inl u2.2))] H := hP
    have hD : va_D A [(t, .inr (7, [.ref st, .ref kp, .int hasI, .int imgs, .ref vs, .ref rd, .ref wk, .ref chr, .ref shs, .ref er])), (st, .inr (3, [.ref kinds, .ref ms, .ref said, .ref signs, .ref tape, .ref avo, .ref tal, .ref wai, .int vow, .int day, .int worth, .int z])), (kinds, .inr (1, [.ref kinds_q, .int kinds_m])), (kinds_q, .inl (xI G, 6, .inl kinds_f)), (ms, .inr (1, [.ref ms_q, .int ms_m])), (ms_q, .inl (xI G, 6, .inl ms_f)), (said, .inr (1, [.ref said_q, .int said_m])), (said_q, .inl (xI G, 6, .inl said_f)), (signs, .inr (1, [.ref signs_q, .int signs_m])), (signs_q, .inl (xI G, 24, .inl signs_f)), (avo, .inr (1, [.ref avo_q, .int avo_m])), (avo_q, .inl (xI G, 60, .inl avo_f)), (tal, .inr (1, [.ref tal_q, .int tal_m])), (tal_q, .inl (xI G, 60, .inl tal_f)), (vs, .inr (5, [.ref spread, .ref breakers, .ref fit, .int fitting, .ref counted])), (spread, .inl (xI G, 64, .inl spread_f)), (breakers, .inl (xJ G, 729, .inr (.inl breakers_f))), (fit, .inl (xZ G, 729, .inl fit_f)), (counted, .inl (xI G, 64, .inl counted_f)), (wk, .inr (6, [.ref stack])), (stack, .inr (1, [.ref stack_q, .int stack_m])), (stack_q, .inl (xI G, 60, .inl stack_f)), (er, .inl (xI G, 7, .inl u2.2))] := hD
    obtain rfl := Option.some.inj hF
    rw [← hQ]
    exact W.iret (v := u2.1) hx hb hr (fun t ht hW => ⟨⟨_, (), rfl, ⟨rfl, rfl⟩, xLf hP ht⟩, hS.F ht⟩) hS.2.2 dX7_loose_15
def F_X7_day (day : Int32) (er_f : Nat → Int32) (vo : Int32) : Option (Int32 × Int32 × (Nat → Int32)) := bd (F_X7_within vo (0 : Int32) (9999 : Int32)) (fun (u1 : Int32) => if u1 = 0 then (bd (F_X7_error er_f (1 : Int32)) (fun (u2 : (Int32 × (Nat → Int32))) => some (u2.1, day, u2.2))) else (some (day, vo, er_f)))
theorem hdX7_day : yX7_day.cls ≠ "java/lang/invoke/MethodHandle" ∧ yX7_day.cls ≠ "java/lang/invoke/VarHandle" ∧ (parseMethodDescriptor yX7_day.desc).map (fun d => d.parameters.length) = some 1 := by decide +kernel
set_option maxHeartbeats 4000000 in
set_option maxRecDepth 100000 in
theorem c_X7_day (G : xG) (t : Nat) (st : Nat) (kp : Nat) (vs : Nat) (rd : Nat) (wk : Nat) (chr : Nat) (shs : Nat) (er : Nat) (kinds : Nat) (ms : Nat) (said : Nat) (signs : Nat) (tape : Nat) (avo : Nat) (tal : Nat) (wai : Nat) (hasI : Int32) (imgs : Int32) (vow : Int32) (day : Int32) (worth : Int32) (z : Int32) (er_f : Nat → Int32) (vo : Int32)  (u : (Int32 × Int32 × (Nat → Int32))) (hF : F_X7_day day er_f vo = some u) : Ki G .int yX7_day (Cond.code yX7_day cX7_day 3 (some .int) :: TBL) { frames := 2, cells := 0, slots := 0, locals := 43 } [.ref t, .int vo] [(t, .inr (7, [.ref st, .ref kp, .int hasI, .int imgs, .ref vs, .ref rd, .ref wk, .ref chr, .ref shs, .ref er])), (st, .inr (3, [.ref kinds, .ref ms, .ref said, .ref signs, .ref tape, .ref avo, .ref tal, .ref wai, .int vow, .int day, .int worth, .int z])), (er, .inl (xI G, 7, .inl er_f))] [(t, .inr (7, [.ref st, .ref kp, .int hasI, .int imgs, .ref vs, .ref rd, .ref wk, .ref chr, .ref shs, .ref er])), (st, .inr (3, [.ref kinds, .ref ms, .ref said, .ref signs, .ref tape, .ref avo, .ref tal, .ref wai, .int vow, .int u.2.1, .int worth, .int z])), (er, .inl (xI G, 7, .inl u.2.2))] u.1 := by
  intro l sz
  refine Met.ofW (cc := cX7_day) (maxL := 3) (ret := (some .int)) (by decide) rfl ?_
  intro p e s m args below meth c s₁ B hml hv
  obtain ⟨rfl, hsz, hP, hD0, hm⟩ := hv
  have hx := B.exec
  have hb := B.bytes
  have hr := B.returns
  have hts := atoms_spec (ws := Cond.code yX7_day cX7_day 3 (some .int) :: TBL) B.pre
  have hown : s.vm.findClass RX7 = some m.cls := findClass_of_methodNamed B.named
  have hlocks := B.notSynchronized
  subst hsz
  have hD := hD0.self (sz := s.heap.size)
  generalize hAe : va_A [(t, .inr (7, [.ref st, .ref kp, .int hasI, .int imgs, .ref vs, .ref rd, .ref wk, .ref chr, .ref shs, .ref er])), (st, .inr (3, [.ref kinds, .ref ms, .ref said, .ref signs, .ref tape, .ref avo, .ref tal, .ref wai, .int vow, .int day, .int worth, .int z])), (er, .inl (xI G, 7, .inl er_f))] s.heap.size = A at hD hm ⊢
  have hA : ∀ q : Nat, s.heap.size ≤ q → A q := fun q h => by rw [← hAe]; exact Or.inr h
  have hK := hm.1
  have hZ : xAnd p m c cX7_day 3 s _ (Cond.code yX7_day cX7_day 3 (some .int) :: TBL) RX7 G A := ⟨⟨hx, hb, hml, hown, hts⟩, tcons, hA, hm⟩
  have hP : va_P G.1 vwCl [(t, .inr (7, [.ref st, .ref kp, .int hasI, .int imgs, .ref vs, .ref rd, .ref wk, .ref chr, .ref shs, .ref er])), (st, .inr (3, [.ref kinds, .ref ms, .ref said, .ref signs, .ref tape, .ref avo, .ref tal, .ref wai, .int vow, .int day, .int worth, .int z])), (er, .inl (xI G, 7, .inl er_f))] s.heap := hP
  have hl := lv_entry ([.ref t, .int vo]) (n := 3) (Nat.le_of_ble_eq_true rfl)
  rw [lg_entry_eq]
  generalize (lg_sl ([.ref t, .int vo]) ++ List.replicate (3 - (lg_sl ([.ref t, .int vo])).length) Slot.unset).toArray = ls at hl ⊢
  have hl : lv_has ls 3 [(0, .ref t), (1, .int vo)] := hl
  generalize hQ : MQ below _ _ s _ _ _ = Q
  refine xGo (A := A) hP (fun H locs hP hS => ?_)
  unfold F_X7_day at hF
  refine lv_iload_n hx hb dX7_day_0 rfl (lv_at hl 1 rfl) ?_
  refine lv_iconst (v := 0) hx hb dX7_day_1 (by decide) ?_
  refine lv_sipush (v := 9999) hx hb dX7_day_2 (by decide) ?_
  obtain ⟨u1, e1, hF⟩ := bdS hF
  refine xEndI (xRunS (As := [.int vo, .int (0 : Int32), .int (9999 : Int32)]) (rest := []) hZ (c_X7_within G vo (0 : Int32) (9999 : Int32) u1 e1 l H.size) m164 m165 m2 m166 3 hdX7_within ⟨Nat.le_of_ble_eq_true rfl, Nat.le_of_ble_eq_true rfl⟩ ⟨rfl, rfl⟩ hP hD hS [] rfl rfl rfl hl.1 rfl (Nat.le_of_ble_eq_true rfl) dX7_day_5 ⟨Nat.zero_le _, Nat.zero_le _⟩) hP hD hS hA [] rfl rfl rfl (fun H locs n1 hP hD hS => ?_)
  have hP : va_P G.1 vwCl [(t, .inr (7, [.ref st, .ref kp, .int hasI, .int imgs, .ref vs, .ref rd, .ref wk, .ref chr, .ref shs, .ref er])), (st, .inr (3, [.ref kinds, .ref ms, .ref said, .ref signs, .ref tape, .ref avo, .ref tal, .ref wai, .int vow, .int day, .int worth, .int z])), (er, .inl (xI G, 7, .inl er_f))] H := hP
  have hD : va_D A [(t, .inr (7, [.ref st, .ref kp, .int hasI, .int imgs, .ref vs, .ref rd, .ref wk, .ref chr, .ref shs, .ref er])), (st, .inr (3, [.ref kinds, .ref ms, .ref said, .ref signs, .ref tape, .ref avo, .ref tal, .ref wai, .int vow, .int day, .int worth, .int z])), (er, .inl (xI G, 7, .inl er_f))] := hD
  refine lv_if_ne (tgt := 17) hx hb dX7_day_8 (by decide) (fun c8 => ?_) (fun c8 => ?_)
  · have hF := itN c8 hF
    refine lv_aload_n hx hb dX7_day_17 rfl (lv_at hl 0 rfl) ?_
    refine va_get (ci := 7) (v := .ref st) (C := RX7) (T := TX7) (N := 10) hx hb hts (fun w h => tcons w (xin7 w h)) hown hK hP 0 rfl rfl 0 (by decide) (hts _ (tcons _ m16)) (fun _ h9 => h9) rfl dX7_day_18 ?_
    refine va_get (ci := 3) (v := .int day) (C := RX3) (T := TX3) (N := 12) hx hb hts (fun w h => tcons w (xin3 w h)) hown hK hP 1 rfl rfl 9 (by decide) (hts _ (tcons _ m223)) (fun _ h9 => h9) rfl dX7_day_21 ?_
    refine lv_istore_n (lv' := [(2, .int day), (0, .ref t), (1, .int vo)]) hx hb dX7_day_24 rfl hl (by decide) rfl (fun ls hl => ?_)
    refine lv_aload_n hx hb dX7_day_25 rfl (lv_at hl 1 rfl) ?_
    refine va_get (ci := 7) (v := .ref st) (C := RX7) (T := TX7) (N := 10) hx hb hts (fun w h => tcons w (xin7 w h)) hown hK hP 0 rfl rfl 0 (by decide) (hts _ (tcons _ m16)) (fun _ h9 => h9) rfl dX7_day_26 ?_
    refine lv_iload_n hx hb dX7_day_29 rfl (lv_at hl 2 rfl) ?_
    refine va_put (ci := 3) (v := .int vo) (ty := .int) (C := RX3) (T := TX3) (N := 12) hx hb hts (fun w h => tcons w (xin3 w h)) tyX3 tyX3_ok nmX3 hown hK hP hD hS 1 rfl rfl 9 (by decide) (hts _ (tcons _ m223)) (fun _ h9 => h9) rfl (by decide +kernel) rfl rfl (Nat.le_of_ble_eq_true rfl) dX7_day_30 (fun H locs hP hD hS => ?_)
    have hP : va_P G.1 vwCl [(t, .inr (7, [.ref st, .ref kp, .int hasI, .int imgs, .ref vs, .ref rd, .ref wk, .ref chr, .ref shs, .ref er])), (st, .inr (3, [.ref kinds, .ref ms, .ref said, .ref signs, .ref tape, .ref avo, .ref tal, .ref wai, .int vow, .int vo, .int worth, .int z])), (er, .inl (xI G, 7, .inl er_f))] H := hP
    have hD : va_D A [(t, .inr (7, [.ref st, .ref kp, .int hasI, .int imgs, .ref vs, .ref rd, .ref wk, .ref chr, .ref shs, .ref er])), (st, .inr (3, [.ref kinds, .ref ms, .ref said, .ref signs, .ref tape, .ref avo, .ref tal, .ref wai, .int vow, .int vo, .int worth, .int z])), (er, .inl (xI G, 7, .inl er_f))] := hD
    refine lv_iload_n hx hb dX7_day_33 rfl (lv_at hl 0 rfl) ?_
    obtain rfl := Option.some.inj hF
    rw [← hQ]
    exact W.iret (v := day) hx hb hr (fun t ht hW => ⟨⟨_, (), rfl, ⟨rfl, rfl⟩, xLf hP ht⟩, hS.F ht⟩) hS.2.2 dX7_day_34
  · have hF := itP c8 hF
    refine lv_aload_n hx hb dX7_day_11 rfl (lv_at hl 0 rfl) ?_
    refine lv_iconst (v := 1) hx hb dX7_day_12 (by decide) ?_
    obtain ⟨u2, e2, hF⟩ := bdS hF
    refine xEndI (xRunV (As := [.int (1 : Int32)]) (rest := []) hZ (c_X7_error G t st kp vs rd wk chr shs er hasI imgs er_f (1 : Int32) u2 e2 l H.size) m167 m168 m169 m2 m170 1 ⟨rfl, hdX7_error⟩ ⟨Nat.le_of_ble_eq_true rfl, Nat.le_of_ble_eq_true rfl⟩ ⟨rfl, rfl⟩ hP hD hS 0 7 rfl rfl rfl [0, 2] rfl rfl rfl hl.1 rfl (Nat.le_of_ble_eq_true rfl) dX7_day_13 ⟨Nat.zero_le _, Nat.zero_le _⟩) hP hD hS hA [0, 2] rfl rfl rfl (fun H locs n2 hP hD hS => ?_)
    have hP : va_P G.1 vwCl [(t, .inr (7, [.ref st, .ref kp, .int hasI, .int imgs, .ref vs, .ref rd, .ref wk, .ref chr, .ref shs, .ref er])), (st, .inr (3, [.ref kinds, .ref ms, .ref said, .ref signs, .ref tape, .ref avo, .ref tal, .ref wai, .int vow, .int day, .int worth, .int z])), (er, .inl (xI G, 7, .inl u2.2))] H := hP
    have hD : va_D A [(t, .inr (7, [.ref st, .ref kp, .int hasI, .int imgs, .ref vs, .ref rd, .ref wk, .ref chr, .ref shs, .ref er])), (st, .inr (3, [.ref kinds, .ref ms, .ref said, .ref signs, .ref tape, .ref avo, .ref tal, .ref wai, .int vow, .int day, .int worth, .int z])), (er, .inl (xI G, 7, .inl u2.2))] := hD
    obtain rfl := Option.some.inj hF
    rw [← hQ]
    exact W.iret (v := u2.1) hx hb hr (fun t ht hW => ⟨⟨_, (), rfl, ⟨rfl, rfl⟩, xLf hP ht⟩, hS.F ht⟩) hS.2.2 dX7_day_16
def F_X7_seed (z : Int32) (vo : Int32) : Option (Int32 × Int32) := some (z, vo)
theorem hdX7_seed : yX7_seed.cls ≠ "java/lang/invoke/MethodHandle" ∧ yX7_seed.cls ≠ "java/lang/invoke/VarHandle" ∧ (parseMethodDescriptor yX7_seed.desc).map (fun d => d.parameters.length) = some 1 := by decide +kernel
set_option maxHeartbeats 4000000 in
set_option maxRecDepth 100000 in
theorem c_X7_seed (G : xG) (t : Nat) (st : Nat) (kp : Nat) (vs : Nat) (rd : Nat) (wk : Nat) (chr : Nat) (shs : Nat) (er : Nat) (kinds : Nat) (ms : Nat) (said : Nat) (signs : Nat) (tape : Nat) (avo : Nat) (tal : Nat) (wai : Nat) (hasI : Int32) (imgs : Int32) (vow : Int32) (day : Int32) (worth : Int32) (z : Int32) (vo : Int32)  (u : (Int32 × Int32)) (hF : F_X7_seed z vo = some u) : Ki G .int yX7_seed (Cond.code yX7_seed cX7_seed 3 (some .int) :: TBL) { frames := 0, cells := 0, slots := 0, locals := 0 } [.ref t, .int vo] [(t, .inr (7, [.ref st, .ref kp, .int hasI, .int imgs, .ref vs, .ref rd, .ref wk, .ref chr, .ref shs, .ref er])), (st, .inr (3, [.ref kinds, .ref ms, .ref said, .ref signs, .ref tape, .ref avo, .ref tal, .ref wai, .int vow, .int day, .int worth, .int z]))] [(t, .inr (7, [.ref st, .ref kp, .int hasI, .int imgs, .ref vs, .ref rd, .ref wk, .ref chr, .ref shs, .ref er])), (st, .inr (3, [.ref kinds, .ref ms, .ref said, .ref signs, .ref tape, .ref avo, .ref tal, .ref wai, .int vow, .int day, .int worth, .int u.2]))] u.1 := by
  intro l sz
  refine Met.ofW (cc := cX7_seed) (maxL := 3) (ret := (some .int)) (by decide) rfl ?_
  intro p e s m args below meth c s₁ B hml hv
  obtain ⟨rfl, hsz, hP, hD0, hm⟩ := hv
  have hx := B.exec
  have hb := B.bytes
  have hr := B.returns
  have hts := atoms_spec (ws := Cond.code yX7_seed cX7_seed 3 (some .int) :: TBL) B.pre
  have hown : s.vm.findClass RX7 = some m.cls := findClass_of_methodNamed B.named
  have hlocks := B.notSynchronized
  subst hsz
  have hD := hD0.self (sz := s.heap.size)
  generalize hAe : va_A [(t, .inr (7, [.ref st, .ref kp, .int hasI, .int imgs, .ref vs, .ref rd, .ref wk, .ref chr, .ref shs, .ref er])), (st, .inr (3, [.ref kinds, .ref ms, .ref said, .ref signs, .ref tape, .ref avo, .ref tal, .ref wai, .int vow, .int day, .int worth, .int z]))] s.heap.size = A at hD hm ⊢
  have hA : ∀ q : Nat, s.heap.size ≤ q → A q := fun q h => by rw [← hAe]; exact Or.inr h
  have hK := hm.1
  have hZ : xAnd p m c cX7_seed 3 s _ (Cond.code yX7_seed cX7_seed 3 (some .int) :: TBL) RX7 G A := ⟨⟨hx, hb, hml, hown, hts⟩, tcons, hA, hm⟩
  have hP : va_P G.1 vwCl [(t, .inr (7, [.ref st, .ref kp, .int hasI, .int imgs, .ref vs, .ref rd, .ref wk, .ref chr, .ref shs, .ref er])), (st, .inr (3, [.ref kinds, .ref ms, .ref said, .ref signs, .ref tape, .ref avo, .ref tal, .ref wai, .int vow, .int day, .int worth, .int z]))] s.heap := hP
  have hl := lv_entry ([.ref t, .int vo]) (n := 3) (Nat.le_of_ble_eq_true rfl)
  rw [lg_entry_eq]
  generalize (lg_sl ([.ref t, .int vo]) ++ List.replicate (3 - (lg_sl ([.ref t, .int vo])).length) Slot.unset).toArray = ls at hl ⊢
  have hl : lv_has ls 3 [(0, .ref t), (1, .int vo)] := hl
  generalize hQ : MQ below _ _ s _ _ _ = Q
  refine xGo (A := A) hP (fun H locs hP hS => ?_)
  unfold F_X7_seed at hF
  refine lv_aload_n hx hb dX7_seed_0 rfl (lv_at hl 0 rfl) ?_
  refine va_get (ci := 7) (v := .ref st) (C := RX7) (T := TX7) (N := 10) hx hb hts (fun w h => tcons w (xin7 w h)) hown hK hP 0 rfl rfl 0 (by decide) (hts _ (tcons _ m16)) (fun _ h9 => h9) rfl dX7_seed_1 ?_
  refine va_get (ci := 3) (v := .int z) (C := RX3) (T := TX3) (N := 12) hx hb hts (fun w h => tcons w (xin3 w h)) hown hK hP 1 rfl rfl 11 (by decide) (hts _ (tcons _ m779)) (fun _ h9 => h9) rfl dX7_seed_4 ?_
  refine lv_istore_n (lv' := [(2, .int z), (0, .ref t), (1, .int vo)]) hx hb dX7_seed_7 rfl hl (by decide) rfl (fun ls hl => ?_)
  refine lv_aload_n hx hb dX7_seed_8 rfl (lv_at hl 1 rfl) ?_
  refine va_get (ci := 7) (v := .ref st) (C := RX7) (T := TX7) (N := 10) hx hb hts (fun w h => tcons w (xin7 w h)) hown hK hP 0 rfl rfl 0 (by decide) (hts _ (tcons _ m16)) (fun _ h9 => h9) rfl dX7_seed_9 ?_
  refine lv_iload_n hx hb dX7_seed_12 rfl (lv_at hl 2 rfl) ?_
  refine va_put (ci := 3) (v := .int vo) (ty := .int) (C := RX3) (T := TX3) (N := 12) hx hb hts (fun w h => tcons w (xin3 w h)) tyX3 tyX3_ok nmX3 hown hK hP hD hS 1 rfl rfl 11 (by decide) (hts _ (tcons _ m779)) (fun _ h9 => h9) rfl (by decide +kernel) rfl rfl (Nat.le_of_ble_eq_true rfl) dX7_seed_13 (fun H locs hP hD hS => ?_)
  have hP : va_P G.1 vwCl [(t, .inr (7, [.ref st, .ref kp, .int hasI, .int imgs, .ref vs, .ref rd, .ref wk, .ref chr, .ref shs, .ref er])), (st, .inr (3, [.ref kinds, .ref ms, .ref said, .ref signs, .ref tape, .ref avo, .ref tal, .ref wai, .int vow, .int day, .int worth, .int vo]))] H := hP
  have hD : va_D A [(t, .inr (7, [.ref st, .ref kp, .int hasI, .int imgs, .ref vs, .ref rd, .ref wk, .ref chr, .ref shs, .ref er])), (st, .inr (3, [.ref kinds, .ref ms, .ref said, .ref signs, .ref tape, .ref avo, .ref tal, .ref wai, .int vow, .int day, .int worth, .int vo]))] := hD
  refine lv_iload_n hx hb dX7_seed_16 rfl (lv_at hl 0 rfl) ?_
  obtain rfl := Option.some.inj hF
  rw [← hQ]
  exact W.iret (v := z) hx hb hr (fun t ht hW => ⟨⟨_, (), rfl, ⟨rfl, rfl⟩, xLf hP ht⟩, hS.F ht⟩) hS.2.2 dX7_seed_17
def F_X7_vows (fitting : Int32) (fit_f : Nat → Int32) (er_f : Nat → Int32) (wh : Int32) : Option (Int32 × (Nat → Int32)) := bd (F_X7_within wh (0 : Int32) (3 : Int32)) (fun (u1 : Int32) => if u1 = 0 then (bd (F_X7_error er_f (1 : Int32)) (fun (u2 : (Int32 × (Nat → Int32))) => some (u2.1, u2.2))) else (if wh = 0 then (bd (F_X5_fitting fitting) (fun (u2 : Int32) => some (u2, er_f))) else (bd (F_X5_fitting fitting) (fun (u2 : Int32) => if u2 = 0 then (bd (F_X7_error er_f (2 : Int32)) (fun (u3 : (Int32 × (Nat → Int32))) => some (u3.1, u3.2))) else (if wh = (1 : Int32) then (bd (F_X5_least fit_f) (fun (u3 : Int32) => some (u3, er_f))) else (bd (F_X5_simplest fit_f) (fun (u3 : Int32) => if wh = (2 : Int32) then (some (u3, er_f)) else (bd (F_X5_settled u3) (fun (u4 : Int32) => some (u4, er_f))))))))))
theorem hdX7_vows : yX7_vows.cls ≠ "java/lang/invoke/MethodHandle" ∧ yX7_vows.cls ≠ "java/lang/invoke/VarHandle" ∧ (parseMethodDescriptor yX7_vows.desc).map (fun d => d.parameters.length) = some 1 := by decide +kernel
set_option maxHeartbeats 4000000 in
set_option maxRecDepth 100000 in
theorem c_X7_vows (G : xG) (t : Nat) (st : Nat) (kp : Nat) (vs : Nat) (rd : Nat) (wk : Nat) (chr : Nat) (shs : Nat) (er : Nat) (spread : Nat) (breakers : Nat) (fit : Nat) (counted : Nat) (hasI : Int32) (imgs : Int32) (fitting : Int32) (fit_f : Nat → Int32) (er_f : Nat → Int32) (wh : Int32)  (u : (Int32 × (Nat → Int32))) (hF : F_X7_vows fitting fit_f er_f wh = some u) : Ki G .int yX7_vows (Cond.code yX7_vows cX7_vows 3 (some .int) :: TBL) { frames := 2, cells := 0, slots := 0, locals := 47 } [.ref t, .int wh] [(t, .inr (7, [.ref st, .ref kp, .int hasI, .int imgs, .ref vs, .ref rd, .ref wk, .ref chr, .ref shs, .ref er])), (vs, .inr (5, [.ref spread, .ref breakers, .ref fit, .int fitting, .ref counted])), (fit, .inl (xZ G, 729, .inl fit_f)), (er, .inl (xI G, 7, .inl er_f))] [(t, .inr (7, [.ref st, .ref kp, .int hasI, .int imgs, .ref vs, .ref rd, .ref wk, .ref chr, .ref shs, .ref er])), (vs, .inr (5, [.ref spread, .ref breakers, .ref fit, .int fitting, .ref counted])), (fit, .inl (xZ G, 729, .inl fit_f)), (er, .inl (xI G, 7, .inl u.2))] u.1 := by
  intro l sz
  refine Met.ofW (cc := cX7_vows) (maxL := 3) (ret := (some .int)) (by decide) rfl ?_
  intro p e s m args below meth c s₁ B hml hv
  obtain ⟨rfl, hsz, hP, hD0, hm⟩ := hv
  have hx := B.exec
  have hb := B.bytes
  have hr := B.returns
  have hts := atoms_spec (ws := Cond.code yX7_vows cX7_vows 3 (some .int) :: TBL) B.pre
  have hown : s.vm.findClass RX7 = some m.cls := findClass_of_methodNamed B.named
  have hlocks := B.notSynchronized
  subst hsz
  have hD := hD0.self (sz := s.heap.size)
  generalize hAe : va_A [(t, .inr (7, [.ref st, .ref kp, .int hasI, .int imgs, .ref vs, .ref rd, .ref wk, .ref chr, .ref shs, .ref er])), (vs, .inr (5, [.ref spread, .ref breakers, .ref fit, .int fitting, .ref counted])), (fit, .inl (xZ G, 729, .inl fit_f)), (er, .inl (xI G, 7, .inl er_f))] s.heap.size = A at hD hm ⊢
  have hA : ∀ q : Nat, s.heap.size ≤ q → A q := fun q h => by rw [← hAe]; exact Or.inr h
  have hK := hm.1
  have hZ : xAnd p m c cX7_vows 3 s _ (Cond.code yX7_vows cX7_vows 3 (some .int) :: TBL) RX7 G A := ⟨⟨hx, hb, hml, hown, hts⟩, tcons, hA, hm⟩
  have hP : va_P G.1 vwCl [(t, .inr (7, [.ref st, .ref kp, .int hasI, .int imgs, .ref vs, .ref rd, .ref wk, .ref chr, .ref shs, .ref er])), (vs, .inr (5, [.ref spread, .ref breakers, .ref fit, .int fitting, .ref counted])), (fit, .inl (xZ G, 729, .inl fit_f)), (er, .inl (xI G, 7, .inl er_f))] s.heap := hP
  have hl := lv_entry ([.ref t, .int wh]) (n := 3) (Nat.le_of_ble_eq_true rfl)
  rw [lg_entry_eq]
  generalize (lg_sl ([.ref t, .int wh]) ++ List.replicate (3 - (lg_sl ([.ref t, .int wh])).length) Slot.unset).toArray = ls at hl ⊢
  have hl : lv_has ls 3 [(0, .ref t), (1, .int wh)] := hl
  generalize hQ : MQ below _ _ s _ _ _ = Q
  refine xGo (A := A) hP (fun H locs hP hS => ?_)
  unfold F_X7_vows at hF
  refine lv_iload_n hx hb dX7_vows_0 rfl (lv_at hl 1 rfl) ?_
  refine lv_iconst (v := 0) hx hb dX7_vows_1 (by decide) ?_
  refine lv_iconst (v := 3) hx hb dX7_vows_2 (by decide) ?_
  obtain ⟨u1, e1, hF⟩ := bdS hF
  refine xEndI (xRunS (As := [.int wh, .int (0 : Int32), .int (3 : Int32)]) (rest := []) hZ (c_X7_within G wh (0 : Int32) (3 : Int32) u1 e1 l H.size) m164 m165 m2 m166 3 hdX7_within ⟨Nat.le_of_ble_eq_true rfl, Nat.le_of_ble_eq_true rfl⟩ ⟨rfl, rfl⟩ hP hD hS [] rfl rfl rfl hl.1 rfl (Nat.le_of_ble_eq_true rfl) dX7_vows_3 ⟨Nat.zero_le _, Nat.zero_le _⟩) hP hD hS hA [] rfl rfl rfl (fun H locs n1 hP hD hS => ?_)
  have hP : va_P G.1 vwCl [(t, .inr (7, [.ref st, .ref kp, .int hasI, .int imgs, .ref vs, .ref rd, .ref wk, .ref chr, .ref shs, .ref er])), (vs, .inr (5, [.ref spread, .ref breakers, .ref fit, .int fitting, .ref counted])), (fit, .inl (xZ G, 729, .inl fit_f)), (er, .inl (xI G, 7, .inl er_f))] H := hP
  have hD : va_D A [(t, .inr (7, [.ref st, .ref kp, .int hasI, .int imgs, .ref vs, .ref rd, .ref wk, .ref chr, .ref shs, .ref er])), (vs, .inr (5, [.ref spread, .ref breakers, .ref fit, .int fitting, .ref counted])), (fit, .inl (xZ G, 729, .inl fit_f)), (er, .inl (xI G, 7, .inl er_f))] := hD
  refine lv_if_ne (tgt := 15) hx hb dX7_vows_6 (by decide) (fun c6 => ?_) (fun c6 => ?_)
  · have hF := itN c6 hF
    refine lv_iload_n hx hb dX7_vows_15 rfl (lv_at hl 1 rfl) ?_
    refine lv_if_ne (tgt := 27) hx hb dX7_vows_16 (by decide) (fun c16 => ?_) (fun c16 => ?_)
    · have hF := itN c16 hF
      refine lv_aload_n hx hb dX7_vows_27 rfl (lv_at hl 0 rfl) ?_
      refine va_get (ci := 7) (v := .ref vs) (C := RX7) (T := TX7) (N := 10) hx hb hts (fun w h => tcons w (xin7 w h)) hown hK hP 0 rfl rfl 4 (by decide) (hts _ (tcons _ m23)) (fun _ h9 => h9) rfl dX7_vows_28 ?_
      obtain ⟨u2, e2, hF⟩ := bdS hF
      refine xEndI (xRunV (As := []) (rest := []) hZ (c_X5_fitting G vs spread breakers fit counted fitting u2 e2 l H.size) m234 m235 m236 m22 m237 0 ⟨rfl, hdX5_fitting⟩ ⟨Nat.le_of_ble_eq_true rfl, Nat.le_of_ble_eq_true rfl⟩ ⟨rfl, rfl⟩ hP hD hS 1 5 rfl rfl rfl [1] rfl rfl rfl hl.1 rfl (Nat.le_of_ble_eq_true rfl) dX7_vows_31 ⟨Nat.zero_le _, Nat.zero_le _⟩) hP hD hS hA [1] rfl rfl rfl (fun H locs n2 hP hD hS => ?_)
      have hP : va_P G.1 vwCl [(t, .inr (7, [.ref st, .ref kp, .int hasI, .int imgs, .ref vs, .ref rd, .ref wk, .ref chr, .ref shs, .ref er])), (vs, .inr (5, [.ref spread, .ref breakers, .ref fit, .int fitting, .ref counted])), (fit, .inl (xZ G, 729, .inl fit_f)), (er, .inl (xI G, 7, .inl er_f))] H := hP
      have hD : va_D A [(t, .inr (7, [.ref st, .ref kp, .int hasI, .int imgs, .ref vs, .ref rd, .ref wk, .ref chr, .ref shs, .ref er])), (vs, .inr (5, [.ref spread, .ref breakers, .ref fit, .int fitting, .ref counted])), (fit, .inl (xZ G, 729, .inl fit_f)), (er, .inl (xI G, 7, .inl er_f))] := hD
      refine lv_if_ne (tgt := 43) hx hb dX7_vows_34 (by decide) (fun c34 => ?_) (fun c34 => ?_)
      · have hF := itN c34 hF
        refine lv_iload_n hx hb dX7_vows_43 rfl (lv_at hl 1 rfl) ?_
        refine lv_iconst (v := 1) hx hb dX7_vows_44 (by decide) ?_
        refine lv_icmp_ne (tgt := 56) hx hb dX7_vows_45 (by decide) (fun c45 => ?_) (fun c45 => ?_)
        · have hF := itN c45 hF
          refine lv_aload_n hx hb dX7_vows_56 rfl (lv_at hl 0 rfl) ?_
          refine va_get (ci := 7) (v := .ref vs) (C := RX7) (T := TX7) (N := 10) hx hb hts (fun w h => tcons w (xin7 w h)) hown hK hP 0 rfl rfl 4 (by decide) (hts _ (tcons _ m23)) (fun _ h9 => h9) rfl dX7_vows_57 ?_
          obtain ⟨u3, e3, hF⟩ := bdS hF
          refine xEndI (xRunV (As := []) (rest := []) hZ (c_X5_simplest G vs spread breakers fit counted fitting fit_f u3 e3 l H.size) m792 m793 m794 m22 m795 0 ⟨rfl, hdX5_simplest⟩ ⟨Nat.le_of_ble_eq_true rfl, Nat.le_of_ble_eq_true rfl⟩ ⟨rfl, rfl⟩ hP hD hS 1 5 rfl rfl rfl [1, 2] rfl rfl rfl hl.1 rfl (Nat.le_of_ble_eq_true rfl) dX7_vows_60 ⟨Nat.zero_le _, Nat.zero_le _⟩) hP hD hS hA [1, 2] rfl rfl rfl (fun H locs n3 hP hD hS => ?_)
          have hP : va_P G.1 vwCl [(t, .inr (7, [.ref st, .ref kp, .int hasI, .int imgs, .ref vs, .ref rd, .ref wk, .ref chr, .ref shs, .ref er])), (vs, .inr (5, [.ref spread, .ref breakers, .ref fit, .int fitting, .ref counted])), (fit, .inl (xZ G, 729, .inl fit_f)), (er, .inl (xI G, 7, .inl er_f))] H := hP
          have hD : va_D A [(t, .inr (7, [.ref st, .ref kp, .int hasI, .int imgs, .ref vs, .ref rd, .ref wk, .ref chr, .ref shs, .ref er])), (vs, .inr (5, [.ref spread, .ref breakers, .ref fit, .int fitting, .ref counted])), (fit, .inl (xZ G, 729, .inl fit_f)), (er, .inl (xI G, 7, .inl er_f))] := hD
          refine lv_istore_n (lv' := [(2, .int u3), (0, .ref t), (1, .int wh)]) hx hb dX7_vows_63 rfl hl (by decide) rfl (fun ls hl => ?_)
          refine lv_iload_n hx hb dX7_vows_64 rfl (lv_at hl 2 rfl) ?_
          refine lv_iconst (v := 2) hx hb dX7_vows_65 (by decide) ?_
          refine lv_icmp_ne (tgt := 73) hx hb dX7_vows_66 (by decide) (fun c66 => ?_) (fun c66 => ?_)
          · have hF := itN c66 hF
            refine lv_aload_n hx hb dX7_vows_73 rfl (lv_at hl 1 rfl) ?_
            refine va_get (ci := 7) (v := .ref vs) (C := RX7) (T := TX7) (N := 10) hx hb hts (fun w h => tcons w (xin7 w h)) hown hK hP 0 rfl rfl 4 (by decide) (hts _ (tcons _ m23)) (fun _ h9 => h9) rfl dX7_vows_74 ?_
            refine lv_iload_n hx hb dX7_vows_77 rfl (lv_at hl 0 rfl) ?_
            obtain ⟨u4, e4, hF⟩ := bdS hF
            refine xEndI (xRunV (As := [.int u3]) (rest := []) hZ (c_X5_settled G vs u3 u4 e4 l H.size) m800 m797 m798 m22 m799 1 ⟨rfl, hdX5_settled⟩ ⟨Nat.le_of_ble_eq_true rfl, Nat.le_of_ble_eq_true rfl⟩ ⟨rfl, rfl⟩ hP hD hS 1 5 rfl rfl rfl [] rfl rfl rfl hl.1 rfl (Nat.le_of_ble_eq_true rfl) dX7_vows_78 ⟨Nat.zero_le _, Nat.zero_le _⟩) hP hD hS hA [] rfl rfl rfl (fun H locs n4 hP hD hS => ?_)
            have hP : va_P G.1 vwCl [(t, .inr (7, [.ref st, .ref kp, .int hasI, .int imgs, .ref vs, .ref rd, .ref wk, .ref chr, .ref shs, .ref er])), (vs, .inr (5, [.ref spread, .ref breakers, .ref fit, .int fitting, .ref counted])), (fit, .inl (xZ G, 729, .inl fit_f)), (er, .inl (xI G, 7, .inl er_f))] H := hP
            have hD : va_D A [(t, .inr (7, [.ref st, .ref kp, .int hasI, .int imgs, .ref vs, .ref rd, .ref wk, .ref chr, .ref shs, .ref er])), (vs, .inr (5, [.ref spread, .ref breakers, .ref fit, .int fitting, .ref counted])), (fit, .inl (xZ G, 729, .inl fit_f)), (er, .inl (xI G, 7, .inl er_f))] := hD
            obtain rfl := Option.some.inj hF
            rw [← hQ]
            exact W.iret (v := u4) hx hb hr (fun t ht hW => ⟨⟨_, (), rfl, ⟨rfl, rfl⟩, xLf hP ht⟩, hS.F ht⟩) hS.2.2 dX7_vows_81
          · have hF := itP c66 hF
            refine lv_iload_n hx hb dX7_vows_69 rfl (lv_at hl 0 rfl) ?_
            refine lv_goto (tgt := 81) hx hb dX7_vows_70 (by decide) ?_
            obtain rfl := Option.some.inj hF
            rw [← hQ]
            exact W.iret (v := u3) hx hb hr (fun t ht hW => ⟨⟨_, (), rfl, ⟨rfl, rfl⟩, xLf hP ht⟩, hS.F ht⟩) hS.2.2 dX7_vows_81
        · have hF := itP c45 hF
          refine lv_aload_n hx hb dX7_vows_48 rfl (lv_at hl 0 rfl) ?_
          refine va_get (ci := 7) (v := .ref vs) (C := RX7) (T := TX7) (N := 10) hx hb hts (fun w h => tcons w (xin7 w h)) hown hK hP 0 rfl rfl 4 (by decide) (hts _ (tcons _ m23)) (fun _ h9 => h9) rfl dX7_vows_49 ?_
          obtain ⟨u3, e3, hF⟩ := bdS hF
          refine xEndI (xRunV (As := []) (rest := []) hZ (c_X5_least G vs spread breakers fit counted fitting fit_f u3 e3 l H.size) m788 m789 m790 m22 m791 0 ⟨rfl, hdX5_least⟩ ⟨Nat.le_of_ble_eq_true rfl, Nat.le_of_ble_eq_true rfl⟩ ⟨rfl, rfl⟩ hP hD hS 1 5 rfl rfl rfl [1, 2] rfl rfl rfl hl.1 rfl (Nat.le_of_ble_eq_true rfl) dX7_vows_52 ⟨Nat.zero_le _, Nat.zero_le _⟩) hP hD hS hA [1, 2] rfl rfl rfl (fun H locs n3 hP hD hS => ?_)
          have hP : va_P G.1 vwCl [(t, .inr (7, [.ref st, .ref kp, .int hasI, .int imgs, .ref vs, .ref rd, .ref wk, .ref chr, .ref shs, .ref er])), (vs, .inr (5, [.ref spread, .ref breakers, .ref fit, .int fitting, .ref counted])), (fit, .inl (xZ G, 729, .inl fit_f)), (er, .inl (xI G, 7, .inl er_f))] H := hP
          have hD : va_D A [(t, .inr (7, [.ref st, .ref kp, .int hasI, .int imgs, .ref vs, .ref rd, .ref wk, .ref chr, .ref shs, .ref er])), (vs, .inr (5, [.ref spread, .ref breakers, .ref fit, .int fitting, .ref counted])), (fit, .inl (xZ G, 729, .inl fit_f)), (er, .inl (xI G, 7, .inl er_f))] := hD
          obtain rfl := Option.some.inj hF
          rw [← hQ]
          exact W.iret (v := u3) hx hb hr (fun t ht hW => ⟨⟨_, (), rfl, ⟨rfl, rfl⟩, xLf hP ht⟩, hS.F ht⟩) hS.2.2 dX7_vows_55
      · have hF := itP c34 hF
        refine lv_aload_n hx hb dX7_vows_37 rfl (lv_at hl 0 rfl) ?_
        refine lv_iconst (v := 2) hx hb dX7_vows_38 (by decide) ?_
        obtain ⟨u3, e3, hF⟩ := bdS hF
        refine xEndI (xRunV (As := [.int (2 : Int32)]) (rest := []) hZ (c_X7_error G t st kp vs rd wk chr shs er hasI imgs er_f (2 : Int32) u3 e3 l H.size) m167 m168 m169 m2 m170 1 ⟨rfl, hdX7_error⟩ ⟨Nat.le_of_ble_eq_true rfl, Nat.le_of_ble_eq_true rfl⟩ ⟨rfl, rfl⟩ hP hD hS 0 7 rfl rfl rfl [0, 3] rfl rfl rfl hl.1 rfl (Nat.le_of_ble_eq_true rfl) dX7_vows_39 ⟨Nat.zero_le _, Nat.zero_le _⟩) hP hD hS hA [0, 3] rfl rfl rfl (fun H locs n3 hP hD hS => ?_)
        have hP : va_P G.1 vwCl [(t, .inr (7, [.ref st, .ref kp, .int hasI, .int imgs, .ref vs, .ref rd, .ref wk, .ref chr, .ref shs, .ref er])), (vs, .inr (5, [.ref spread, .ref breakers, .ref fit, .int fitting, .ref counted])), (fit, .inl (xZ G, 729, .inl fit_f)), (er, .inl (xI G, 7, .inl u3.2))] H := hP
        have hD : va_D A [(t, .inr (7, [.ref st, .ref kp, .int hasI, .int imgs, .ref vs, .ref rd, .ref wk, .ref chr, .ref shs, .ref er])), (vs, .inr (5, [.ref spread, .ref breakers, .ref fit, .int fitting, .ref counted])), (fit, .inl (xZ G, 729, .inl fit_f)), (er, .inl (xI G, 7, .inl u3.2))] := hD
        obtain rfl := Option.some.inj hF
        rw [← hQ]
        exact W.iret (v := u3.1) hx hb hr (fun t ht hW => ⟨⟨_, (), rfl, ⟨rfl, rfl⟩, xLf hP ht⟩, hS.F ht⟩) hS.2.2 dX7_vows_42
    · have hF := itP c16 hF
      refine lv_aload_n hx hb dX7_vows_19 rfl (lv_at hl 0 rfl) ?_
      refine va_get (ci := 7) (v := .ref vs) (C := RX7) (T := TX7) (N := 10) hx hb hts (fun w h => tcons w (xin7 w h)) hown hK hP 0 rfl rfl 4 (by decide) (hts _ (tcons _ m23)) (fun _ h9 => h9) rfl dX7_vows_20 ?_
      obtain ⟨u2, e2, hF⟩ := bdS hF
      refine xEndI (xRunV (As := []) (rest := []) hZ (c_X5_fitting G vs spread breakers fit counted fitting u2 e2 l H.size) m234 m235 m236 m22 m237 0 ⟨rfl, hdX5_fitting⟩ ⟨Nat.le_of_ble_eq_true rfl, Nat.le_of_ble_eq_true rfl⟩ ⟨rfl, rfl⟩ hP hD hS 1 5 rfl rfl rfl [1] rfl rfl rfl hl.1 rfl (Nat.le_of_ble_eq_true rfl) dX7_vows_23 ⟨Nat.zero_le _, Nat.zero_le _⟩) hP hD hS hA [1] rfl rfl rfl (fun H locs n2 hP hD hS => ?_)
      have hP : va_P G.1 vwCl [(t, .inr (7, [.ref st, .ref kp, .int hasI, .int imgs, .ref vs, .ref rd, .ref wk, .ref chr, .ref shs, .ref er])), (vs, .inr (5, [.ref spread, .ref breakers, .ref fit, .int fitting, .ref counted])), (fit, .inl (xZ G, 729, .inl fit_f)), (er, .inl (xI G, 7, .inl er_f))] H := hP
      have hD : va_D A [(t, .inr (7, [.ref st, .ref kp, .int hasI, .int imgs, .ref vs, .ref rd, .ref wk, .ref chr, .ref shs, .ref er])), (vs, .inr (5, [.ref spread, .ref breakers, .ref fit, .int fitting, .ref counted])), (fit, .inl (xZ G, 729, .inl fit_f)), (er, .inl (xI G, 7, .inl er_f))] := hD
      obtain rfl := Option.some.inj hF
      rw [← hQ]
      exact W.iret (v := u2) hx hb hr (fun t ht hW => ⟨⟨_, (), rfl, ⟨rfl, rfl⟩, xLf hP ht⟩, hS.F ht⟩) hS.2.2 dX7_vows_26
  · have hF := itP c6 hF
    refine lv_aload_n hx hb dX7_vows_9 rfl (lv_at hl 0 rfl) ?_
    refine lv_iconst (v := 1) hx hb dX7_vows_10 (by decide) ?_
    obtain ⟨u2, e2, hF⟩ := bdS hF
    refine xEndI (xRunV (As := [.int (1 : Int32)]) (rest := []) hZ (c_X7_error G t st kp vs rd wk chr shs er hasI imgs er_f (1 : Int32) u2 e2 l H.size) m167 m168 m169 m2 m170 1 ⟨rfl, hdX7_error⟩ ⟨Nat.le_of_ble_eq_true rfl, Nat.le_of_ble_eq_true rfl⟩ ⟨rfl, rfl⟩ hP hD hS 0 7 rfl rfl rfl [0, 3] rfl rfl rfl hl.1 rfl (Nat.le_of_ble_eq_true rfl) dX7_vows_11 ⟨Nat.zero_le _, Nat.zero_le _⟩) hP hD hS hA [0, 3] rfl rfl rfl (fun H locs n2 hP hD hS => ?_)
    have hP : va_P G.1 vwCl [(t, .inr (7, [.ref st, .ref kp, .int hasI, .int imgs, .ref vs, .ref rd, .ref wk, .ref chr, .ref shs, .ref er])), (vs, .inr (5, [.ref spread, .ref breakers, .ref fit, .int fitting, .ref counted])), (fit, .inl (xZ G, 729, .inl fit_f)), (er, .inl (xI G, 7, .inl u2.2))] H := hP
    have hD : va_D A [(t, .inr (7, [.ref st, .ref kp, .int hasI, .int imgs, .ref vs, .ref rd, .ref wk, .ref chr, .ref shs, .ref er])), (vs, .inr (5, [.ref spread, .ref breakers, .ref fit, .int fitting, .ref counted])), (fit, .inl (xZ G, 729, .inl fit_f)), (er, .inl (xI G, 7, .inl u2.2))] := hD
    obtain rfl := Option.some.inj hF
    rw [← hQ]
    exact W.iret (v := u2.1) hx hb hr (fun t ht hW => ⟨⟨_, (), rfl, ⟨rfl, rfl⟩, xLf hP ht⟩, hS.F ht⟩) hS.2.2 dX7_vows_14
