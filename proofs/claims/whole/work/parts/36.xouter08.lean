def F_X7_put_out (er_f : Nat → Int32) (si : Int32) : Option (Int32 × (Nat → Int32)) := bd (F_X7_sheetOf_out si) (fun (u1 : Unit) => bd (F_X7_error er_f (1 : Int32)) (fun (u2 : (Int32 × (Nat → Int32))) => some (u2.1, u2.2)))
set_option maxHeartbeats 4000000 in
set_option maxRecDepth 100000 in
theorem c_X7_put_out (G : xG) (t : Nat) (st : Nat) (kp : Nat) (vs : Nat) (rd : Nat) (wk : Nat) (chr : Nat) (shs : Nat) (er : Nat) (hasI : Int32) (imgs : Int32) (shs_f : Nat → Option Nat) (er_f : Nat → Int32) (si : Int32) (i : Int32) (vo : Int32)  (u : (Int32 × (Nat → Int32))) (hF : F_X7_put_out er_f si = some u) : Ki G .int yX7_put (Cond.code yX7_put cX7_put 5 (some .int) :: TBL) { frames := 2, cells := 0, slots := 0, locals := 43 } [.ref t, .int si, .int i, .int vo] [(t, .inr (7, [.ref st, .ref kp, .int hasI, .int imgs, .ref vs, .ref rd, .ref wk, .ref chr, .ref shs, .ref er])), (shs, .inl (xY G, 4, .inr (.inr (.inr (.inr shs_f))))), (er, .inl (xI G, 7, .inl er_f))] [(t, .inr (7, [.ref st, .ref kp, .int hasI, .int imgs, .ref vs, .ref rd, .ref wk, .ref chr, .ref shs, .ref er])), (shs, .inl (xY G, 4, .inr (.inr (.inr (.inr shs_f))))), (er, .inl (xI G, 7, .inl u.2))] u.1 := by
  intro l sz
  refine Met.ofW (cc := cX7_put) (maxL := 5) (ret := (some .int)) (by decide) rfl ?_
  intro p e s m args below meth c s₁ B hml hv
  obtain ⟨rfl, hsz, hP, hD0, hm⟩ := hv
  have hx := B.exec
  have hb := B.bytes
  have hr := B.returns
  have hts := atoms_spec (ws := Cond.code yX7_put cX7_put 5 (some .int) :: TBL) B.pre
  have hown : s.vm.findClass RX7 = some m.cls := findClass_of_methodNamed B.named
  have hlocks := B.notSynchronized
  subst hsz
  have hD := hD0.self (sz := s.heap.size)
  generalize hAe : va_A [(t, .inr (7, [.ref st, .ref kp, .int hasI, .int imgs, .ref vs, .ref rd, .ref wk, .ref chr, .ref shs, .ref er])), (shs, .inl (xY G, 4, .inr (.inr (.inr (.inr shs_f))))), (er, .inl (xI G, 7, .inl er_f))] s.heap.size = A at hD hm ⊢
  have hA : ∀ q : Nat, s.heap.size ≤ q → A q := fun q h => by rw [← hAe]; exact Or.inr h
  have hK := hm.1
  have hZ : xAnd p m c cX7_put 5 s _ (Cond.code yX7_put cX7_put 5 (some .int) :: TBL) RX7 G A := ⟨⟨hx, hb, hml, hown, hts⟩, tcons, hA, hm⟩
  have hP : va_P G.1 vwCl [(t, .inr (7, [.ref st, .ref kp, .int hasI, .int imgs, .ref vs, .ref rd, .ref wk, .ref chr, .ref shs, .ref er])), (shs, .inl (xY G, 4, .inr (.inr (.inr (.inr shs_f))))), (er, .inl (xI G, 7, .inl er_f))] s.heap := hP
  have hl := lv_entry ([.ref t, .int si, .int i, .int vo]) (n := 5) (Nat.le_of_ble_eq_true rfl)
  rw [lg_entry_eq]
  generalize (lg_sl ([.ref t, .int si, .int i, .int vo]) ++ List.replicate (5 - (lg_sl ([.ref t, .int si, .int i, .int vo])).length) Slot.unset).toArray = ls at hl ⊢
  have hl : lv_has ls 5 [(0, .ref t), (1, .int si), (2, .int i), (3, .int vo)] := hl
  generalize hQ : MQ below _ _ s _ _ _ = Q
  refine xGo (A := A) hP (fun H locs hP hS => ?_)
  unfold F_X7_put_out at hF
  refine lv_aload_n hx hb dX7_put_0 rfl (lv_at hl 0 rfl) ?_
  refine lv_iload_n hx hb dX7_put_1 rfl (lv_at hl 1 rfl) ?_
  obtain ⟨u1, e1, hF⟩ := bdS hF
  refine xEndQ (xRunV (As := [.int si]) (rest := []) hZ (c_X7_sheetOf_out G t st kp vs rd wk chr shs er hasI imgs shs_f si u1 e1 l H.size) m874 m875 m876 m2 m877 1 ⟨rfl, hdX7_sheetOf⟩ ⟨Nat.le_of_ble_eq_true rfl, Nat.le_of_ble_eq_true rfl⟩ ⟨rfl, rfl⟩ hP hD hS 0 7 rfl rfl rfl [0, 1] rfl rfl rfl hl.1 rfl (Nat.le_of_ble_eq_true rfl) dX7_put_2 ⟨Nat.zero_le _, Nat.zero_le _⟩) hP hD hS hA [0, 1] rfl rfl rfl (fun H locs hP hD hS => ?_)
  have hP : va_P G.1 vwCl [(t, .inr (7, [.ref st, .ref kp, .int hasI, .int imgs, .ref vs, .ref rd, .ref wk, .ref chr, .ref shs, .ref er])), (shs, .inl (xY G, 4, .inr (.inr (.inr (.inr shs_f))))), (er, .inl (xI G, 7, .inl er_f))] H := hP
  have hD : va_D A [(t, .inr (7, [.ref st, .ref kp, .int hasI, .int imgs, .ref vs, .ref rd, .ref wk, .ref chr, .ref shs, .ref er])), (shs, .inl (xY G, 4, .inr (.inr (.inr (.inr shs_f))))), (er, .inl (xI G, 7, .inl er_f))] := hD
  refine lv_astoreN (lv' := [(4, .null), (0, .ref t), (1, .int si), (2, .int i), (3, .int vo)]) hx hb dX7_put_5 hl (by decide) rfl (fun ls hl => ?_)
  refine lv_aloadN hx hb dX7_put_7 (lv_at hl 0 rfl) ?_
  refine lv_ifnonnullN hx hb dX7_put_9 ?_
  refine lv_aload_n hx hb dX7_put_12 rfl (lv_at hl 1 rfl) ?_
  refine lv_iconst (v := 1) hx hb dX7_put_13 (by decide) ?_
  obtain ⟨u2, e2, hF⟩ := bdS hF
  refine xEndI (xRunV (As := [.int (1 : Int32)]) (rest := []) hZ (c_X7_error G t st kp vs rd wk chr shs er hasI imgs er_f (1 : Int32) u2 e2 l H.size) m167 m168 m169 m2 m170 1 ⟨rfl, hdX7_error⟩ ⟨Nat.le_of_ble_eq_true rfl, Nat.le_of_ble_eq_true rfl⟩ ⟨rfl, rfl⟩ hP hD hS 0 7 rfl rfl rfl [0, 2] rfl rfl rfl hl.1 rfl (Nat.le_of_ble_eq_true rfl) dX7_put_14 ⟨Nat.zero_le _, Nat.zero_le _⟩) hP hD hS hA [0, 2] rfl rfl rfl (fun H locs n2 hP hD hS => ?_)
  have hP : va_P G.1 vwCl [(t, .inr (7, [.ref st, .ref kp, .int hasI, .int imgs, .ref vs, .ref rd, .ref wk, .ref chr, .ref shs, .ref er])), (shs, .inl (xY G, 4, .inr (.inr (.inr (.inr shs_f))))), (er, .inl (xI G, 7, .inl u2.2))] H := hP
  have hD : va_D A [(t, .inr (7, [.ref st, .ref kp, .int hasI, .int imgs, .ref vs, .ref rd, .ref wk, .ref chr, .ref shs, .ref er])), (shs, .inl (xY G, 4, .inr (.inr (.inr (.inr shs_f))))), (er, .inl (xI G, 7, .inl u2.2))] := hD
  obtain rfl := Option.some.inj hF
  rw [← hQ]
  exact W.iret (v := u2.1) hx hb hr (fun t ht hW => ⟨⟨_, (), rfl, ⟨rfl, rfl⟩, xLf hP ht⟩, hS.F ht⟩) hS.2.2 dX7_put_17
def F_X7_move_in (er_f : Nat → Int32) (bits : Int32) (num_m : Int32) (num_f : Nat → Int32) (bits2 : Int32) (num2_m : Int32) (num2_f : Nat → Int32) (si : Int32) (i : Int32) (sj : Int32) (j : Int32) (k : Int32) : Option (Int32 × (Nat → Int32) × (Nat → Int32)) := bd (F_X7_sheetOf_in si) (fun (u1 : Unit) => bd (F_X7_sheetOf_in sj) (fun (u2 : Unit) => bd (F_X2_isMissing bits) (fun (u3 : Int32) => if u3 = 0 then (bd (F_X2_isMissing bits2) (fun (u4 : Int32) => if u4 = 0 then (if bits = bits2 then (bd (F_X1_hasRun num_m i k) (fun (u5 : Int32) => if u5 = 0 then (bd (F_X7_error er_f (1 : Int32)) (fun (u6 : (Int32 × (Nat → Int32))) => some (u6.1, u6.2, num2_f))) else (bd (F_X1_hasRun num2_m j k) (fun (u6 : Int32) => if u6 = 0 then (bd (F_X7_error er_f (1 : Int32)) (fun (u7 : (Int32 × (Nat → Int32))) => some (u7.1, u7.2, num2_f))) else (bd (F_X1_takeRun 24 24 num2_m num2_f num_m num_f i j k) (fun (u7 : (Nat → Int32)) => some (k, er_f, u7))))))) else (bd (F_X7_error er_f (5 : Int32)) (fun (u5 : (Int32 × (Nat → Int32))) => some (u5.1, u5.2, num2_f)))) else (bd (F_X7_error er_f (2 : Int32)) (fun (u5 : (Int32 × (Nat → Int32))) => some (u5.1, u5.2, num2_f))))) else (bd (F_X7_error er_f (2 : Int32)) (fun (u4 : (Int32 × (Nat → Int32))) => some (u4.1, u4.2, num2_f))))))
theorem hdX7_move : yX7_move.cls ≠ "java/lang/invoke/MethodHandle" ∧ yX7_move.cls ≠ "java/lang/invoke/VarHandle" ∧ (parseMethodDescriptor yX7_move.desc).map (fun d => d.parameters.length) = some 5 := by decide +kernel
set_option maxHeartbeats 4000000 in
set_option maxRecDepth 100000 in
theorem c_X7_move_in (G : xG) (t : Nat) (st : Nat) (kp : Nat) (vs : Nat) (rd : Nat) (wk : Nat) (chr : Nat) (shs : Nat) (er : Nat) (sh : Nat) (num : Nat) (num_q : Nat) (sh2 : Nat) (num2 : Nat) (num2_q : Nat) (hasI : Int32) (imgs : Int32) (shs_f : Nat → Option Nat) (er_f : Nat → Int32) (bits : Int32) (num_m : Int32) (num_f : Nat → Int32) (bits2 : Int32) (num2_m : Int32) (num2_f : Nat → Int32) (si : Int32) (i : Int32) (sj : Int32) (j : Int32) (k : Int32) (hsel : shs_f si.toNatClampNeg = some sh) (hsel2 : shs_f sj.toNatClampNeg = some sh2) (u : (Int32 × (Nat → Int32) × (Nat → Int32))) (hF : F_X7_move_in er_f bits num_m num_f bits2 num2_m num2_f si i sj j k = some u) : Ki G .int yX7_move (Cond.code yX7_move cX7_move 8 (some .int) :: TBL) { frames := 2, cells := 0, slots := 0, locals := 84 } [.ref t, .int si, .int i, .int sj, .int j, .int k] [(t, .inr (7, [.ref st, .ref kp, .int hasI, .int imgs, .ref vs, .ref rd, .ref wk, .ref chr, .ref shs, .ref er])), (shs, .inl (xY G, 4, .inr (.inr (.inr (.inr shs_f))))), (er, .inl (xI G, 7, .inl er_f)), (sh, .inr (2, [.ref num, .int bits])), (num, .inr (1, [.ref num_q, .int num_m])), (num_q, .inl (xI G, 24, .inl num_f)), (sh2, .inr (2, [.ref num2, .int bits2])), (num2, .inr (1, [.ref num2_q, .int num2_m])), (num2_q, .inl (xI G, 24, .inl num2_f))] [(t, .inr (7, [.ref st, .ref kp, .int hasI, .int imgs, .ref vs, .ref rd, .ref wk, .ref chr, .ref shs, .ref er])), (shs, .inl (xY G, 4, .inr (.inr (.inr (.inr shs_f))))), (er, .inl (xI G, 7, .inl u.2.1)), (sh, .inr (2, [.ref num, .int bits])), (num, .inr (1, [.ref num_q, .int num_m])), (num_q, .inl (xI G, 24, .inl num_f)), (sh2, .inr (2, [.ref num2, .int bits2])), (num2, .inr (1, [.ref num2_q, .int num2_m])), (num2_q, .inl (xI G, 24, .inl u.2.2))] u.1 := by
  intro l sz
  refine Met.ofW (cc := cX7_move) (maxL := 8) (ret := (some .int)) (by decide) rfl ?_
  intro p e s m args below meth c s₁ B hml hv
  obtain ⟨rfl, hsz, hP, hD0, hm⟩ := hv
  have hx := B.exec
  have hb := B.bytes
  have hr := B.returns
  have hts := atoms_spec (ws := Cond.code yX7_move cX7_move 8 (some .int) :: TBL) B.pre
  have hown : s.vm.findClass RX7 = some m.cls := findClass_of_methodNamed B.named
  have hlocks := B.notSynchronized
  subst hsz
  have hD := hD0.self (sz := s.heap.size)
  generalize hAe : va_A [(t, .inr (7, [.ref st, .ref kp, .int hasI, .int imgs, .ref vs, .ref rd, .ref wk, .ref chr, .ref shs, .ref er])), (shs, .inl (xY G, 4, .inr (.inr (.inr (.inr shs_f))))), (er, .inl (xI G, 7, .inl er_f)), (sh, .inr (2, [.ref num, .int bits])), (num, .inr (1, [.ref num_q, .int num_m])), (num_q, .inl (xI G, 24, .inl num_f)), (sh2, .inr (2, [.ref num2, .int bits2])), (num2, .inr (1, [.ref num2_q, .int num2_m])), (num2_q, .inl (xI G, 24, .inl num2_f))] s.heap.size = A at hD hm ⊢
  have hA : ∀ q : Nat, s.heap.size ≤ q → A q := fun q h => by rw [← hAe]; exact Or.inr h
  have hK := hm.1
  have hZ : xAnd p m c cX7_move 8 s _ (Cond.code yX7_move cX7_move 8 (some .int) :: TBL) RX7 G A := ⟨⟨hx, hb, hml, hown, hts⟩, tcons, hA, hm⟩
  have hP : va_P G.1 vwCl [(t, .inr (7, [.ref st, .ref kp, .int hasI, .int imgs, .ref vs, .ref rd, .ref wk, .ref chr, .ref shs, .ref er])), (shs, .inl (xY G, 4, .inr (.inr (.inr (.inr shs_f))))), (er, .inl (xI G, 7, .inl er_f)), (sh, .inr (2, [.ref num, .int bits])), (num, .inr (1, [.ref num_q, .int num_m])), (num_q, .inl (xI G, 24, .inl num_f)), (sh2, .inr (2, [.ref num2, .int bits2])), (num2, .inr (1, [.ref num2_q, .int num2_m])), (num2_q, .inl (xI G, 24, .inl num2_f))] s.heap := hP
  have hl := lv_entry ([.ref t, .int si, .int i, .int sj, .int j, .int k]) (n := 8) (Nat.le_of_ble_eq_true rfl)
  rw [lg_entry_eq]
  generalize (lg_sl ([.ref t, .int si, .int i, .int sj, .int j, .int k]) ++ List.replicate (8 - (lg_sl ([.ref t, .int si, .int i, .int sj, .int j, .int k])).length) Slot.unset).toArray = ls at hl ⊢
  have hl : lv_has ls 8 [(0, .ref t), (1, .int si), (2, .int i), (3, .int sj), (4, .int j), (5, .int k)] := hl
  generalize hQ : MQ below _ _ s _ _ _ = Q
  refine xGo (A := A) hP (fun H locs hP hS => ?_)
  unfold F_X7_move_in at hF
  refine lv_aload_n hx hb dX7_move_0 rfl (lv_at hl 0 rfl) ?_
  refine lv_iload_n hx hb dX7_move_1 rfl (lv_at hl 1 rfl) ?_
  obtain ⟨u1, e1, hF⟩ := bdS hF
  refine xEndQ (xRunV (As := [.int si]) (rest := []) hZ (c_X7_sheetOf_in G t st kp vs rd wk chr shs er sh hasI imgs shs_f si hsel u1 e1 l H.size) m874 m875 m876 m2 m877 1 ⟨rfl, hdX7_sheetOf⟩ ⟨Nat.le_of_ble_eq_true rfl, Nat.le_of_ble_eq_true rfl⟩ ⟨rfl, rfl⟩ hP hD hS 0 7 rfl rfl rfl [0, 1] rfl rfl rfl hl.1 rfl (Nat.le_of_ble_eq_true rfl) dX7_move_2 ⟨Nat.zero_le _, Nat.zero_le _⟩) hP hD hS hA [0, 1] rfl rfl rfl (fun H locs hP hD hS => ?_)
  have hP : va_P G.1 vwCl [(t, .inr (7, [.ref st, .ref kp, .int hasI, .int imgs, .ref vs, .ref rd, .ref wk, .ref chr, .ref shs, .ref er])), (shs, .inl (xY G, 4, .inr (.inr (.inr (.inr shs_f))))), (er, .inl (xI G, 7, .inl er_f)), (sh, .inr (2, [.ref num, .int bits])), (num, .inr (1, [.ref num_q, .int num_m])), (num_q, .inl (xI G, 24, .inl num_f)), (sh2, .inr (2, [.ref num2, .int bits2])), (num2, .inr (1, [.ref num2_q, .int num2_m])), (num2_q, .inl (xI G, 24, .inl num2_f))] H := hP
  have hD : va_D A [(t, .inr (7, [.ref st, .ref kp, .int hasI, .int imgs, .ref vs, .ref rd, .ref wk, .ref chr, .ref shs, .ref er])), (shs, .inl (xY G, 4, .inr (.inr (.inr (.inr shs_f))))), (er, .inl (xI G, 7, .inl er_f)), (sh, .inr (2, [.ref num, .int bits])), (num, .inr (1, [.ref num_q, .int num_m])), (num_q, .inl (xI G, 24, .inl num_f)), (sh2, .inr (2, [.ref num2, .int bits2])), (num2, .inr (1, [.ref num2_q, .int num2_m])), (num2_q, .inl (xI G, 24, .inl num2_f))] := hD
  refine lv_astore (lv' := [(6, .ref sh), (0, .ref t), (1, .int si), (2, .int i), (3, .int sj), (4, .int j), (5, .int k)]) hx hb dX7_move_5 hl (by decide) rfl (fun ls hl => ?_)
  refine lv_aload_n hx hb dX7_move_7 rfl (lv_at hl 1 rfl) ?_
  refine lv_iload_n hx hb dX7_move_8 rfl (lv_at hl 4 rfl) ?_
  obtain ⟨u2, e2, hF⟩ := bdS hF
  refine xEndQ (xRunV (As := [.int sj]) (rest := []) hZ (c_X7_sheetOf_in G t st kp vs rd wk chr shs er sh2 hasI imgs shs_f sj hsel2 u2 e2 l H.size) m874 m875 m876 m2 m877 1 ⟨rfl, hdX7_sheetOf⟩ ⟨Nat.le_of_ble_eq_true rfl, Nat.le_of_ble_eq_true rfl⟩ ⟨rfl, rfl⟩ hP hD hS 0 7 rfl rfl rfl [0, 1] rfl rfl rfl hl.1 rfl (Nat.le_of_ble_eq_true rfl) dX7_move_9 ⟨Nat.zero_le _, Nat.zero_le _⟩) hP hD hS hA [0, 1] rfl rfl rfl (fun H locs hP hD hS => ?_)
  have hP : va_P G.1 vwCl [(t, .inr (7, [.ref st, .ref kp, .int hasI, .int imgs, .ref vs, .ref rd, .ref wk, .ref chr, .ref shs, .ref er])), (shs, .inl (xY G, 4, .inr (.inr (.inr (.inr shs_f))))), (er, .inl (xI G, 7, .inl er_f)), (sh, .inr (2, [.ref num, .int bits])), (num, .inr (1, [.ref num_q, .int num_m])), (num_q, .inl (xI G, 24, .inl num_f)), (sh2, .inr (2, [.ref num2, .int bits2])), (num2, .inr (1, [.ref num2_q, .int num2_m])), (num2_q, .inl (xI G, 24, .inl num2_f))] H := hP
  have hD : va_D A [(t, .inr (7, [.ref st, .ref kp, .int hasI, .int imgs, .ref vs, .ref rd, .ref wk, .ref chr, .ref shs, .ref er])), (shs, .inl (xY G, 4, .inr (.inr (.inr (.inr shs_f))))), (er, .inl (xI G, 7, .inl er_f)), (sh, .inr (2, [.ref num, .int bits])), (num, .inr (1, [.ref num_q, .int num_m])), (num_q, .inl (xI G, 24, .inl num_f)), (sh2, .inr (2, [.ref num2, .int bits2])), (num2, .inr (1, [.ref num2_q, .int num2_m])), (num2_q, .inl (xI G, 24, .inl num2_f))] := hD
  refine lv_astore (lv' := [(7, .ref sh2), (6, .ref sh), (0, .ref t), (1, .int si), (2, .int i), (3, .int sj), (4, .int j), (5, .int k)]) hx hb dX7_move_12 hl (by decide) rfl (fun ls hl => ?_)
  refine lv_aload hx hb dX7_move_14 (lv_at hl 1 rfl) ?_
  refine lv_ifnull hx hb dX7_move_16 ?_
  refine lv_aload hx hb dX7_move_19 (lv_at hl 0 rfl) ?_
  refine lv_ifnonnull (tgt := 30) hx hb dX7_move_21 (by decide) ?_
  refine lv_aload hx hb dX7_move_30 (lv_at hl 1 rfl) ?_
  obtain ⟨u3, e3, hF⟩ := bdS hF
  refine xEndI (xRunV (As := []) (rest := []) hZ (c_X2_isMissing G sh num bits u3 e3 l H.size) m878 m879 m880 m42 m881 0 ⟨rfl, hdX2_isMissing⟩ ⟨Nat.le_of_ble_eq_true rfl, Nat.le_of_ble_eq_true rfl⟩ ⟨rfl, rfl⟩ hP hD hS 3 2 rfl rfl rfl [3] rfl rfl rfl hl.1 rfl (Nat.le_of_ble_eq_true rfl) dX7_move_32 ⟨Nat.zero_le _, Nat.zero_le _⟩) hP hD hS hA [3] rfl rfl rfl (fun H locs n3 hP hD hS => ?_)
  have hP : va_P G.1 vwCl [(t, .inr (7, [.ref st, .ref kp, .int hasI, .int imgs, .ref vs, .ref rd, .ref wk, .ref chr, .ref shs, .ref er])), (shs, .inl (xY G, 4, .inr (.inr (.inr (.inr shs_f))))), (er, .inl (xI G, 7, .inl er_f)), (sh, .inr (2, [.ref num, .int bits])), (num, .inr (1, [.ref num_q, .int num_m])), (num_q, .inl (xI G, 24, .inl num_f)), (sh2, .inr (2, [.ref num2, .int bits2])), (num2, .inr (1, [.ref num2_q, .int num2_m])), (num2_q, .inl (xI G, 24, .inl num2_f))] H := hP
  have hD : va_D A [(t, .inr (7, [.ref st, .ref kp, .int hasI, .int imgs, .ref vs, .ref rd, .ref wk, .ref chr, .ref shs, .ref er])), (shs, .inl (xY G, 4, .inr (.inr (.inr (.inr shs_f))))), (er, .inl (xI G, 7, .inl er_f)), (sh, .inr (2, [.ref num, .int bits])), (num, .inr (1, [.ref num_q, .int num_m])), (num_q, .inl (xI G, 24, .inl num_f)), (sh2, .inr (2, [.ref num2, .int bits2])), (num2, .inr (1, [.ref num2_q, .int num2_m])), (num2_q, .inl (xI G, 24, .inl num2_f))] := hD
  refine lv_if_ne (tgt := 46) hx hb dX7_move_35 (by decide) (fun c35 => ?_) (fun c35 => ?_)
  · have hF := itN c35 hF
    refine lv_aload_n hx hb dX7_move_46 rfl (lv_at hl 2 rfl) ?_
    refine lv_iconst (v := 2) hx hb dX7_move_47 (by decide) ?_
    obtain ⟨u4, e4, hF⟩ := bdS hF
    refine xEndI (xRunV (As := [.int (2 : Int32)]) (rest := []) hZ (c_X7_error G t st kp vs rd wk chr shs er hasI imgs er_f (2 : Int32) u4 e4 l H.size) m167 m168 m169 m2 m170 1 ⟨rfl, hdX7_error⟩ ⟨Nat.le_of_ble_eq_true rfl, Nat.le_of_ble_eq_true rfl⟩ ⟨rfl, rfl⟩ hP hD hS 0 7 rfl rfl rfl [0, 2] rfl rfl rfl hl.1 rfl (Nat.le_of_ble_eq_true rfl) dX7_move_48 ⟨Nat.zero_le _, Nat.zero_le _⟩) hP hD hS hA [0, 2] rfl rfl rfl (fun H locs n4 hP hD hS => ?_)
    have hP : va_P G.1 vwCl [(t, .inr (7, [.ref st, .ref kp, .int hasI, .int imgs, .ref vs, .ref rd, .ref wk, .ref chr, .ref shs, .ref er])), (shs, .inl (xY G, 4, .inr (.inr (.inr (.inr shs_f))))), (er, .inl (xI G, 7, .inl u4.2)), (sh, .inr (2, [.ref num, .int bits])), (num, .inr (1, [.ref num_q, .int num_m])), (num_q, .inl (xI G, 24, .inl num_f)), (sh2, .inr (2, [.ref num2, .int bits2])), (num2, .inr (1, [.ref num2_q, .int num2_m])), (num2_q, .inl (xI G, 24, .inl num2_f))] H := hP
    have hD : va_D A [(t, .inr (7, [.ref st, .ref kp, .int hasI, .int imgs, .ref vs, .ref rd, .ref wk, .ref chr, .ref shs, .ref er])), (shs, .inl (xY G, 4, .inr (.inr (.inr (.inr shs_f))))), (er, .inl (xI G, 7, .inl u4.2)), (sh, .inr (2, [.ref num, .int bits])), (num, .inr (1, [.ref num_q, .int num_m])), (num_q, .inl (xI G, 24, .inl num_f)), (sh2, .inr (2, [.ref num2, .int bits2])), (num2, .inr (1, [.ref num2_q, .int num2_m])), (num2_q, .inl (xI G, 24, .inl num2_f))] := hD
    obtain rfl := Option.some.inj hF
    rw [← hQ]
    exact W.iret (v := u4.1) hx hb hr (fun t ht hW => ⟨⟨_, (), rfl, ⟨rfl, rfl⟩, xLf hP ht⟩, hS.F ht⟩) hS.2.2 dX7_move_51
  · have hF := itP c35 hF
    refine lv_aload hx hb dX7_move_38 (lv_at hl 0 rfl) ?_
    obtain ⟨u4, e4, hF⟩ := bdS hF
    refine xEndI (xRunV (As := []) (rest := []) hZ (c_X2_isMissing G sh2 num2 bits2 u4 e4 l H.size) m878 m879 m880 m42 m881 0 ⟨rfl, hdX2_isMissing⟩ ⟨Nat.le_of_ble_eq_true rfl, Nat.le_of_ble_eq_true rfl⟩ ⟨rfl, rfl⟩ hP hD hS 6 2 rfl rfl rfl [6] rfl rfl rfl hl.1 rfl (Nat.le_of_ble_eq_true rfl) dX7_move_40 ⟨Nat.zero_le _, Nat.zero_le _⟩) hP hD hS hA [6] rfl rfl rfl (fun H locs n4 hP hD hS => ?_)
    have hP : va_P G.1 vwCl [(t, .inr (7, [.ref st, .ref kp, .int hasI, .int imgs, .ref vs, .ref rd, .ref wk, .ref chr, .ref shs, .ref er])), (shs, .inl (xY G, 4, .inr (.inr (.inr (.inr shs_f))))), (er, .inl (xI G, 7, .inl er_f)), (sh, .inr (2, [.ref num, .int bits])), (num, .inr (1, [.ref num_q, .int num_m])), (num_q, .inl (xI G, 24, .inl num_f)), (sh2, .inr (2, [.ref num2, .int bits2])), (num2, .inr (1, [.ref num2_q, .int num2_m])), (num2_q, .inl (xI G, 24, .inl num2_f))] H := hP
    have hD : va_D A [(t, .inr (7, [.ref st, .ref kp, .int hasI, .int imgs, .ref vs, .ref rd, .ref wk, .ref chr, .ref shs, .ref er])), (shs, .inl (xY G, 4, .inr (.inr (.inr (.inr shs_f))))), (er, .inl (xI G, 7, .inl er_f)), (sh, .inr (2, [.ref num, .int bits])), (num, .inr (1, [.ref num_q, .int num_m])), (num_q, .inl (xI G, 24, .inl num_f)), (sh2, .inr (2, [.ref num2, .int bits2])), (num2, .inr (1, [.ref num2_q, .int num2_m])), (num2_q, .inl (xI G, 24, .inl num2_f))] := hD
    refine lv_if_eq (tgt := 52) hx hb dX7_move_43 (by decide) (fun c43 => ?_) (fun c43 => ?_)
    · have hF := itP c43 hF
      refine lv_aload hx hb dX7_move_52 (lv_at hl 1 rfl) ?_
      refine va_get (ci := 2) (v := .int bits) (C := RX2) (T := TX2) (N := 2) hx hb hts (fun w h => tcons w (xin2 w h)) hown hK hP 3 rfl rfl 1 (by decide) (hts _ (tcons _ m1032)) (fun _ h9 => h9) rfl dX7_move_54 ?_
      refine lv_aload hx hb dX7_move_57 (lv_at hl 0 rfl) ?_
      refine va_get (ci := 2) (v := .int bits2) (C := RX2) (T := TX2) (N := 2) hx hb hts (fun w h => tcons w (xin2 w h)) hown hK hP 6 rfl rfl 1 (by decide) (hts _ (tcons _ m1032)) (fun _ h9 => h9) rfl dX7_move_59 ?_
      refine lv_icmp_eq (tgt := 71) hx hb dX7_move_62 (by decide) (fun c62 => ?_) (fun c62 => ?_)
      · have hF := itP c62 hF
        refine lv_aload hx hb dX7_move_71 (lv_at hl 1 rfl) ?_
        refine va_get (ci := 2) (v := .ref num) (C := RX2) (T := TX2) (N := 2) hx hb hts (fun w h => tcons w (xin2 w h)) hown hK hP 3 rfl rfl 0 (by decide) (hts _ (tcons _ m873)) (fun _ h9 => h9) rfl dX7_move_73 ?_
        refine lv_iload_n hx hb dX7_move_76 rfl (lv_at hl 4 rfl) ?_
        refine lv_iload hx hb dX7_move_77 (lv_at hl 7 rfl) ?_
        obtain ⟨u5, e5, hF⟩ := bdS hF
        refine xEndI (xRunV (As := [.int i, .int k]) (rest := []) hZ (c_X1_hasRun G num num_q num_m i k u5 e5 l H.size) m1033 m669 m670 m49 m671 2 ⟨rfl, hdX1_hasRun⟩ ⟨Nat.le_of_ble_eq_true rfl, Nat.le_of_ble_eq_true rfl⟩ ⟨rfl, rfl⟩ hP hD hS 4 1 rfl rfl rfl [4] rfl rfl rfl hl.1 rfl (Nat.le_of_ble_eq_true rfl) dX7_move_79 ⟨Nat.zero_le _, Nat.zero_le _⟩) hP hD hS hA [4] rfl rfl rfl (fun H locs n5 hP hD hS => ?_)
        have hP : va_P G.1 vwCl [(t, .inr (7, [.ref st, .ref kp, .int hasI, .int imgs, .ref vs, .ref rd, .ref wk, .ref chr, .ref shs, .ref er])), (shs, .inl (xY G, 4, .inr (.inr (.inr (.inr shs_f))))), (er, .inl (xI G, 7, .inl er_f)), (sh, .inr (2, [.ref num, .int bits])), (num, .inr (1, [.ref num_q, .int num_m])), (num_q, .inl (xI G, 24, .inl num_f)), (sh2, .inr (2, [.ref num2, .int bits2])), (num2, .inr (1, [.ref num2_q, .int num2_m])), (num2_q, .inl (xI G, 24, .inl num2_f))] H := hP
        have hD : va_D A [(t, .inr (7, [.ref st, .ref kp, .int hasI, .int imgs, .ref vs, .ref rd, .ref wk, .ref chr, .ref shs, .ref er])), (shs, .inl (xY G, 4, .inr (.inr (.inr (.inr shs_f))))), (er, .inl (xI G, 7, .inl er_f)), (sh, .inr (2, [.ref num, .int bits])), (num, .inr (1, [.ref num_q, .int num_m])), (num_q, .inl (xI G, 24, .inl num_f)), (sh2, .inr (2, [.ref num2, .int bits2])), (num2, .inr (1, [.ref num2_q, .int num2_m])), (num2_q, .inl (xI G, 24, .inl num2_f))] := hD
        refine lv_if_eq (tgt := 100) hx hb dX7_move_82 (by decide) (fun c82 => ?_) (fun c82 => ?_)
        · have hF := itP c82 hF
          refine lv_aload_n hx hb dX7_move_100 rfl (lv_at hl 2 rfl) ?_
          refine lv_iconst (v := 1) hx hb dX7_move_101 (by decide) ?_
          obtain ⟨u6, e6, hF⟩ := bdS hF
          refine xEndI (xRunV (As := [.int (1 : Int32)]) (rest := []) hZ (c_X7_error G t st kp vs rd wk chr shs er hasI imgs er_f (1 : Int32) u6 e6 l H.size) m167 m168 m169 m2 m170 1 ⟨rfl, hdX7_error⟩ ⟨Nat.le_of_ble_eq_true rfl, Nat.le_of_ble_eq_true rfl⟩ ⟨rfl, rfl⟩ hP hD hS 0 7 rfl rfl rfl [0, 2] rfl rfl rfl hl.1 rfl (Nat.le_of_ble_eq_true rfl) dX7_move_102 ⟨Nat.zero_le _, Nat.zero_le _⟩) hP hD hS hA [0, 2] rfl rfl rfl (fun H locs n6 hP hD hS => ?_)
          have hP : va_P G.1 vwCl [(t, .inr (7, [.ref st, .ref kp, .int hasI, .int imgs, .ref vs, .ref rd, .ref wk, .ref chr, .ref shs, .ref er])), (shs, .inl (xY G, 4, .inr (.inr (.inr (.inr shs_f))))), (er, .inl (xI G, 7, .inl u6.2)), (sh, .inr (2, [.ref num, .int bits])), (num, .inr (1, [.ref num_q, .int num_m])), (num_q, .inl (xI G, 24, .inl num_f)), (sh2, .inr (2, [.ref num2, .int bits2])), (num2, .inr (1, [.ref num2_q, .int num2_m])), (num2_q, .inl (xI G, 24, .inl num2_f))] H := hP
          have hD : va_D A [(t, .inr (7, [.ref st, .ref kp, .int hasI, .int imgs, .ref vs, .ref rd, .ref wk, .ref chr, .ref shs, .ref er])), (shs, .inl (xY G, 4, .inr (.inr (.inr (.inr shs_f))))), (er, .inl (xI G, 7, .inl u6.2)), (sh, .inr (2, [.ref num, .int bits])), (num, .inr (1, [.ref num_q, .int num_m])), (num_q, .inl (xI G, 24, .inl num_f)), (sh2, .inr (2, [.ref num2, .int bits2])), (num2, .inr (1, [.ref num2_q, .int num2_m])), (num2_q, .inl (xI G, 24, .inl num2_f))] := hD
          obtain rfl := Option.some.inj hF
          rw [← hQ]
          exact W.iret (v := u6.1) hx hb hr (fun t ht hW => ⟨⟨_, (), rfl, ⟨rfl, rfl⟩, xLf hP ht⟩, hS.F ht⟩) hS.2.2 dX7_move_105
        · have hF := itN c82 hF
          refine lv_aload hx hb dX7_move_85 (lv_at hl 0 rfl) ?_
          refine va_get (ci := 2) (v := .ref num2) (C := RX2) (T := TX2) (N := 2) hx hb hts (fun w h => tcons w (xin2 w h)) hown hK hP 6 rfl rfl 0 (by decide) (hts _ (tcons _ m873)) (fun _ h9 => h9) rfl dX7_move_87 ?_
          refine lv_iload hx hb dX7_move_90 (lv_at hl 6 rfl) ?_
          refine lv_iload hx hb dX7_move_92 (lv_at hl 7 rfl) ?_
          obtain ⟨u6, e6, hF⟩ := bdS hF
          refine xEndI (xRunV (As := [.int j, .int k]) (rest := []) hZ (c_X1_hasRun G num2 num2_q num2_m j k u6 e6 l H.size) m1033 m669 m670 m49 m671 2 ⟨rfl, hdX1_hasRun⟩ ⟨Nat.le_of_ble_eq_true rfl, Nat.le_of_ble_eq_true rfl⟩ ⟨rfl, rfl⟩ hP hD hS 7 1 rfl rfl rfl [7] rfl rfl rfl hl.1 rfl (Nat.le_of_ble_eq_true rfl) dX7_move_94 ⟨Nat.zero_le _, Nat.zero_le _⟩) hP hD hS hA [7] rfl rfl rfl (fun H locs n6 hP hD hS => ?_)
          have hP : va_P G.1 vwCl [(t, .inr (7, [.ref st, .ref kp, .int hasI, .int imgs, .ref vs, .ref rd, .ref wk, .ref chr, .ref shs, .ref er])), (shs, .inl (xY G, 4, .inr (.inr (.inr (.inr shs_f))))), (er, .inl (xI G, 7, .inl er_f)), (sh, .inr (2, [.ref num, .int bits])), (num, .inr (1, [.ref num_q, .int num_m])), (num_q, .inl (xI G, 24, .inl num_f)), (sh2, .inr (2, [.ref num2, .int bits2])), (num2, .inr (1, [.ref num2_q, .int num2_m])), (num2_q, .inl (xI G, 24, .inl num2_f))] H := hP
          have hD : va_D A [(t, .inr (7, [.ref st, .ref kp, .int hasI, .int imgs, .ref vs, .ref rd, .ref wk, .ref chr, .ref shs, .ref er])), (shs, .inl (xY G, 4, .inr (.inr (.inr (.inr shs_f))))), (er, .inl (xI G, 7, .inl er_f)), (sh, .inr (2, [.ref num, .int bits])), (num, .inr (1, [.ref num_q, .int num_m])), (num_q, .inl (xI G, 24, .inl num_f)), (sh2, .inr (2, [.ref num2, .int bits2])), (num2, .inr (1, [.ref num2_q, .int num2_m])), (num2_q, .inl (xI G, 24, .inl num2_f))] := hD
          refine lv_if_ne (tgt := 106) hx hb dX7_move_97 (by decide) (fun c97 => ?_) (fun c97 => ?_)
          · have hF := itN c97 hF
            refine lv_aload hx hb dX7_move_106 (lv_at hl 0 rfl) ?_
            refine va_get (ci := 2) (v := .ref num2) (C := RX2) (T := TX2) (N := 2) hx hb hts (fun w h => tcons w (xin2 w h)) hown hK hP 6 rfl rfl 0 (by decide) (hts _ (tcons _ m873)) (fun _ h9 => h9) rfl dX7_move_108 ?_
            refine lv_aload hx hb dX7_move_111 (lv_at hl 1 rfl) ?_
            refine va_get (ci := 2) (v := .ref num) (C := RX2) (T := TX2) (N := 2) hx hb hts (fun w h => tcons w (xin2 w h)) hown hK hP 3 rfl rfl 0 (by decide) (hts _ (tcons _ m873)) (fun _ h9 => h9) rfl dX7_move_113 ?_
            refine lv_iload_n hx hb dX7_move_116 rfl (lv_at hl 4 rfl) ?_
            refine lv_iload hx hb dX7_move_117 (lv_at hl 6 rfl) ?_
            refine lv_iload hx hb dX7_move_119 (lv_at hl 7 rfl) ?_
            obtain ⟨u7, e7, hF⟩ := bdS hF
            refine xEndV (xRunV (As := [.ref num, .int i, .int j, .int k]) (rest := []) hZ (c_X1_takeRun G num2 num2_q num num_q 24 24 num2_m num2_f num_m num_f i j k u7 e7 l H.size) m1034 m661 m662 m49 m663 4 ⟨rfl, hdX1_takeRun⟩ ⟨Nat.le_of_ble_eq_true rfl, Nat.le_of_ble_eq_true rfl⟩ ⟨rfl, rfl⟩ hP hD hS 7 1 rfl rfl rfl [7, 8, 4, 5] rfl rfl rfl hl.1 rfl (Nat.le_of_ble_eq_true rfl) dX7_move_121 ⟨Nat.zero_le _, Nat.zero_le _⟩) hP hD hS hA [7, 8, 4, 5] rfl rfl rfl (fun H locs hP hD hS => ?_)
            have hP : va_P G.1 vwCl [(t, .inr (7, [.ref st, .ref kp, .int hasI, .int imgs, .ref vs, .ref rd, .ref wk, .ref chr, .ref shs, .ref er])), (shs, .inl (xY G, 4, .inr (.inr (.inr (.inr shs_f))))), (er, .inl (xI G, 7, .inl er_f)), (sh, .inr (2, [.ref num, .int bits])), (num, .inr (1, [.ref num_q, .int num_m])), (num_q, .inl (xI G, 24, .inl num_f)), (sh2, .inr (2, [.ref num2, .int bits2])), (num2, .inr (1, [.ref num2_q, .int num2_m])), (num2_q, .inl (xI G, 24, .inl u7))] H := hP
            have hD : va_D A [(t, .inr (7, [.ref st, .ref kp, .int hasI, .int imgs, .ref vs, .ref rd, .ref wk, .ref chr, .ref shs, .ref er])), (shs, .inl (xY G, 4, .inr (.inr (.inr (.inr shs_f))))), (er, .inl (xI G, 7, .inl er_f)), (sh, .inr (2, [.ref num, .int bits])), (num, .inr (1, [.ref num_q, .int num_m])), (num_q, .inl (xI G, 24, .inl num_f)), (sh2, .inr (2, [.ref num2, .int bits2])), (num2, .inr (1, [.ref num2_q, .int num2_m])), (num2_q, .inl (xI G, 24, .inl u7))] := hD
            refine lv_iload hx hb dX7_move_124 (lv_at hl 7 rfl) ?_
            obtain rfl := Option.some.inj hF
            rw [← hQ]
            exact W.iret (v := k) hx hb hr (fun t ht hW => ⟨⟨_, (), rfl, ⟨rfl, rfl⟩, xLf hP ht⟩, hS.F ht⟩) hS.2.2 dX7_move_126
          · have hF := itP c97 hF
            refine lv_aload_n hx hb dX7_move_100 rfl (lv_at hl 2 rfl) ?_
            refine lv_iconst (v := 1) hx hb dX7_move_101 (by decide) ?_
            obtain ⟨u7, e7, hF⟩ := bdS hF
            refine xEndI (xRunV (As := [.int (1 : Int32)]) (rest := []) hZ (c_X7_error G t st kp vs rd wk chr shs er hasI imgs er_f (1 : Int32) u7 e7 l H.size) m167 m168 m169 m2 m170 1 ⟨rfl, hdX7_error⟩ ⟨Nat.le_of_ble_eq_true rfl, Nat.le_of_ble_eq_true rfl⟩ ⟨rfl, rfl⟩ hP hD hS 0 7 rfl rfl rfl [0, 2] rfl rfl rfl hl.1 rfl (Nat.le_of_ble_eq_true rfl) dX7_move_102 ⟨Nat.zero_le _, Nat.zero_le _⟩) hP hD hS hA [0, 2] rfl rfl rfl (fun H locs n7 hP hD hS => ?_)
            have hP : va_P G.1 vwCl [(t, .inr (7, [.ref st, .ref kp, .int hasI, .int imgs, .ref vs, .ref rd, .ref wk, .ref chr, .ref shs, .ref er])), (shs, .inl (xY G, 4, .inr (.inr (.inr (.inr shs_f))))), (er, .inl (xI G, 7, .inl u7.2)), (sh, .inr (2, [.ref num, .int bits])), (num, .inr (1, [.ref num_q, .int num_m])), (num_q, .inl (xI G, 24, .inl num_f)), (sh2, .inr (2, [.ref num2, .int bits2])), (num2, .inr (1, [.ref num2_q, .int num2_m])), (num2_q, .inl (xI G, 24, .inl num2_f))] H := hP
            have hD : va_D A [(t, .inr (7, [.ref st, .ref kp, .int hasI, .int imgs, .ref vs, .ref rd, .ref wk, .ref chr, .ref shs, .ref er])), (shs, .inl (xY G, 4, .inr (.inr (.inr (.inr shs_f))))), (er, .inl (xI G, 7, .inl u7.2)), (sh, .inr (2, [.ref num, .int bits])), (num, .inr (1, [.ref num_q, .int num_m])), (num_q, .inl (xI G, 24, .inl num_f)), (sh2, .inr (2, [.ref num2, .int bits2])), (num2, .inr (1, [.ref num2_q, .int num2_m])), (num2_q, .inl (xI G, 24, .inl num2_f))] := hD
            obtain rfl := Option.some.inj hF
            rw [← hQ]
            exact W.iret (v := u7.1) hx hb hr (fun t ht hW => ⟨⟨_, (), rfl, ⟨rfl, rfl⟩, xLf hP ht⟩, hS.F ht⟩) hS.2.2 dX7_move_105
      · have hF := itN c62 hF
        refine lv_aload_n hx hb dX7_move_65 rfl (lv_at hl 2 rfl) ?_
        refine lv_iconst (v := 5) hx hb dX7_move_66 (by decide) ?_
        obtain ⟨u5, e5, hF⟩ := bdS hF
        refine xEndI (xRunV (As := [.int (5 : Int32)]) (rest := []) hZ (c_X7_error G t st kp vs rd wk chr shs er hasI imgs er_f (5 : Int32) u5 e5 l H.size) m167 m168 m169 m2 m170 1 ⟨rfl, hdX7_error⟩ ⟨Nat.le_of_ble_eq_true rfl, Nat.le_of_ble_eq_true rfl⟩ ⟨rfl, rfl⟩ hP hD hS 0 7 rfl rfl rfl [0, 2] rfl rfl rfl hl.1 rfl (Nat.le_of_ble_eq_true rfl) dX7_move_67 ⟨Nat.zero_le _, Nat.zero_le _⟩) hP hD hS hA [0, 2] rfl rfl rfl (fun H locs n5 hP hD hS => ?_)
        have hP : va_P G.1 vwCl [(t, .inr (7, [.ref st, .ref kp, .int hasI, .int imgs, .ref vs, .ref rd, .ref wk, .ref chr, .ref shs, .ref er])), (shs, .inl (xY G, 4, .inr (.inr (.inr (.inr shs_f))))), (er, .inl (xI G, 7, .inl u5.2)), (sh, .inr (2, [.ref num, .int bits])), (num, .inr (1, [.ref num_q, .int num_m])), (num_q, .inl (xI G, 24, .inl num_f)), (sh2, .inr (2, [.ref num2, .int bits2])), (num2, .inr (1, [.ref num2_q, .int num2_m])), (num2_q, .inl (xI G, 24, .inl num2_f))] H := hP
        have hD : va_D A [(t, .inr (7, [.ref st, .ref kp, .int hasI, .int imgs, .ref vs, .ref rd, .ref wk, .ref chr, .ref shs, .ref er])), (shs, .inl (xY G, 4, .inr (.inr (.inr (.inr shs_f))))), (er, .inl (xI G, 7, .inl u5.2)), (sh, .inr (2, [.ref num, .int bits])), (num, .inr (1, [.ref num_q, .int num_m])), (num_q, .inl (xI G, 24, .inl num_f)), (sh2, .inr (2, [.ref num2, .int bits2])), (num2, .inr (1, [.ref num2_q, .int num2_m])), (num2_q, .inl (xI G, 24, .inl num2_f))] := hD
        obtain rfl := Option.some.inj hF
        rw [← hQ]
        exact W.iret (v := u5.1) hx hb hr (fun t ht hW => ⟨⟨_, (), rfl, ⟨rfl, rfl⟩, xLf hP ht⟩, hS.F ht⟩) hS.2.2 dX7_move_70
    · have hF := itN c43 hF
      refine lv_aload_n hx hb dX7_move_46 rfl (lv_at hl 2 rfl) ?_
      refine lv_iconst (v := 2) hx hb dX7_move_47 (by decide) ?_
      obtain ⟨u5, e5, hF⟩ := bdS hF
      refine xEndI (xRunV (As := [.int (2 : Int32)]) (rest := []) hZ (c_X7_error G t st kp vs rd wk chr shs er hasI imgs er_f (2 : Int32) u5 e5 l H.size) m167 m168 m169 m2 m170 1 ⟨rfl, hdX7_error⟩ ⟨Nat.le_of_ble_eq_true rfl, Nat.le_of_ble_eq_true rfl⟩ ⟨rfl, rfl⟩ hP hD hS 0 7 rfl rfl rfl [0, 2] rfl rfl rfl hl.1 rfl (Nat.le_of_ble_eq_true rfl) dX7_move_48 ⟨Nat.zero_le _, Nat.zero_le _⟩) hP hD hS hA [0, 2] rfl rfl rfl (fun H locs n5 hP hD hS => ?_)
      have hP : va_P G.1 vwCl [(t, .inr (7, [.ref st, .ref kp, .int hasI, .int imgs, .ref vs, .ref rd, .ref wk, .ref chr, .ref shs, .ref er])), (shs, .inl (xY G, 4, .inr (.inr (.inr (.inr shs_f))))), (er, .inl (xI G, 7, .inl u5.2)), (sh, .inr (2, [.ref num, .int bits])), (num, .inr (1, [.ref num_q, .int num_m])), (num_q, .inl (xI G, 24, .inl num_f)), (sh2, .inr (2, [.ref num2, .int bits2])), (num2, .inr (1, [.ref num2_q, .int num2_m])), (num2_q, .inl (xI G, 24, .inl num2_f))] H := hP
      have hD : va_D A [(t, .inr (7, [.ref st, .ref kp, .int hasI, .int imgs, .ref vs, .ref rd, .ref wk, .ref chr, .ref shs, .ref er])), (shs, .inl (xY G, 4, .inr (.inr (.inr (.inr shs_f))))), (er, .inl (xI G, 7, .inl u5.2)), (sh, .inr (2, [.ref num, .int bits])), (num, .inr (1, [.ref num_q, .int num_m])), (num_q, .inl (xI G, 24, .inl num_f)), (sh2, .inr (2, [.ref num2, .int bits2])), (num2, .inr (1, [.ref num2_q, .int num2_m])), (num2_q, .inl (xI G, 24, .inl num2_f))] := hD
      obtain rfl := Option.some.inj hF
      rw [← hQ]
      exact W.iret (v := u5.1) hx hb hr (fun t ht hW => ⟨⟨_, (), rfl, ⟨rfl, rfl⟩, xLf hP ht⟩, hS.F ht⟩) hS.2.2 dX7_move_51
def F_X7_move_same (er_f : Nat → Int32) (bits : Int32) (num_m : Int32) (num_f : Nat → Int32) (si : Int32) (i : Int32) (sj : Int32) (j : Int32) (k : Int32) : Option (Int32 × (Nat → Int32) × (Nat → Int32)) := bd (F_X7_sheetOf_in si) (fun (u1 : Unit) => bd (F_X7_sheetOf_in sj) (fun (u2 : Unit) => bd (F_X2_isMissing bits) (fun (u3 : Int32) => if u3 = 0 then (bd (F_X2_isMissing bits) (fun (u4 : Int32) => if u4 = 0 then (if bits = bits then (bd (F_X1_hasRun num_m i k) (fun (u5 : Int32) => if u5 = 0 then (bd (F_X7_error er_f (1 : Int32)) (fun (u6 : (Int32 × (Nat → Int32))) => some (u6.1, u6.2, num_f))) else (bd (F_X1_hasRun num_m j k) (fun (u6 : Int32) => if u6 = 0 then (bd (F_X7_error er_f (1 : Int32)) (fun (u7 : (Int32 × (Nat → Int32))) => some (u7.1, u7.2, num_f))) else (bd (F_X1_takeRun_same 24 num_m num_f i j k) (fun (u7 : (Nat → Int32)) => some (k, er_f, u7))))))) else (bd (F_X7_error er_f (5 : Int32)) (fun (u5 : (Int32 × (Nat → Int32))) => some (u5.1, u5.2, num_f)))) else (bd (F_X7_error er_f (2 : Int32)) (fun (u5 : (Int32 × (Nat → Int32))) => some (u5.1, u5.2, num_f))))) else (bd (F_X7_error er_f (2 : Int32)) (fun (u4 : (Int32 × (Nat → Int32))) => some (u4.1, u4.2, num_f))))))
set_option maxHeartbeats 4000000 in
set_option maxRecDepth 100000 in
theorem c_X7_move_same (G : xG) (t : Nat) (st : Nat) (kp : Nat) (vs : Nat) (rd : Nat) (wk : Nat) (chr : Nat) (shs : Nat) (er : Nat) (sh : Nat) (num : Nat) (num_q : Nat) (hasI : Int32) (imgs : Int32) (shs_f : Nat → Option Nat) (er_f : Nat → Int32) (bits : Int32) (num_m : Int32) (num_f : Nat → Int32) (si : Int32) (i : Int32) (sj : Int32) (j : Int32) (k : Int32) (hsel : shs_f si.toNatClampNeg = some sh) (hsel2 : shs_f sj.toNatClampNeg = some sh) (u : (Int32 × (Nat → Int32) × (Nat → Int32))) (hF : F_X7_move_same er_f bits num_m num_f si i sj j k = some u) : Ki G .int yX7_move (Cond.code yX7_move cX7_move 8 (some .int) :: TBL) { frames := 2, cells := 0, slots := 0, locals := 84 } [.ref t, .int si, .int i, .int sj, .int j, .int k] [(t, .inr (7, [.ref st, .ref kp, .int hasI, .int imgs, .ref vs, .ref rd, .ref wk, .ref chr, .ref shs, .ref er])), (shs, .inl (xY G, 4, .inr (.inr (.inr (.inr shs_f))))), (er, .inl (xI G, 7, .inl er_f)), (sh, .inr (2, [.ref num, .int bits])), (num, .inr (1, [.ref num_q, .int num_m])), (num_q, .inl (xI G, 24, .inl num_f))] [(t, .inr (7, [.ref st, .ref kp, .int hasI, .int imgs, .ref vs, .ref rd, .ref wk, .ref chr, .ref shs, .ref er])), (shs, .inl (xY G, 4, .inr (.inr (.inr (.inr shs_f))))), (er, .inl (xI G, 7, .inl u.2.1)), (sh, .inr (2, [.ref num, .int bits])), (num, .inr (1, [.ref num_q, .int num_m])), (num_q, .inl (xI G, 24, .inl u.2.2))] u.1 := by
  intro l sz
  refine Met.ofW (cc := cX7_move) (maxL := 8) (ret := (some .int)) (by decide) rfl ?_
  intro p e s m args below meth c s₁ B hml hv
  obtain ⟨rfl, hsz, hP, hD0, hm⟩ := hv
  have hx := B.exec
  have hb := B.bytes
  have hr := B.returns
  have hts := atoms_spec (ws := Cond.code yX7_move cX7_move 8 (some .int) :: TBL) B.pre
  have hown : s.vm.findClass RX7 = some m.cls := findClass_of_methodNamed B.named
  have hlocks := B.notSynchronized
  subst hsz
  have hD := hD0.self (sz := s.heap.size)
  generalize hAe : va_A [(t, .inr (7, [.ref st, .ref kp, .int hasI, .int imgs, .ref vs, .ref rd, .ref wk, .ref chr, .ref shs, .ref er])), (shs, .inl (xY G, 4, .inr (.inr (.inr (.inr shs_f))))), (er, .inl (xI G, 7, .inl er_f)), (sh, .inr (2, [.ref num, .int bits])), (num, .inr (1, [.ref num_q, .int num_m])), (num_q, .inl (xI G, 24, .inl num_f))] s.heap.size = A at hD hm ⊢
  have hA : ∀ q : Nat, s.heap.size ≤ q → A q := fun q h => by rw [← hAe]; exact Or.inr h
  have hK := hm.1
  have hZ : xAnd p m c cX7_move 8 s _ (Cond.code yX7_move cX7_move 8 (some .int) :: TBL) RX7 G A := ⟨⟨hx, hb, hml, hown, hts⟩, tcons, hA, hm⟩
  have hP : va_P G.1 vwCl [(t, .inr (7, [.ref st, .ref kp, .int hasI, .int imgs, .ref vs, .ref rd, .ref wk, .ref chr, .ref shs, .ref er])), (shs, .inl (xY G, 4, .inr (.inr (.inr (.inr shs_f))))), (er, .inl (xI G, 7, .inl er_f)), (sh, .inr (2, [.ref num, .int bits])), (num, .inr (1, [.ref num_q, .int num_m])), (num_q, .inl (xI G, 24, .inl num_f))] s.heap := hP
  have hl := lv_entry ([.ref t, .int si, .int i, .int sj, .int j, .int k]) (n := 8) (Nat.le_of_ble_eq_true rfl)
  rw [lg_entry_eq]
  generalize (lg_sl ([.ref t, .int si, .int i, .int sj, .int j, .int k]) ++ List.replicate (8 - (lg_sl ([.ref t, .int si, .int i, .int sj, .int j, .int k])).length) Slot.unset).toArray = ls at hl ⊢
  have hl : lv_has ls 8 [(0, .ref t), (1, .int si), (2, .int i), (3, .int sj), (4, .int j), (5, .int k)] := hl
  generalize hQ : MQ below _ _ s _ _ _ = Q
  refine xGo (A := A) hP (fun H locs hP hS => ?_)
  unfold F_X7_move_same at hF
  refine lv_aload_n hx hb dX7_move_0 rfl (lv_at hl 0 rfl) ?_
  refine lv_iload_n hx hb dX7_move_1 rfl (lv_at hl 1 rfl) ?_
  obtain ⟨u1, e1, hF⟩ := bdS hF
  refine xEndQ (xRunV (As := [.int si]) (rest := []) hZ (c_X7_sheetOf_in G t st kp vs rd wk chr shs er sh hasI imgs shs_f si hsel u1 e1 l H.size) m874 m875 m876 m2 m877 1 ⟨rfl, hdX7_sheetOf⟩ ⟨Nat.le_of_ble_eq_true rfl, Nat.le_of_ble_eq_true rfl⟩ ⟨rfl, rfl⟩ hP hD hS 0 7 rfl rfl rfl [0, 1] rfl rfl rfl hl.1 rfl (Nat.le_of_ble_eq_true rfl) dX7_move_2 ⟨Nat.zero_le _, Nat.zero_le _⟩) hP hD hS hA [0, 1] rfl rfl rfl (fun H locs hP hD hS => ?_)
  have hP : va_P G.1 vwCl [(t, .inr (7, [.ref st, .ref kp, .int hasI, .int imgs, .ref vs, .ref rd, .ref wk, .ref chr, .ref shs, .ref er])), (shs, .inl (xY G, 4, .inr (.inr (.inr (.inr shs_f))))), (er, .inl (xI G, 7, .inl er_f)), (sh, .inr (2, [.ref num, .int bits])), (num, .inr (1, [.ref num_q, .int num_m])), (num_q, .inl (xI G, 24, .inl num_f))] H := hP
  have hD : va_D A [(t, .inr (7, [.ref st, .ref kp, .int hasI, .int imgs, .ref vs, .ref rd, .ref wk, .ref chr, .ref shs, .ref er])), (shs, .inl (xY G, 4, .inr (.inr (.inr (.inr shs_f))))), (er, .inl (xI G, 7, .inl er_f)), (sh, .inr (2, [.ref num, .int bits])), (num, .inr (1, [.ref num_q, .int num_m])), (num_q, .inl (xI G, 24, .inl num_f))] := hD
  refine lv_astore (lv' := [(6, .ref sh), (0, .ref t), (1, .int si), (2, .int i), (3, .int sj), (4, .int j), (5, .int k)]) hx hb dX7_move_5 hl (by decide) rfl (fun ls hl => ?_)
  refine lv_aload_n hx hb dX7_move_7 rfl (lv_at hl 1 rfl) ?_
  refine lv_iload_n hx hb dX7_move_8 rfl (lv_at hl 4 rfl) ?_
  obtain ⟨u2, e2, hF⟩ := bdS hF
  refine xEndQ (xRunV (As := [.int sj]) (rest := []) hZ (c_X7_sheetOf_in G t st kp vs rd wk chr shs er sh hasI imgs shs_f sj hsel2 u2 e2 l H.size) m874 m875 m876 m2 m877 1 ⟨rfl, hdX7_sheetOf⟩ ⟨Nat.le_of_ble_eq_true rfl, Nat.le_of_ble_eq_true rfl⟩ ⟨rfl, rfl⟩ hP hD hS 0 7 rfl rfl rfl [0, 1] rfl rfl rfl hl.1 rfl (Nat.le_of_ble_eq_true rfl) dX7_move_9 ⟨Nat.zero_le _, Nat.zero_le _⟩) hP hD hS hA [0, 1] rfl rfl rfl (fun H locs hP hD hS => ?_)
  have hP : va_P G.1 vwCl [(t, .inr (7, [.ref st, .ref kp, .int hasI, .int imgs, .ref vs, .ref rd, .ref wk, .ref chr, .ref shs, .ref er])), (shs, .inl (xY G, 4, .inr (.inr (.inr (.inr shs_f))))), (er, .inl (xI G, 7, .inl er_f)), (sh, .inr (2, [.ref num, .int bits])), (num, .inr (1, [.ref num_q, .int num_m])), (num_q, .inl (xI G, 24, .inl num_f))] H := hP
  have hD : va_D A [(t, .inr (7, [.ref st, .ref kp, .int hasI, .int imgs, .ref vs, .ref rd, .ref wk, .ref chr, .ref shs, .ref er])), (shs, .inl (xY G, 4, .inr (.inr (.inr (.inr shs_f))))), (er, .inl (xI G, 7, .inl er_f)), (sh, .inr (2, [.ref num, .int bits])), (num, .inr (1, [.ref num_q, .int num_m])), (num_q, .inl (xI G, 24, .inl num_f))] := hD
  refine lv_astore (lv' := [(7, .ref sh), (6, .ref sh), (0, .ref t), (1, .int si), (2, .int i), (3, .int sj), (4, .int j), (5, .int k)]) hx hb dX7_move_12 hl (by decide) rfl (fun ls hl => ?_)
  refine lv_aload hx hb dX7_move_14 (lv_at hl 1 rfl) ?_
  refine lv_ifnull hx hb dX7_move_16 ?_
  refine lv_aload hx hb dX7_move_19 (lv_at hl 0 rfl) ?_
  refine lv_ifnonnull (tgt := 30) hx hb dX7_move_21 (by decide) ?_
  refine lv_aload hx hb dX7_move_30 (lv_at hl 1 rfl) ?_
  obtain ⟨u3, e3, hF⟩ := bdS hF
  refine xEndI (xRunV (As := []) (rest := []) hZ (c_X2_isMissing G sh num bits u3 e3 l H.size) m878 m879 m880 m42 m881 0 ⟨rfl, hdX2_isMissing⟩ ⟨Nat.le_of_ble_eq_true rfl, Nat.le_of_ble_eq_true rfl⟩ ⟨rfl, rfl⟩ hP hD hS 3 2 rfl rfl rfl [3] rfl rfl rfl hl.1 rfl (Nat.le_of_ble_eq_true rfl) dX7_move_32 ⟨Nat.zero_le _, Nat.zero_le _⟩) hP hD hS hA [3] rfl rfl rfl (fun H locs n3 hP hD hS => ?_)
  have hP : va_P G.1 vwCl [(t, .inr (7, [.ref st, .ref kp, .int hasI, .int imgs, .ref vs, .ref rd, .ref wk, .ref chr, .ref shs, .ref er])), (shs, .inl (xY G, 4, .inr (.inr (.inr (.inr shs_f))))), (er, .inl (xI G, 7, .inl er_f)), (sh, .inr (2, [.ref num, .int bits])), (num, .inr (1, [.ref num_q, .int num_m])), (num_q, .inl (xI G, 24, .inl num_f))] H := hP
  have hD : va_D A [(t, .inr (7, [.ref st, .ref kp, .int hasI, .int imgs, .ref vs, .ref rd, .ref wk, .ref chr, .ref shs, .ref er])), (shs, .inl (xY G, 4, .inr (.inr (.inr (.inr shs_f))))), (er, .inl (xI G, 7, .inl er_f)), (sh, .inr (2, [.ref num, .int bits])), (num, .inr (1, [.ref num_q, .int num_m])), (num_q, .inl (xI G, 24, .inl num_f))] := hD
  refine lv_if_ne (tgt := 46) hx hb dX7_move_35 (by decide) (fun c35 => ?_) (fun c35 => ?_)
  · have hF := itN c35 hF
    refine lv_aload_n hx hb dX7_move_46 rfl (lv_at hl 2 rfl) ?_
    refine lv_iconst (v := 2) hx hb dX7_move_47 (by decide) ?_
    obtain ⟨u4, e4, hF⟩ := bdS hF
    refine xEndI (xRunV (As := [.int (2 : Int32)]) (rest := []) hZ (c_X7_error G t st kp vs rd wk chr shs er hasI imgs er_f (2 : Int32) u4 e4 l H.size) m167 m168 m169 m2 m170 1 ⟨rfl, hdX7_error⟩ ⟨Nat.le_of_ble_eq_true rfl, Nat.le_of_ble_eq_true rfl⟩ ⟨rfl, rfl⟩ hP hD hS 0 7 rfl rfl rfl [0, 2] rfl rfl rfl hl.1 rfl (Nat.le_of_ble_eq_true rfl) dX7_move_48 ⟨Nat.zero_le _, Nat.zero_le _⟩) hP hD hS hA [0, 2] rfl rfl rfl (fun H locs n4 hP hD hS => ?_)
    have hP : va_P G.1 vwCl [(t, .inr (7, [.ref st, .ref kp, .int hasI, .int imgs, .ref vs, .ref rd, .ref wk, .ref chr, .ref shs, .ref er])), (shs, .inl (xY G, 4, .inr (.inr (.inr (.inr shs_f))))), (er, .inl (xI G, 7, .inl u4.2)), (sh, .inr (2, [.ref num, .int bits])), (num, .inr (1, [.ref num_q, .int num_m])), (num_q, .inl (xI G, 24, .inl num_f))] H := hP
    have hD : va_D A [(t, .inr (7, [.ref st, .ref kp, .int hasI, .int imgs, .ref vs, .ref rd, .ref wk, .ref chr, .ref shs, .ref er])), (shs, .inl (xY G, 4, .inr (.inr (.inr (.inr shs_f))))), (er, .inl (xI G, 7, .inl u4.2)), (sh, .inr (2, [.ref num, .int bits])), (num, .inr (1, [.ref num_q, .int num_m])), (num_q, .inl (xI G, 24, .inl num_f))] := hD
    obtain rfl := Option.some.inj hF
    rw [← hQ]
    exact W.iret (v := u4.1) hx hb hr (fun t ht hW => ⟨⟨_, (), rfl, ⟨rfl, rfl⟩, xLf hP ht⟩, hS.F ht⟩) hS.2.2 dX7_move_51
  · have hF := itP c35 hF
    refine lv_aload hx hb dX7_move_38 (lv_at hl 0 rfl) ?_
    obtain ⟨u4, e4, hF⟩ := bdS hF
    refine xEndI (xRunV (As := []) (rest := []) hZ (c_X2_isMissing G sh num bits u4 e4 l H.size) m878 m879 m880 m42 m881 0 ⟨rfl, hdX2_isMissing⟩ ⟨Nat.le_of_ble_eq_true rfl, Nat.le_of_ble_eq_true rfl⟩ ⟨rfl, rfl⟩ hP hD hS 3 2 rfl rfl rfl [3] rfl rfl rfl hl.1 rfl (Nat.le_of_ble_eq_true rfl) dX7_move_40 ⟨Nat.zero_le _, Nat.zero_le _⟩) hP hD hS hA [3] rfl rfl rfl (fun H locs n4 hP hD hS => ?_)
    have hP : va_P G.1 vwCl [(t, .inr (7, [.ref st, .ref kp, .int hasI, .int imgs, .ref vs, .ref rd, .ref wk, .ref chr, .ref shs, .ref er])), (shs, .inl (xY G, 4, .inr (.inr (.inr (.inr shs_f))))), (er, .inl (xI G, 7, .inl er_f)), (sh, .inr (2, [.ref num, .int bits])), (num, .inr (1, [.ref num_q, .int num_m])), (num_q, .inl (xI G, 24, .inl num_f))] H := hP
    have hD : va_D A [(t, .inr (7, [.ref st, .ref kp, .int hasI, .int imgs, .ref vs, .ref rd, .ref wk, .ref chr, .ref shs, .ref er])), (shs, .inl (xY G, 4, .inr (.inr (.inr (.inr shs_f))))), (er, .inl (xI G, 7, .inl er_f)), (sh, .inr (2, [.ref num, .int bits])), (num, .inr (1, [.ref num_q, .int num_m])), (num_q, .inl (xI G, 24, .inl num_f))] := hD
    refine lv_if_eq (tgt := 52) hx hb dX7_move_43 (by decide) (fun c43 => ?_) (fun c43 => ?_)
    · have hF := itP c43 hF
      refine lv_aload hx hb dX7_move_52 (lv_at hl 1 rfl) ?_
      refine va_get (ci := 2) (v := .int bits) (C := RX2) (T := TX2) (N := 2) hx hb hts (fun w h => tcons w (xin2 w h)) hown hK hP 3 rfl rfl 1 (by decide) (hts _ (tcons _ m1032)) (fun _ h9 => h9) rfl dX7_move_54 ?_
      refine lv_aload hx hb dX7_move_57 (lv_at hl 0 rfl) ?_
      refine va_get (ci := 2) (v := .int bits) (C := RX2) (T := TX2) (N := 2) hx hb hts (fun w h => tcons w (xin2 w h)) hown hK hP 3 rfl rfl 1 (by decide) (hts _ (tcons _ m1032)) (fun _ h9 => h9) rfl dX7_move_59 ?_
      refine lv_icmp_eq (tgt := 71) hx hb dX7_move_62 (by decide) (fun c62 => ?_) (fun c62 => ?_)
      · have hF := itP c62 hF
        refine lv_aload hx hb dX7_move_71 (lv_at hl 1 rfl) ?_
        refine va_get (ci := 2) (v := .ref num) (C := RX2) (T := TX2) (N := 2) hx hb hts (fun w h => tcons w (xin2 w h)) hown hK hP 3 rfl rfl 0 (by decide) (hts _ (tcons _ m873)) (fun _ h9 => h9) rfl dX7_move_73 ?_
        refine lv_iload_n hx hb dX7_move_76 rfl (lv_at hl 4 rfl) ?_
        refine lv_iload hx hb dX7_move_77 (lv_at hl 7 rfl) ?_
        obtain ⟨u5, e5, hF⟩ := bdS hF
        refine xEndI (xRunV (As := [.int i, .int k]) (rest := []) hZ (c_X1_hasRun G num num_q num_m i k u5 e5 l H.size) m1033 m669 m670 m49 m671 2 ⟨rfl, hdX1_hasRun⟩ ⟨Nat.le_of_ble_eq_true rfl, Nat.le_of_ble_eq_true rfl⟩ ⟨rfl, rfl⟩ hP hD hS 4 1 rfl rfl rfl [4] rfl rfl rfl hl.1 rfl (Nat.le_of_ble_eq_true rfl) dX7_move_79 ⟨Nat.zero_le _, Nat.zero_le _⟩) hP hD hS hA [4] rfl rfl rfl (fun H locs n5 hP hD hS => ?_)
        have hP : va_P G.1 vwCl [(t, .inr (7, [.ref st, .ref kp, .int hasI, .int imgs, .ref vs, .ref rd, .ref wk, .ref chr, .ref shs, .ref er])), (shs, .inl (xY G, 4, .inr (.inr (.inr (.inr shs_f))))), (er, .inl (xI G, 7, .inl er_f)), (sh, .inr (2, [.ref num, .int bits])), (num, .inr (1, [.ref num_q, .int num_m])), (num_q, .inl (xI G, 24, .inl num_f))] H := hP
        have hD : va_D A [(t, .inr (7, [.ref st, .ref kp, .int hasI, .int imgs, .ref vs, .ref rd, .ref wk, .ref chr, .ref shs, .ref er])), (shs, .inl (xY G, 4, .inr (.inr (.inr (.inr shs_f))))), (er, .inl (xI G, 7, .inl er_f)), (sh, .inr (2, [.ref num, .int bits])), (num, .inr (1, [.ref num_q, .int num_m])), (num_q, .inl (xI G, 24, .inl num_f))] := hD
        refine lv_if_eq (tgt := 100) hx hb dX7_move_82 (by decide) (fun c82 => ?_) (fun c82 => ?_)
        · have hF := itP c82 hF
          refine lv_aload_n hx hb dX7_move_100 rfl (lv_at hl 2 rfl) ?_
          refine lv_iconst (v := 1) hx hb dX7_move_101 (by decide) ?_
          obtain ⟨u6, e6, hF⟩ := bdS hF
          refine xEndI (xRunV (As := [.int (1 : Int32)]) (rest := []) hZ (c_X7_error G t st kp vs rd wk chr shs er hasI imgs er_f (1 : Int32) u6 e6 l H.size) m167 m168 m169 m2 m170 1 ⟨rfl, hdX7_error⟩ ⟨Nat.le_of_ble_eq_true rfl, Nat.le_of_ble_eq_true rfl⟩ ⟨rfl, rfl⟩ hP hD hS 0 7 rfl rfl rfl [0, 2] rfl rfl rfl hl.1 rfl (Nat.le_of_ble_eq_true rfl) dX7_move_102 ⟨Nat.zero_le _, Nat.zero_le _⟩) hP hD hS hA [0, 2] rfl rfl rfl (fun H locs n6 hP hD hS => ?_)
          have hP : va_P G.1 vwCl [(t, .inr (7, [.ref st, .ref kp, .int hasI, .int imgs, .ref vs, .ref rd, .ref wk, .ref chr, .ref shs, .ref er])), (shs, .inl (xY G, 4, .inr (.inr (.inr (.inr shs_f))))), (er, .inl (xI G, 7, .inl u6.2)), (sh, .inr (2, [.ref num, .int bits])), (num, .inr (1, [.ref num_q, .int num_m])), (num_q, .inl (xI G, 24, .inl num_f))] H := hP
          have hD : va_D A [(t, .inr (7, [.ref st, .ref kp, .int hasI, .int imgs, .ref vs, .ref rd, .ref wk, .ref chr, .ref shs, .ref er])), (shs, .inl (xY G, 4, .inr (.inr (.inr (.inr shs_f))))), (er, .inl (xI G, 7, .inl u6.2)), (sh, .inr (2, [.ref num, .int bits])), (num, .inr (1, [.ref num_q, .int num_m])), (num_q, .inl (xI G, 24, .inl num_f))] := hD
          obtain rfl := Option.some.inj hF
          rw [← hQ]
          exact W.iret (v := u6.1) hx hb hr (fun t ht hW => ⟨⟨_, (), rfl, ⟨rfl, rfl⟩, xLf hP ht⟩, hS.F ht⟩) hS.2.2 dX7_move_105
        · have hF := itN c82 hF
          refine lv_aload hx hb dX7_move_85 (lv_at hl 0 rfl) ?_
          refine va_get (ci := 2) (v := .ref num) (C := RX2) (T := TX2) (N := 2) hx hb hts (fun w h => tcons w (xin2 w h)) hown hK hP 3 rfl rfl 0 (by decide) (hts _ (tcons _ m873)) (fun _ h9 => h9) rfl dX7_move_87 ?_
          refine lv_iload hx hb dX7_move_90 (lv_at hl 6 rfl) ?_
          refine lv_iload hx hb dX7_move_92 (lv_at hl 7 rfl) ?_
          obtain ⟨u6, e6, hF⟩ := bdS hF
          refine xEndI (xRunV (As := [.int j, .int k]) (rest := []) hZ (c_X1_hasRun G num num_q num_m j k u6 e6 l H.size) m1033 m669 m670 m49 m671 2 ⟨rfl, hdX1_hasRun⟩ ⟨Nat.le_of_ble_eq_true rfl, Nat.le_of_ble_eq_true rfl⟩ ⟨rfl, rfl⟩ hP hD hS 4 1 rfl rfl rfl [4] rfl rfl rfl hl.1 rfl (Nat.le_of_ble_eq_true rfl) dX7_move_94 ⟨Nat.zero_le _, Nat.zero_le _⟩) hP hD hS hA [4] rfl rfl rfl (fun H locs n6 hP hD hS => ?_)
          have hP : va_P G.1 vwCl [(t, .inr (7, [.ref st, .ref kp, .int hasI, .int imgs, .ref vs, .ref rd, .ref wk, .ref chr, .ref shs, .ref er])), (shs, .inl (xY G, 4, .inr (.inr (.inr (.inr shs_f))))), (er, .inl (xI G, 7, .inl er_f)), (sh, .inr (2, [.ref num, .int bits])), (num, .inr (1, [.ref num_q, .int num_m])), (num_q, .inl (xI G, 24, .inl num_f))] H := hP
          have hD : va_D A [(t, .inr (7, [.ref st, .ref kp, .int hasI, .int imgs, .ref vs, .ref rd, .ref wk, .ref chr, .ref shs, .ref er])), (shs, .inl (xY G, 4, .inr (.inr (.inr (.inr shs_f))))), (er, .inl (xI G, 7, .inl er_f)), (sh, .inr (2, [.ref num, .int bits])), (num, .inr (1, [.ref num_q, .int num_m])), (num_q, .inl (xI G, 24, .inl num_f))] := hD
          refine lv_if_ne (tgt := 106) hx hb dX7_move_97 (by decide) (fun c97 => ?_) (fun c97 => ?_)
          · have hF := itN c97 hF
            refine lv_aload hx hb dX7_move_106 (lv_at hl 0 rfl) ?_
            refine va_get (ci := 2) (v := .ref num) (C := RX2) (T := TX2) (N := 2) hx hb hts (fun w h => tcons w (xin2 w h)) hown hK hP 3 rfl rfl 0 (by decide) (hts _ (tcons _ m873)) (fun _ h9 => h9) rfl dX7_move_108 ?_
            refine lv_aload hx hb dX7_move_111 (lv_at hl 1 rfl) ?_
            refine va_get (ci := 2) (v := .ref num) (C := RX2) (T := TX2) (N := 2) hx hb hts (fun w h => tcons w (xin2 w h)) hown hK hP 3 rfl rfl 0 (by decide) (hts _ (tcons _ m873)) (fun _ h9 => h9) rfl dX7_move_113 ?_
            refine lv_iload_n hx hb dX7_move_116 rfl (lv_at hl 4 rfl) ?_
            refine lv_iload hx hb dX7_move_117 (lv_at hl 6 rfl) ?_
            refine lv_iload hx hb dX7_move_119 (lv_at hl 7 rfl) ?_
            obtain ⟨u7, e7, hF⟩ := bdS hF
            refine xEndV (xRunV (As := [.ref num, .int i, .int j, .int k]) (rest := []) hZ (c_X1_takeRun_same G num num_q 24 num_m num_f i j k u7 e7 l H.size) m1034 m661 m662 m49 m663 4 ⟨rfl, hdX1_takeRun⟩ ⟨Nat.le_of_ble_eq_true rfl, Nat.le_of_ble_eq_true rfl⟩ ⟨rfl, rfl⟩ hP hD hS 4 1 rfl rfl rfl [4, 5] rfl rfl rfl hl.1 rfl (Nat.le_of_ble_eq_true rfl) dX7_move_121 ⟨Nat.zero_le _, Nat.zero_le _⟩) hP hD hS hA [4, 5] rfl rfl rfl (fun H locs hP hD hS => ?_)
            have hP : va_P G.1 vwCl [(t, .inr (7, [.ref st, .ref kp, .int hasI, .int imgs, .ref vs, .ref rd, .ref wk, .ref chr, .ref shs, .ref er])), (shs, .inl (xY G, 4, .inr (.inr (.inr (.inr shs_f))))), (er, .inl (xI G, 7, .inl er_f)), (sh, .inr (2, [.ref num, .int bits])), (num, .inr (1, [.ref num_q, .int num_m])), (num_q, .inl (xI G, 24, .inl u7))] H := hP
            have hD : va_D A [(t, .inr (7, [.ref st, .ref kp, .int hasI, .int imgs, .ref vs, .ref rd, .ref wk, .ref chr, .ref shs, .ref er])), (shs, .inl (xY G, 4, .inr (.inr (.inr (.inr shs_f))))), (er, .inl (xI G, 7, .inl er_f)), (sh, .inr (2, [.ref num, .int bits])), (num, .inr (1, [.ref num_q, .int num_m])), (num_q, .inl (xI G, 24, .inl u7))] := hD
            refine lv_iload hx hb dX7_move_124 (lv_at hl 7 rfl) ?_
            obtain rfl := Option.some.inj hF
            rw [← hQ]
            exact W.iret (v := k) hx hb hr (fun t ht hW => ⟨⟨_, (), rfl, ⟨rfl, rfl⟩, xLf hP ht⟩, hS.F ht⟩) hS.2.2 dX7_move_126
          · have hF := itP c97 hF
            refine lv_aload_n hx hb dX7_move_100 rfl (lv_at hl 2 rfl) ?_
            refine lv_iconst (v := 1) hx hb dX7_move_101 (by decide) ?_
            obtain ⟨u7, e7, hF⟩ := bdS hF
            refine xEndI (xRunV (As := [.int (1 : Int32)]) (rest := []) hZ (c_X7_error G t st kp vs rd wk chr shs er hasI imgs er_f (1 : Int32) u7 e7 l H.size) m167 m168 m169 m2 m170 1 ⟨rfl, hdX7_error⟩ ⟨Nat.le_of_ble_eq_true rfl, Nat.le_of_ble_eq_true rfl⟩ ⟨rfl, rfl⟩ hP hD hS 0 7 rfl rfl rfl [0, 2] rfl rfl rfl hl.1 rfl (Nat.le_of_ble_eq_true rfl) dX7_move_102 ⟨Nat.zero_le _, Nat.zero_le _⟩) hP hD hS hA [0, 2] rfl rfl rfl (fun H locs n7 hP hD hS => ?_)
            have hP : va_P G.1 vwCl [(t, .inr (7, [.ref st, .ref kp, .int hasI, .int imgs, .ref vs, .ref rd, .ref wk, .ref chr, .ref shs, .ref er])), (shs, .inl (xY G, 4, .inr (.inr (.inr (.inr shs_f))))), (er, .inl (xI G, 7, .inl u7.2)), (sh, .inr (2, [.ref num, .int bits])), (num, .inr (1, [.ref num_q, .int num_m])), (num_q, .inl (xI G, 24, .inl num_f))] H := hP
            have hD : va_D A [(t, .inr (7, [.ref st, .ref kp, .int hasI, .int imgs, .ref vs, .ref rd, .ref wk, .ref chr, .ref shs, .ref er])), (shs, .inl (xY G, 4, .inr (.inr (.inr (.inr shs_f))))), (er, .inl (xI G, 7, .inl u7.2)), (sh, .inr (2, [.ref num, .int bits])), (num, .inr (1, [.ref num_q, .int num_m])), (num_q, .inl (xI G, 24, .inl num_f))] := hD
            obtain rfl := Option.some.inj hF
            rw [← hQ]
            exact W.iret (v := u7.1) hx hb hr (fun t ht hW => ⟨⟨_, (), rfl, ⟨rfl, rfl⟩, xLf hP ht⟩, hS.F ht⟩) hS.2.2 dX7_move_105
      · have hF := itN c62 hF
        refine lv_aload_n hx hb dX7_move_65 rfl (lv_at hl 2 rfl) ?_
        refine lv_iconst (v := 5) hx hb dX7_move_66 (by decide) ?_
        obtain ⟨u5, e5, hF⟩ := bdS hF
        refine xEndI (xRunV (As := [.int (5 : Int32)]) (rest := []) hZ (c_X7_error G t st kp vs rd wk chr shs er hasI imgs er_f (5 : Int32) u5 e5 l H.size) m167 m168 m169 m2 m170 1 ⟨rfl, hdX7_error⟩ ⟨Nat.le_of_ble_eq_true rfl, Nat.le_of_ble_eq_true rfl⟩ ⟨rfl, rfl⟩ hP hD hS 0 7 rfl rfl rfl [0, 2] rfl rfl rfl hl.1 rfl (Nat.le_of_ble_eq_true rfl) dX7_move_67 ⟨Nat.zero_le _, Nat.zero_le _⟩) hP hD hS hA [0, 2] rfl rfl rfl (fun H locs n5 hP hD hS => ?_)
        have hP : va_P G.1 vwCl [(t, .inr (7, [.ref st, .ref kp, .int hasI, .int imgs, .ref vs, .ref rd, .ref wk, .ref chr, .ref shs, .ref er])), (shs, .inl (xY G, 4, .inr (.inr (.inr (.inr shs_f))))), (er, .inl (xI G, 7, .inl u5.2)), (sh, .inr (2, [.ref num, .int bits])), (num, .inr (1, [.ref num_q, .int num_m])), (num_q, .inl (xI G, 24, .inl num_f))] H := hP
        have hD : va_D A [(t, .inr (7, [.ref st, .ref kp, .int hasI, .int imgs, .ref vs, .ref rd, .ref wk, .ref chr, .ref shs, .ref er])), (shs, .inl (xY G, 4, .inr (.inr (.inr (.inr shs_f))))), (er, .inl (xI G, 7, .inl u5.2)), (sh, .inr (2, [.ref num, .int bits])), (num, .inr (1, [.ref num_q, .int num_m])), (num_q, .inl (xI G, 24, .inl num_f))] := hD
        obtain rfl := Option.some.inj hF
        rw [← hQ]
        exact W.iret (v := u5.1) hx hb hr (fun t ht hW => ⟨⟨_, (), rfl, ⟨rfl, rfl⟩, xLf hP ht⟩, hS.F ht⟩) hS.2.2 dX7_move_70
    · have hF := itN c43 hF
      refine lv_aload_n hx hb dX7_move_46 rfl (lv_at hl 2 rfl) ?_
      refine lv_iconst (v := 2) hx hb dX7_move_47 (by decide) ?_
      obtain ⟨u5, e5, hF⟩ := bdS hF
      refine xEndI (xRunV (As := [.int (2 : Int32)]) (rest := []) hZ (c_X7_error G t st kp vs rd wk chr shs er hasI imgs er_f (2 : Int32) u5 e5 l H.size) m167 m168 m169 m2 m170 1 ⟨rfl, hdX7_error⟩ ⟨Nat.le_of_ble_eq_true rfl, Nat.le_of_ble_eq_true rfl⟩ ⟨rfl, rfl⟩ hP hD hS 0 7 rfl rfl rfl [0, 2] rfl rfl rfl hl.1 rfl (Nat.le_of_ble_eq_true rfl) dX7_move_48 ⟨Nat.zero_le _, Nat.zero_le _⟩) hP hD hS hA [0, 2] rfl rfl rfl (fun H locs n5 hP hD hS => ?_)
      have hP : va_P G.1 vwCl [(t, .inr (7, [.ref st, .ref kp, .int hasI, .int imgs, .ref vs, .ref rd, .ref wk, .ref chr, .ref shs, .ref er])), (shs, .inl (xY G, 4, .inr (.inr (.inr (.inr shs_f))))), (er, .inl (xI G, 7, .inl u5.2)), (sh, .inr (2, [.ref num, .int bits])), (num, .inr (1, [.ref num_q, .int num_m])), (num_q, .inl (xI G, 24, .inl num_f))] H := hP
      have hD : va_D A [(t, .inr (7, [.ref st, .ref kp, .int hasI, .int imgs, .ref vs, .ref rd, .ref wk, .ref chr, .ref shs, .ref er])), (shs, .inl (xY G, 4, .inr (.inr (.inr (.inr shs_f))))), (er, .inl (xI G, 7, .inl u5.2)), (sh, .inr (2, [.ref num, .int bits])), (num, .inr (1, [.ref num_q, .int num_m])), (num_q, .inl (xI G, 24, .inl num_f))] := hD
      obtain rfl := Option.some.inj hF
      rw [← hQ]
      exact W.iret (v := u5.1) hx hb hr (fun t ht hW => ⟨⟨_, (), rfl, ⟨rfl, rfl⟩, xLf hP ht⟩, hS.F ht⟩) hS.2.2 dX7_move_51
def F_X7_move_out1 (er_f : Nat → Int32) (si : Int32) (sj : Int32) : Option (Int32 × (Nat → Int32)) := bd (F_X7_sheetOf_in si) (fun (u1 : Unit) => bd (F_X7_sheetOf_out sj) (fun (u2 : Unit) => bd (F_X7_error er_f (1 : Int32)) (fun (u3 : (Int32 × (Nat → Int32))) => some (u3.1, u3.2))))
set_option maxHeartbeats 4000000 in
set_option maxRecDepth 100000 in
theorem c_X7_move_out1 (G : xG) (t : Nat) (st : Nat) (kp : Nat) (vs : Nat) (rd : Nat) (wk : Nat) (chr : Nat) (shs : Nat) (er : Nat) (sh : Nat) (hasI : Int32) (imgs : Int32) (shs_f : Nat → Option Nat) (er_f : Nat → Int32) (si : Int32) (i : Int32) (sj : Int32) (j : Int32) (k : Int32) (hsel : shs_f si.toNatClampNeg = some sh) (u : (Int32 × (Nat → Int32))) (hF : F_X7_move_out1 er_f si sj = some u) : Ki G .int yX7_move (Cond.code yX7_move cX7_move 8 (some .int) :: TBL) { frames := 2, cells := 0, slots := 0, locals := 43 } [.ref t, .int si, .int i, .int sj, .int j, .int k] [(t, .inr (7, [.ref st, .ref kp, .int hasI, .int imgs, .ref vs, .ref rd, .ref wk, .ref chr, .ref shs, .ref er])), (shs, .inl (xY G, 4, .inr (.inr (.inr (.inr shs_f))))), (er, .inl (xI G, 7, .inl er_f))] [(t, .inr (7, [.ref st, .ref kp, .int hasI, .int imgs, .ref vs, .ref rd, .ref wk, .ref chr, .ref shs, .ref er])), (shs, .inl (xY G, 4, .inr (.inr (.inr (.inr shs_f))))), (er, .inl (xI G, 7, .inl u.2))] u.1 := by
  intro l sz
  refine Met.ofW (cc := cX7_move) (maxL := 8) (ret := (some .int)) (by decide) rfl ?_
  intro p e s m args below meth c s₁ B hml hv
  obtain ⟨rfl, hsz, hP, hD0, hm⟩ := hv
  have hx := B.exec
  have hb := B.bytes
  have hr := B.returns
  have hts := atoms_spec (ws := Cond.code yX7_move cX7_move 8 (some .int) :: TBL) B.pre
  have hown : s.vm.findClass RX7 = some m.cls := findClass_of_methodNamed B.named
  have hlocks := B.notSynchronized
  subst hsz
  have hD := hD0.self (sz := s.heap.size)
  generalize hAe : va_A [(t, .inr (7, [.ref st, .ref kp, .int hasI, .int imgs, .ref vs, .ref rd, .ref wk, .ref chr, .ref shs, .ref er])), (shs, .inl (xY G, 4, .inr (.inr (.inr (.inr shs_f))))), (er, .inl (xI G, 7, .inl er_f))] s.heap.size = A at hD hm ⊢
  have hA : ∀ q : Nat, s.heap.size ≤ q → A q := fun q h => by rw [← hAe]; exact Or.inr h
  have hK := hm.1
  have hZ : xAnd p m c cX7_move 8 s _ (Cond.code yX7_move cX7_move 8 (some .int) :: TBL) RX7 G A := ⟨⟨hx, hb, hml, hown, hts⟩, tcons, hA, hm⟩
  have hP : va_P G.1 vwCl [(t, .inr (7, [.ref st, .ref kp, .int hasI, .int imgs, .ref vs, .ref rd, .ref wk, .ref chr, .ref shs, .ref er])), (shs, .inl (xY G, 4, .inr (.inr (.inr (.inr shs_f))))), (er, .inl (xI G, 7, .inl er_f))] s.heap := hP
  have hl := lv_entry ([.ref t, .int si, .int i, .int sj, .int j, .int k]) (n := 8) (Nat.le_of_ble_eq_true rfl)
  rw [lg_entry_eq]
  generalize (lg_sl ([.ref t, .int si, .int i, .int sj, .int j, .int k]) ++ List.replicate (8 - (lg_sl ([.ref t, .int si, .int i, .int sj, .int j, .int k])).length) Slot.unset).toArray = ls at hl ⊢
  have hl : lv_has ls 8 [(0, .ref t), (1, .int si), (2, .int i), (3, .int sj), (4, .int j), (5, .int k)] := hl
  generalize hQ : MQ below _ _ s _ _ _ = Q
  refine xGo (A := A) hP (fun H locs hP hS => ?_)
  unfold F_X7_move_out1 at hF
  refine lv_aload_n hx hb dX7_move_0 rfl (lv_at hl 0 rfl) ?_
  refine lv_iload_n hx hb dX7_move_1 rfl (lv_at hl 1 rfl) ?_
  obtain ⟨u1, e1, hF⟩ := bdS hF
  refine xEndQ (xRunV (As := [.int si]) (rest := []) hZ (c_X7_sheetOf_in G t st kp vs rd wk chr shs er sh hasI imgs shs_f si hsel u1 e1 l H.size) m874 m875 m876 m2 m877 1 ⟨rfl, hdX7_sheetOf⟩ ⟨Nat.le_of_ble_eq_true rfl, Nat.le_of_ble_eq_true rfl⟩ ⟨rfl, rfl⟩ hP hD hS 0 7 rfl rfl rfl [0, 1] rfl rfl rfl hl.1 rfl (Nat.le_of_ble_eq_true rfl) dX7_move_2 ⟨Nat.zero_le _, Nat.zero_le _⟩) hP hD hS hA [0, 1] rfl rfl rfl (fun H locs hP hD hS => ?_)
  have hP : va_P G.1 vwCl [(t, .inr (7, [.ref st, .ref kp, .int hasI, .int imgs, .ref vs, .ref rd, .ref wk, .ref chr, .ref shs, .ref er])), (shs, .inl (xY G, 4, .inr (.inr (.inr (.inr shs_f))))), (er, .inl (xI G, 7, .inl er_f))] H := hP
  have hD : va_D A [(t, .inr (7, [.ref st, .ref kp, .int hasI, .int imgs, .ref vs, .ref rd, .ref wk, .ref chr, .ref shs, .ref er])), (shs, .inl (xY G, 4, .inr (.inr (.inr (.inr shs_f))))), (er, .inl (xI G, 7, .inl er_f))] := hD
  refine lv_astore (lv' := [(6, .ref sh), (0, .ref t), (1, .int si), (2, .int i), (3, .int sj), (4, .int j), (5, .int k)]) hx hb dX7_move_5 hl (by decide) rfl (fun ls hl => ?_)
  refine lv_aload_n hx hb dX7_move_7 rfl (lv_at hl 1 rfl) ?_
  refine lv_iload_n hx hb dX7_move_8 rfl (lv_at hl 4 rfl) ?_
  obtain ⟨u2, e2, hF⟩ := bdS hF
  refine xEndQ (xRunV (As := [.int sj]) (rest := []) hZ (c_X7_sheetOf_out G t st kp vs rd wk chr shs er hasI imgs shs_f sj u2 e2 l H.size) m874 m875 m876 m2 m877 1 ⟨rfl, hdX7_sheetOf⟩ ⟨Nat.le_of_ble_eq_true rfl, Nat.le_of_ble_eq_true rfl⟩ ⟨rfl, rfl⟩ hP hD hS 0 7 rfl rfl rfl [0, 1] rfl rfl rfl hl.1 rfl (Nat.le_of_ble_eq_true rfl) dX7_move_9 ⟨Nat.zero_le _, Nat.zero_le _⟩) hP hD hS hA [0, 1] rfl rfl rfl (fun H locs hP hD hS => ?_)
  have hP : va_P G.1 vwCl [(t, .inr (7, [.ref st, .ref kp, .int hasI, .int imgs, .ref vs, .ref rd, .ref wk, .ref chr, .ref shs, .ref er])), (shs, .inl (xY G, 4, .inr (.inr (.inr (.inr shs_f))))), (er, .inl (xI G, 7, .inl er_f))] H := hP
  have hD : va_D A [(t, .inr (7, [.ref st, .ref kp, .int hasI, .int imgs, .ref vs, .ref rd, .ref wk, .ref chr, .ref shs, .ref er])), (shs, .inl (xY G, 4, .inr (.inr (.inr (.inr shs_f))))), (er, .inl (xI G, 7, .inl er_f))] := hD
  refine lv_astoreN (lv' := [(7, .null), (6, .ref sh), (0, .ref t), (1, .int si), (2, .int i), (3, .int sj), (4, .int j), (5, .int k)]) hx hb dX7_move_12 hl (by decide) rfl (fun ls hl => ?_)
  refine lv_aload hx hb dX7_move_14 (lv_at hl 1 rfl) ?_
  refine lv_ifnull hx hb dX7_move_16 ?_
  refine lv_aloadN hx hb dX7_move_19 (lv_at hl 0 rfl) ?_
  refine lv_ifnonnullN hx hb dX7_move_21 ?_
  refine lv_aload_n hx hb dX7_move_24 rfl (lv_at hl 2 rfl) ?_
  refine lv_iconst (v := 1) hx hb dX7_move_25 (by decide) ?_
  obtain ⟨u3, e3, hF⟩ := bdS hF
  refine xEndI (xRunV (As := [.int (1 : Int32)]) (rest := []) hZ (c_X7_error G t st kp vs rd wk chr shs er hasI imgs er_f (1 : Int32) u3 e3 l H.size) m167 m168 m169 m2 m170 1 ⟨rfl, hdX7_error⟩ ⟨Nat.le_of_ble_eq_true rfl, Nat.le_of_ble_eq_true rfl⟩ ⟨rfl, rfl⟩ hP hD hS 0 7 rfl rfl rfl [0, 2] rfl rfl rfl hl.1 rfl (Nat.le_of_ble_eq_true rfl) dX7_move_26 ⟨Nat.zero_le _, Nat.zero_le _⟩) hP hD hS hA [0, 2] rfl rfl rfl (fun H locs n3 hP hD hS => ?_)
  have hP : va_P G.1 vwCl [(t, .inr (7, [.ref st, .ref kp, .int hasI, .int imgs, .ref vs, .ref rd, .ref wk, .ref chr, .ref shs, .ref er])), (shs, .inl (xY G, 4, .inr (.inr (.inr (.inr shs_f))))), (er, .inl (xI G, 7, .inl u3.2))] H := hP
  have hD : va_D A [(t, .inr (7, [.ref st, .ref kp, .int hasI, .int imgs, .ref vs, .ref rd, .ref wk, .ref chr, .ref shs, .ref er])), (shs, .inl (xY G, 4, .inr (.inr (.inr (.inr shs_f))))), (er, .inl (xI G, 7, .inl u3.2))] := hD
  obtain rfl := Option.some.inj hF
  rw [← hQ]
  exact W.iret (v := u3.1) hx hb hr (fun t ht hW => ⟨⟨_, (), rfl, ⟨rfl, rfl⟩, xLf hP ht⟩, hS.F ht⟩) hS.2.2 dX7_move_29
def F_X7_move_out2 (er_f : Nat → Int32) (si : Int32) (sj : Int32) : Option (Int32 × (Nat → Int32)) := bd (F_X7_sheetOf_out si) (fun (u1 : Unit) => bd (F_X7_sheetOf_in sj) (fun (u2 : Unit) => bd (F_X7_error er_f (1 : Int32)) (fun (u3 : (Int32 × (Nat → Int32))) => some (u3.1, u3.2))))
set_option maxHeartbeats 4000000 in
set_option maxRecDepth 100000 in
theorem c_X7_move_out2 (G : xG) (t : Nat) (st : Nat) (kp : Nat) (vs : Nat) (rd : Nat) (wk : Nat) (chr : Nat) (shs : Nat) (er : Nat) (sh2 : Nat) (hasI : Int32) (imgs : Int32) (shs_f : Nat → Option Nat) (er_f : Nat → Int32) (si : Int32) (i : Int32) (sj : Int32) (j : Int32) (k : Int32) (hsel2 : shs_f sj.toNatClampNeg = some sh2) (u : (Int32 × (Nat → Int32))) (hF : F_X7_move_out2 er_f si sj = some u) : Ki G .int yX7_move (Cond.code yX7_move cX7_move 8 (some .int) :: TBL) { frames := 2, cells := 0, slots := 0, locals := 43 } [.ref t, .int si, .int i, .int sj, .int j, .int k] [(t, .inr (7, [.ref st, .ref kp, .int hasI, .int imgs, .ref vs, .ref rd, .ref wk, .ref chr, .ref shs, .ref er])), (shs, .inl (xY G, 4, .inr (.inr (.inr (.inr shs_f))))), (er, .inl (xI G, 7, .inl er_f))] [(t, .inr (7, [.ref st, .ref kp, .int hasI, .int imgs, .ref vs, .ref rd, .ref wk, .ref chr, .ref shs, .ref er])), (shs, .inl (xY G, 4, .inr (.inr (.inr (.inr shs_f))))), (er, .inl (xI G, 7, .inl u.2))] u.1 := by
  intro l sz
  refine Met.ofW (cc := cX7_move) (maxL := 8) (ret := (some .int)) (by decide) rfl ?_
  intro p e s m args below meth c s₁ B hml hv
  obtain ⟨rfl, hsz, hP, hD0, hm⟩ := hv
  have hx := B.exec
  have hb := B.bytes
  have hr := B.returns
  have hts := atoms_spec (ws := Cond.code yX7_move cX7_move 8 (some .int) :: TBL) B.pre
  have hown : s.vm.findClass RX7 = some m.cls := findClass_of_methodNamed B.named
  have hlocks := B.notSynchronized
  subst hsz
  have hD := hD0.self (sz := s.heap.size)
  generalize hAe : va_A [(t, .inr (7, [.ref st, .ref kp, .int hasI, .int imgs, .ref vs, .ref rd, .ref wk, .ref chr, .ref shs, .ref er])), (shs, .inl (xY G, 4, .inr (.inr (.inr (.inr shs_f))))), (er, .inl (xI G, 7, .inl er_f))] s.heap.size = A at hD hm ⊢
  have hA : ∀ q : Nat, s.heap.size ≤ q → A q := fun q h => by rw [← hAe]; exact Or.inr h
  have hK := hm.1
  have hZ : xAnd p m c cX7_move 8 s _ (Cond.code yX7_move cX7_move 8 (some .int) :: TBL) RX7 G A := ⟨⟨hx, hb, hml, hown, hts⟩, tcons, hA, hm⟩
  have hP : va_P G.1 vwCl [(t, .inr (7, [.ref st, .ref kp, .int hasI, .int imgs, .ref vs, .ref rd, .ref wk, .ref chr, .ref shs, .ref er])), (shs, .inl (xY G, 4, .inr (.inr (.inr (.inr shs_f))))), (er, .inl (xI G, 7, .inl er_f))] s.heap := hP
  have hl := lv_entry ([.ref t, .int si, .int i, .int sj, .int j, .int k]) (n := 8) (Nat.le_of_ble_eq_true rfl)
  rw [lg_entry_eq]
  generalize (lg_sl ([.ref t, .int si, .int i, .int sj, .int j, .int k]) ++ List.replicate (8 - (lg_sl ([.ref t, .int si, .int i, .int sj, .int j, .int k])).length) Slot.unset).toArray = ls at hl ⊢
  have hl : lv_has ls 8 [(0, .ref t), (1, .int si), (2, .int i), (3, .int sj), (4, .int j), (5, .int k)] := hl
  generalize hQ : MQ below _ _ s _ _ _ = Q
  refine xGo (A := A) hP (fun H locs hP hS => ?_)
  unfold F_X7_move_out2 at hF
  refine lv_aload_n hx hb dX7_move_0 rfl (lv_at hl 0 rfl) ?_
  refine lv_iload_n hx hb dX7_move_1 rfl (lv_at hl 1 rfl) ?_
  obtain ⟨u1, e1, hF⟩ := bdS hF
  refine xEndQ (xRunV (As := [.int si]) (rest := []) hZ (c_X7_sheetOf_out G t st kp vs rd wk chr shs er hasI imgs shs_f si u1 e1 l H.size) m874 m875 m876 m2 m877 1 ⟨rfl, hdX7_sheetOf⟩ ⟨Nat.le_of_ble_eq_true rfl, Nat.le_of_ble_eq_true rfl⟩ ⟨rfl, rfl⟩ hP hD hS 0 7 rfl rfl rfl [0, 1] rfl rfl rfl hl.1 rfl (Nat.le_of_ble_eq_true rfl) dX7_move_2 ⟨Nat.zero_le _, Nat.zero_le _⟩) hP hD hS hA [0, 1] rfl rfl rfl (fun H locs hP hD hS => ?_)
  have hP : va_P G.1 vwCl [(t, .inr (7, [.ref st, .ref kp, .int hasI, .int imgs, .ref vs, .ref rd, .ref wk, .ref chr, .ref shs, .ref er])), (shs, .inl (xY G, 4, .inr (.inr (.inr (.inr shs_f))))), (er, .inl (xI G, 7, .inl er_f))] H := hP
  have hD : va_D A [(t, .inr (7, [.ref st, .ref kp, .int hasI, .int imgs, .ref vs, .ref rd, .ref wk, .ref chr, .ref shs, .ref er])), (shs, .inl (xY G, 4, .inr (.inr (.inr (.inr shs_f))))), (er, .inl (xI G, 7, .inl er_f))] := hD
  refine lv_astoreN (lv' := [(6, .null), (0, .ref t), (1, .int si), (2, .int i), (3, .int sj), (4, .int j), (5, .int k)]) hx hb dX7_move_5 hl (by decide) rfl (fun ls hl => ?_)
  refine lv_aload_n hx hb dX7_move_7 rfl (lv_at hl 1 rfl) ?_
  refine lv_iload_n hx hb dX7_move_8 rfl (lv_at hl 4 rfl) ?_
  obtain ⟨u2, e2, hF⟩ := bdS hF
  refine xEndQ (xRunV (As := [.int sj]) (rest := []) hZ (c_X7_sheetOf_in G t st kp vs rd wk chr shs er sh2 hasI imgs shs_f sj hsel2 u2 e2 l H.size) m874 m875 m876 m2 m877 1 ⟨rfl, hdX7_sheetOf⟩ ⟨Nat.le_of_ble_eq_true rfl, Nat.le_of_ble_eq_true rfl⟩ ⟨rfl, rfl⟩ hP hD hS 0 7 rfl rfl rfl [0, 1] rfl rfl rfl hl.1 rfl (Nat.le_of_ble_eq_true rfl) dX7_move_9 ⟨Nat.zero_le _, Nat.zero_le _⟩) hP hD hS hA [0, 1] rfl rfl rfl (fun H locs hP hD hS => ?_)
  have hP : va_P G.1 vwCl [(t, .inr (7, [.ref st, .ref kp, .int hasI, .int imgs, .ref vs, .ref rd, .ref wk, .ref chr, .ref shs, .ref er])), (shs, .inl (xY G, 4, .inr (.inr (.inr (.inr shs_f))))), (er, .inl (xI G, 7, .inl er_f))] H := hP
  have hD : va_D A [(t, .inr (7, [.ref st, .ref kp, .int hasI, .int imgs, .ref vs, .ref rd, .ref wk, .ref chr, .ref shs, .ref er])), (shs, .inl (xY G, 4, .inr (.inr (.inr (.inr shs_f))))), (er, .inl (xI G, 7, .inl er_f))] := hD
  refine lv_astore (lv' := [(7, .ref sh2), (6, .null), (0, .ref t), (1, .int si), (2, .int i), (3, .int sj), (4, .int j), (5, .int k)]) hx hb dX7_move_12 hl (by decide) rfl (fun ls hl => ?_)
  refine lv_aloadN hx hb dX7_move_14 (lv_at hl 1 rfl) ?_
  refine lv_ifnullN (tgt := 24) hx hb dX7_move_16 (by decide) ?_
  refine lv_aload_n hx hb dX7_move_24 rfl (lv_at hl 2 rfl) ?_
  refine lv_iconst (v := 1) hx hb dX7_move_25 (by decide) ?_
  obtain ⟨u3, e3, hF⟩ := bdS hF
  refine xEndI (xRunV (As := [.int (1 : Int32)]) (rest := []) hZ (c_X7_error G t st kp vs rd wk chr shs er hasI imgs er_f (1 : Int32) u3 e3 l H.size) m167 m168 m169 m2 m170 1 ⟨rfl, hdX7_error⟩ ⟨Nat.le_of_ble_eq_true rfl, Nat.le_of_ble_eq_true rfl⟩ ⟨rfl, rfl⟩ hP hD hS 0 7 rfl rfl rfl [0, 2] rfl rfl rfl hl.1 rfl (Nat.le_of_ble_eq_true rfl) dX7_move_26 ⟨Nat.zero_le _, Nat.zero_le _⟩) hP hD hS hA [0, 2] rfl rfl rfl (fun H locs n3 hP hD hS => ?_)
  have hP : va_P G.1 vwCl [(t, .inr (7, [.ref st, .ref kp, .int hasI, .int imgs, .ref vs, .ref rd, .ref wk, .ref chr, .ref shs, .ref er])), (shs, .inl (xY G, 4, .inr (.inr (.inr (.inr shs_f))))), (er, .inl (xI G, 7, .inl u3.2))] H := hP
  have hD : va_D A [(t, .inr (7, [.ref st, .ref kp, .int hasI, .int imgs, .ref vs, .ref rd, .ref wk, .ref chr, .ref shs, .ref er])), (shs, .inl (xY G, 4, .inr (.inr (.inr (.inr shs_f))))), (er, .inl (xI G, 7, .inl u3.2))] := hD
  obtain rfl := Option.some.inj hF
  rw [← hQ]
  exact W.iret (v := u3.1) hx hb hr (fun t ht hW => ⟨⟨_, (), rfl, ⟨rfl, rfl⟩, xLf hP ht⟩, hS.F ht⟩) hS.2.2 dX7_move_29
