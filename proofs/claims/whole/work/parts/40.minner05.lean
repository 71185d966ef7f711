def F_X8_plainCoughs (trcd : Int32) (trc_f : Nat → Int32) (br : Int32) (xx : Int32) : Option (Int32 × Int32 × (Nat → Int32)) := bd (F_X8_begins trcd trc_f (10 : Int32)) (fun (u1 : (Int32 × (Nat → Int32))) => some ((xx + br), u1.1, u1.2))
theorem hdX8_plainCoughs : yX8_plainCoughs.cls ≠ "java/lang/invoke/MethodHandle" ∧ yX8_plainCoughs.cls ≠ "java/lang/invoke/VarHandle" ∧ (parseMethodDescriptor yX8_plainCoughs.desc).map (fun d => d.parameters.length) = some 2 := by decide +kernel
set_option maxHeartbeats 4000000 in
set_option maxRecDepth 100000 in
theorem c_X8_plainCoughs (G : xG) (t : Nat) (row : Nat) (kpt : Nat) (errs : Nat) (bitsOf : Nat) (sizeOf : Nat) (cels : Nat) (broken : Nat) (isFit : Nat) (breaks : Nat) (act : Nat) (wth : Nat) (facts : Nat) (pile : Nat) (trc : Nat) (images : Int32) (mfit : Int32) (known : Int32) (laid : Int32) (hre : Int32) (opnd : Int32) (bad : Int32) (usg : Int32) (trcd : Int32) (isP : Int32) (trc_f : Nat → Int32) (br : Int32) (xx : Int32)  (u : (Int32 × Int32 × (Nat → Int32))) (hF : F_X8_plainCoughs trcd trc_f br xx = some u) : Ki G .int yX8_plainCoughs (Cond.code yX8_plainCoughs cX8_plainCoughs 3 (some .int) :: TBL) { frames := 1, cells := 0, slots := 0, locals := 21 } [.ref t, .int br, .int xx] [(t, .inr (8, [.ref row, .ref kpt, .int images, .ref errs, .ref bitsOf, .ref sizeOf, .ref cels, .ref broken, .ref isFit, .ref breaks, .int mfit, .int known, .ref act, .ref wth, .ref facts, .ref pile, .int laid, .int hre, .int opnd, .int bad, .int usg, .ref trc, .int trcd, .int isP])), (trc, .inl (xI G, 30, .inl trc_f))] [(t, .inr (8, [.ref row, .ref kpt, .int images, .ref errs, .ref bitsOf, .ref sizeOf, .ref cels, .ref broken, .ref isFit, .ref breaks, .int mfit, .int known, .ref act, .ref wth, .ref facts, .ref pile, .int laid, .int hre, .int opnd, .int bad, .int usg, .ref trc, .int u.2.1, .int isP])), (trc, .inl (xI G, 30, .inl u.2.2))] u.1 := by
  intro l sz
  refine Met.ofW (cc := cX8_plainCoughs) (maxL := 3) (ret := (some .int)) (by decide) rfl ?_
  intro p e s m args below meth c s₁ B hml hv
  obtain ⟨rfl, hsz, hP, hD0, hm⟩ := hv
  have hx := B.exec
  have hb := B.bytes
  have hr := B.returns
  have hts := atoms_spec (ws := Cond.code yX8_plainCoughs cX8_plainCoughs 3 (some .int) :: TBL) B.pre
  have hown : s.vm.findClass RX8 = some m.cls := findClass_of_methodNamed B.named
  have hlocks := B.notSynchronized
  subst hsz
  have hD := hD0.self (sz := s.heap.size)
  generalize hAe : va_A [(t, .inr (8, [.ref row, .ref kpt, .int images, .ref errs, .ref bitsOf, .ref sizeOf, .ref cels, .ref broken, .ref isFit, .ref breaks, .int mfit, .int known, .ref act, .ref wth, .ref facts, .ref pile, .int laid, .int hre, .int opnd, .int bad, .int usg, .ref trc, .int trcd, .int isP])), (trc, .inl (xI G, 30, .inl trc_f))] s.heap.size = A at hD hm ⊢
  have hA : ∀ q : Nat, s.heap.size ≤ q → A q := fun q h => by rw [← hAe]; exact Or.inr h
  have hK := hm.1
  have hZ : xAnd p m c cX8_plainCoughs 3 s _ (Cond.code yX8_plainCoughs cX8_plainCoughs 3 (some .int) :: TBL) RX8 G A := ⟨⟨hx, hb, hml, hown, hts⟩, tcons, hA, hm⟩
  have hP : va_P G.1 vwCl [(t, .inr (8, [.ref row, .ref kpt, .int images, .ref errs, .ref bitsOf, .ref sizeOf, .ref cels, .ref broken, .ref isFit, .ref breaks, .int mfit, .int known, .ref act, .ref wth, .ref facts, .ref pile, .int laid, .int hre, .int opnd, .int bad, .int usg, .ref trc, .int trcd, .int isP])), (trc, .inl (xI G, 30, .inl trc_f))] s.heap := hP
  have hl := lv_entry ([.ref t, .int br, .int xx]) (n := 3) (Nat.le_of_ble_eq_true rfl)
  rw [lg_entry_eq]
  generalize (lg_sl ([.ref t, .int br, .int xx]) ++ List.replicate (3 - (lg_sl ([.ref t, .int br, .int xx])).length) Slot.unset).toArray = ls at hl ⊢
  have hl : lv_has ls 3 [(0, .ref t), (1, .int br), (2, .int xx)] := hl
  generalize hQ : MQ below _ _ s _ _ _ = Q
  refine xGo (A := A) hP (fun H locs hP hS => ?_)
  unfold F_X8_plainCoughs at hF
  refine lv_aload_n hx hb dX8_plainCoughs_0 rfl (lv_at hl 0 rfl) ?_
  refine lv_bipush (v := 10) hx hb dX8_plainCoughs_1 (by decide) ?_
  obtain ⟨u1, e1, hF⟩ := bdS hF
  refine xEndV (xRunV (As := [.int (10 : Int32)]) (rest := []) hZ (c_X8_begins G t row kpt errs bitsOf sizeOf cels broken isFit breaks act wth facts pile trc images mfit known laid hre opnd bad usg trcd isP trc_f (10 : Int32) u1 e1 l H.size) m947 m948 m949 m5 m950 1 ⟨rfl, hdX8_begins⟩ ⟨Nat.le_of_ble_eq_true rfl, Nat.le_of_ble_eq_true rfl⟩ ⟨rfl, rfl⟩ hP hD hS 0 8 rfl rfl rfl [0, 1] rfl rfl rfl hl.1 rfl (Nat.le_of_ble_eq_true rfl) dX8_plainCoughs_3 ⟨Nat.zero_le _, Nat.zero_le _⟩) hP hD hS hA [0, 1] rfl rfl rfl (fun H locs hP hD hS => ?_)
  have hP : va_P G.1 vwCl [(t, .inr (8, [.ref row, .ref kpt, .int images, .ref errs, .ref bitsOf, .ref sizeOf, .ref cels, .ref broken, .ref isFit, .ref breaks, .int mfit, .int known, .ref act, .ref wth, .ref facts, .ref pile, .int laid, .int hre, .int opnd, .int bad, .int usg, .ref trc, .int u1.1, .int isP])), (trc, .inl (xI G, 30, .inl u1.2))] H := hP
  have hD : va_D A [(t, .inr (8, [.ref row, .ref kpt, .int images, .ref errs, .ref bitsOf, .ref sizeOf, .ref cels, .ref broken, .ref isFit, .ref breaks, .int mfit, .int known, .ref act, .ref wth, .ref facts, .ref pile, .int laid, .int hre, .int opnd, .int bad, .int usg, .ref trc, .int u1.1, .int isP])), (trc, .inl (xI G, 30, .inl u1.2))] := hD
  refine lv_iload_n hx hb dX8_plainCoughs_6 rfl (lv_at hl 2 rfl) ?_
  refine lv_iload_n hx hb dX8_plainCoughs_7 rfl (lv_at hl 1 rfl) ?_
  refine lv_iadd hx hb dX8_plainCoughs_8 ?_
  obtain rfl := Option.some.inj hF
  rw [← hQ]
  exact W.iret (v := (xx + br)) hx hb hr (fun t ht hW => ⟨⟨_, (), rfl, ⟨rfl, rfl⟩, xLf hP ht⟩, hS.F ht⟩) hS.2.2 dX8_plainCoughs_9
def F_X8_carefulCoughs (trcd : Int32) (trc_f : Nat → Int32) (br : Int32) (xx : Int32) : Option (Int32 × Int32 × (Nat → Int32)) := bd (F_X8_begins trcd trc_f (20 : Int32)) (fun (u1 : (Int32 × (Nat → Int32))) => bd (F_X8_plainCoughs u1.1 u1.2 br xx) (fun (u2 : (Int32 × Int32 × (Nat → Int32))) => some ((u2.1 - (4 : Int32)), u2.2.1, u2.2.2)))
theorem hdX8_carefulCoughs : yX8_carefulCoughs.cls ≠ "java/lang/invoke/MethodHandle" ∧ yX8_carefulCoughs.cls ≠ "java/lang/invoke/VarHandle" ∧ (parseMethodDescriptor yX8_carefulCoughs.desc).map (fun d => d.parameters.length) = some 2 := by decide +kernel
set_option maxHeartbeats 4000000 in
set_option maxRecDepth 100000 in
theorem c_X8_carefulCoughs (G : xG) (t : Nat) (row : Nat) (kpt : Nat) (errs : Nat) (bitsOf : Nat) (sizeOf : Nat) (cels : Nat) (broken : Nat) (isFit : Nat) (breaks : Nat) (act : Nat) (wth : Nat) (facts : Nat) (pile : Nat) (trc : Nat) (images : Int32) (mfit : Int32) (known : Int32) (laid : Int32) (hre : Int32) (opnd : Int32) (bad : Int32) (usg : Int32) (trcd : Int32) (isP : Int32) (trc_f : Nat → Int32) (br : Int32) (xx : Int32)  (u : (Int32 × Int32 × (Nat → Int32))) (hF : F_X8_carefulCoughs trcd trc_f br xx = some u) : Ki G .int yX8_carefulCoughs (Cond.code yX8_carefulCoughs cX8_carefulCoughs 3 (some .int) :: TBL) { frames := 2, cells := 0, slots := 0, locals := 43 } [.ref t, .int br, .int xx] [(t, .inr (8, [.ref row, .ref kpt, .int images, .ref errs, .ref bitsOf, .ref sizeOf, .ref cels, .ref broken, .ref isFit, .ref breaks, .int mfit, .int known, .ref act, .ref wth, .ref facts, .ref pile, .int laid, .int hre, .int opnd, .int bad, .int usg, .ref trc, .int trcd, .int isP])), (trc, .inl (xI G, 30, .inl trc_f))] [(t, .inr (8, [.ref row, .ref kpt, .int images, .ref errs, .ref bitsOf, .ref sizeOf, .ref cels, .ref broken, .ref isFit, .ref breaks, .int mfit, .int known, .ref act, .ref wth, .ref facts, .ref pile, .int laid, .int hre, .int opnd, .int bad, .int usg, .ref trc, .int u.2.1, .int isP])), (trc, .inl (xI G, 30, .inl u.2.2))] u.1 := by
  intro l sz
  refine Met.ofW (cc := cX8_carefulCoughs) (maxL := 3) (ret := (some .int)) (by decide) rfl ?_
  intro p e s m args below meth c s₁ B hml hv
  obtain ⟨rfl, hsz, hP, hD0, hm⟩ := hv
  have hx := B.exec
  have hb := B.bytes
  have hr := B.returns
  have hts := atoms_spec (ws := Cond.code yX8_carefulCoughs cX8_carefulCoughs 3 (some .int) :: TBL) B.pre
  have hown : s.vm.findClass RX8 = some m.cls := findClass_of_methodNamed B.named
  have hlocks := B.notSynchronized
  subst hsz
  have hD := hD0.self (sz := s.heap.size)
  generalize hAe : va_A [(t, .inr (8, [.ref row, .ref kpt, .int images, .ref errs, .ref bitsOf, .ref sizeOf, .ref cels, .ref broken, .ref isFit, .ref breaks, .int mfit, .int known, .ref act, .ref wth, .ref facts, .ref pile, .int laid, .int hre, .int opnd, .int bad, .int usg, .ref trc, .int trcd, .int isP])), (trc, .inl (xI G, 30, .inl trc_f))] s.heap.size = A at hD hm ⊢
  have hA : ∀ q : Nat, s.heap.size ≤ q → A q := fun q h => by rw [← hAe]; exact Or.inr h
  have hK := hm.1
  have hZ : xAnd p m c cX8_carefulCoughs 3 s _ (Cond.code yX8_carefulCoughs cX8_carefulCoughs 3 (some .int) :: TBL) RX8 G A := ⟨⟨hx, hb, hml, hown, hts⟩, tcons, hA, hm⟩
  have hP : va_P G.1 vwCl [(t, .inr (8, [.ref row, .ref kpt, .int images, .ref errs, .ref bitsOf, .ref sizeOf, .ref cels, .ref broken, .ref isFit, .ref breaks, .int mfit, .int known, .ref act, .ref wth, .ref facts, .ref pile, .int laid, .int hre, .int opnd, .int bad, .int usg, .ref trc, .int trcd, .int isP])), (trc, .inl (xI G, 30, .inl trc_f))] s.heap := hP
  have hl := lv_entry ([.ref t, .int br, .int xx]) (n := 3) (Nat.le_of_ble_eq_true rfl)
  rw [lg_entry_eq]
  generalize (lg_sl ([.ref t, .int br, .int xx]) ++ List.replicate (3 - (lg_sl ([.ref t, .int br, .int xx])).length) Slot.unset).toArray = ls at hl ⊢
  have hl : lv_has ls 3 [(0, .ref t), (1, .int br), (2, .int xx)] := hl
  generalize hQ : MQ below _ _ s _ _ _ = Q
  refine xGo (A := A) hP (fun H locs hP hS => ?_)
  unfold F_X8_carefulCoughs at hF
  refine lv_aload_n hx hb dX8_carefulCoughs_0 rfl (lv_at hl 0 rfl) ?_
  refine lv_bipush (v := 20) hx hb dX8_carefulCoughs_1 (by decide) ?_
  obtain ⟨u1, e1, hF⟩ := bdS hF
  refine xEndV (xRunV (As := [.int (20 : Int32)]) (rest := []) hZ (c_X8_begins G t row kpt errs bitsOf sizeOf cels broken isFit breaks act wth facts pile trc images mfit known laid hre opnd bad usg trcd isP trc_f (20 : Int32) u1 e1 l H.size) m947 m948 m949 m5 m950 1 ⟨rfl, hdX8_begins⟩ ⟨Nat.le_of_ble_eq_true rfl, Nat.le_of_ble_eq_true rfl⟩ ⟨rfl, rfl⟩ hP hD hS 0 8 rfl rfl rfl [0, 1] rfl rfl rfl hl.1 rfl (Nat.le_of_ble_eq_true rfl) dX8_carefulCoughs_3 ⟨Nat.zero_le _, Nat.zero_le _⟩) hP hD hS hA [0, 1] rfl rfl rfl (fun H locs hP hD hS => ?_)
  have hP : va_P G.1 vwCl [(t, .inr (8, [.ref row, .ref kpt, .int images, .ref errs, .ref bitsOf, .ref sizeOf, .ref cels, .ref broken, .ref isFit, .ref breaks, .int mfit, .int known, .ref act, .ref wth, .ref facts, .ref pile, .int laid, .int hre, .int opnd, .int bad, .int usg, .ref trc, .int u1.1, .int isP])), (trc, .inl (xI G, 30, .inl u1.2))] H := hP
  have hD : va_D A [(t, .inr (8, [.ref row, .ref kpt, .int images, .ref errs, .ref bitsOf, .ref sizeOf, .ref cels, .ref broken, .ref isFit, .ref breaks, .int mfit, .int known, .ref act, .ref wth, .ref facts, .ref pile, .int laid, .int hre, .int opnd, .int bad, .int usg, .ref trc, .int u1.1, .int isP])), (trc, .inl (xI G, 30, .inl u1.2))] := hD
  refine lv_aload_n hx hb dX8_carefulCoughs_6 rfl (lv_at hl 0 rfl) ?_
  refine lv_iload_n hx hb dX8_carefulCoughs_7 rfl (lv_at hl 1 rfl) ?_
  refine lv_iload_n hx hb dX8_carefulCoughs_8 rfl (lv_at hl 2 rfl) ?_
  obtain ⟨u2, e2, hF⟩ := bdS hF
  refine xEndI (xRunV (As := [.int br, .int xx]) (rest := []) hZ (c_X8_plainCoughs G t row kpt errs bitsOf sizeOf cels broken isFit breaks act wth facts pile trc images mfit known laid hre opnd bad usg u1.1 isP u1.2 br xx u2 e2 l H.size) m951 m952 m953 m5 m954 2 ⟨rfl, hdX8_plainCoughs⟩ ⟨Nat.le_of_ble_eq_true rfl, Nat.le_of_ble_eq_true rfl⟩ ⟨rfl, rfl⟩ hP hD hS 0 8 rfl rfl rfl [0, 1] rfl rfl rfl hl.1 rfl (Nat.le_of_ble_eq_true rfl) dX8_carefulCoughs_9 ⟨Nat.zero_le _, Nat.zero_le _⟩) hP hD hS hA [0, 1] rfl rfl rfl (fun H locs n2 hP hD hS => ?_)
  have hP : va_P G.1 vwCl [(t, .inr (8, [.ref row, .ref kpt, .int images, .ref errs, .ref bitsOf, .ref sizeOf, .ref cels, .ref broken, .ref isFit, .ref breaks, .int mfit, .int known, .ref act, .ref wth, .ref facts, .ref pile, .int laid, .int hre, .int opnd, .int bad, .int usg, .ref trc, .int u2.2.1, .int isP])), (trc, .inl (xI G, 30, .inl u2.2.2))] H := hP
  have hD : va_D A [(t, .inr (8, [.ref row, .ref kpt, .int images, .ref errs, .ref bitsOf, .ref sizeOf, .ref cels, .ref broken, .ref isFit, .ref breaks, .int mfit, .int known, .ref act, .ref wth, .ref facts, .ref pile, .int laid, .int hre, .int opnd, .int bad, .int usg, .ref trc, .int u2.2.1, .int isP])), (trc, .inl (xI G, 30, .inl u2.2.2))] := hD
  refine lv_iconst (v := 4) hx hb dX8_carefulCoughs_12 (by decide) ?_
  refine lv_isub hx hb dX8_carefulCoughs_13 ?_
  obtain rfl := Option.some.inj hF
  rw [← hQ]
  exact W.iret (v := (u2.1 - (4 : Int32))) hx hb hr (fun t ht hW => ⟨⟨_, (), rfl, ⟨rfl, rfl⟩, xLf hP ht⟩, hS.F ht⟩) hS.2.2 dX8_carefulCoughs_14
def F_X8_coughs (trcd : Int32) (row_f : Nat → Int32) (trc_f : Nat → Int32) (br : Int32) (xx : Int32) : Option (Int32 × Int32 × (Nat → Int32)) := bd (F_X8_of row_f br (0 : Int32)) (fun (u1 : Int32) => if u1 = (1 : Int32) then (bd (F_X8_carefulCoughs trcd trc_f br xx) (fun (u2 : (Int32 × Int32 × (Nat → Int32))) => some (u2.1, u2.2.1, u2.2.2))) else (if u1 = (4 : Int32) then (bd (F_X8_begins trcd trc_f (50 : Int32)) (fun (u2 : (Int32 × (Nat → Int32))) => bd (F_X8_carefulCoughs u2.1 u2.2 br xx) (fun (u3 : (Int32 × Int32 × (Nat → Int32))) => some ((u3.1 * (3 : Int32)), u3.2.1, u3.2.2)))) else (if u1 = (6 : Int32) then (bd (F_X8_begins trcd trc_f (70 : Int32)) (fun (u2 : (Int32 × (Nat → Int32))) => some ((9 : Int32), u2.1, u2.2))) else (bd (F_X8_plainCoughs trcd trc_f br xx) (fun (u2 : (Int32 × Int32 × (Nat → Int32))) => some (u2.1, u2.2.1, u2.2.2))))))
theorem hdX8_coughs : yX8_coughs.cls ≠ "java/lang/invoke/MethodHandle" ∧ yX8_coughs.cls ≠ "java/lang/invoke/VarHandle" ∧ (parseMethodDescriptor yX8_coughs.desc).map (fun d => d.parameters.length) = some 2 := by decide +kernel
set_option maxHeartbeats 4000000 in
set_option maxRecDepth 100000 in
theorem c_X8_coughs (G : xG) (t : Nat) (row : Nat) (kpt : Nat) (errs : Nat) (bitsOf : Nat) (sizeOf : Nat) (cels : Nat) (broken : Nat) (isFit : Nat) (breaks : Nat) (act : Nat) (wth : Nat) (facts : Nat) (pile : Nat) (trc : Nat) (images : Int32) (mfit : Int32) (known : Int32) (laid : Int32) (hre : Int32) (opnd : Int32) (bad : Int32) (usg : Int32) (trcd : Int32) (isP : Int32) (row_f : Nat → Int32) (trc_f : Nat → Int32) (br : Int32) (xx : Int32)  (u : (Int32 × Int32 × (Nat → Int32))) (hF : F_X8_coughs trcd row_f trc_f br xx = some u) : Ki G .int yX8_coughs (Cond.code yX8_coughs cX8_coughs 3 (some .int) :: TBL) { frames := 3, cells := 0, slots := 0, locals := 65 } [.ref t, .int br, .int xx] [(t, .inr (8, [.ref row, .ref kpt, .int images, .ref errs, .ref bitsOf, .ref sizeOf, .ref cels, .ref broken, .ref isFit, .ref breaks, .int mfit, .int known, .ref act, .ref wth, .ref facts, .ref pile, .int laid, .int hre, .int opnd, .int bad, .int usg, .ref trc, .int trcd, .int isP])), (row, .inl (xI G, 400, .inl row_f)), (trc, .inl (xI G, 30, .inl trc_f))] [(t, .inr (8, [.ref row, .ref kpt, .int images, .ref errs, .ref bitsOf, .ref sizeOf, .ref cels, .ref broken, .ref isFit, .ref breaks, .int mfit, .int known, .ref act, .ref wth, .ref facts, .ref pile, .int laid, .int hre, .int opnd, .int bad, .int usg, .ref trc, .int u.2.1, .int isP])), (row, .inl (xI G, 400, .inl row_f)), (trc, .inl (xI G, 30, .inl u.2.2))] u.1 := by
  intro l sz
  refine Met.ofW (cc := cX8_coughs) (maxL := 3) (ret := (some .int)) (by decide) rfl ?_
  intro p e s m args below meth c s₁ B hml hv
  obtain ⟨rfl, hsz, hP, hD0, hm⟩ := hv
  have hx := B.exec
  have hb := B.bytes
  have hr := B.returns
  have hts := atoms_spec (ws := Cond.code yX8_coughs cX8_coughs 3 (some .int) :: TBL) B.pre
  have hown : s.vm.findClass RX8 = some m.cls := findClass_of_methodNamed B.named
  have hlocks := B.notSynchronized
  subst hsz
  have hD := hD0.self (sz := s.heap.size)
  generalize hAe : va_A [(t, .inr (8, [.ref row, .ref kpt, .int images, .ref errs, .ref bitsOf, .ref sizeOf, .ref cels, .ref broken, .ref isFit, .ref breaks, .int mfit, .int known, .ref act, .ref wth, .ref facts, .ref pile, .int laid, .int hre, .int opnd, .int bad, .int usg, .ref trc, .int trcd, .int isP])), (row, .inl (xI G, 400, .inl row_f)), (trc, .inl (xI G, 30, .inl trc_f))] s.heap.size = A at hD hm ⊢
  have hA : ∀ q : Nat, s.heap.size ≤ q → A q := fun q h => by rw [← hAe]; exact Or.inr h
  have hK := hm.1
  have hZ : xAnd p m c cX8_coughs 3 s _ (Cond.code yX8_coughs cX8_coughs 3 (some .int) :: TBL) RX8 G A := ⟨⟨hx, hb, hml, hown, hts⟩, tcons, hA, hm⟩
  have hP : va_P G.1 vwCl [(t, .inr (8, [.ref row, .ref kpt, .int images, .ref errs, .ref bitsOf, .ref sizeOf, .ref cels, .ref broken, .ref isFit, .ref breaks, .int mfit, .int known, .ref act, .ref wth, .ref facts, .ref pile, .int laid, .int hre, .int opnd, .int bad, .int usg, .ref trc, .int trcd, .int isP])), (row, .inl (xI G, 400, .inl row_f)), (trc, .inl (xI G, 30, .inl trc_f))] s.heap := hP
  have hl := lv_entry ([.ref t, .int br, .int xx]) (n := 3) (Nat.le_of_ble_eq_true rfl)
  rw [lg_entry_eq]
  generalize (lg_sl ([.ref t, .int br, .int xx]) ++ List.replicate (3 - (lg_sl ([.ref t, .int br, .int xx])).length) Slot.unset).toArray = ls at hl ⊢
  have hl : lv_has ls 3 [(0, .ref t), (1, .int br), (2, .int xx)] := hl
  generalize hQ : MQ below _ _ s _ _ _ = Q
  refine xGo (A := A) hP (fun H locs hP hS => ?_)
  unfold F_X8_coughs at hF
  refine lv_aload_n hx hb dX8_coughs_0 rfl (lv_at hl 0 rfl) ?_
  refine lv_iload_n hx hb dX8_coughs_1 rfl (lv_at hl 1 rfl) ?_
  refine lv_iconst (v := 0) hx hb dX8_coughs_2 (by decide) ?_
  obtain ⟨u1, e1, hF⟩ := bdS hF
  refine xEndI (xRunV (As := [.int br, .int (0 : Int32)]) (rest := []) hZ (c_X8_of G t row kpt errs bitsOf sizeOf cels broken isFit breaks act wth facts pile trc images mfit known laid hre opnd bad usg trcd isP row_f br (0 : Int32) u1 e1 l H.size) m291 m292 m293 m5 m294 2 ⟨rfl, hdX8_of⟩ ⟨Nat.le_of_ble_eq_true rfl, Nat.le_of_ble_eq_true rfl⟩ ⟨rfl, rfl⟩ hP hD hS 0 8 rfl rfl rfl [0, 1] rfl rfl rfl hl.1 rfl (Nat.le_of_ble_eq_true rfl) dX8_coughs_3 ⟨Nat.zero_le _, Nat.zero_le _⟩) hP hD hS hA [0, 1] rfl rfl rfl (fun H locs n1 hP hD hS => ?_)
  have hP : va_P G.1 vwCl [(t, .inr (8, [.ref row, .ref kpt, .int images, .ref errs, .ref bitsOf, .ref sizeOf, .ref cels, .ref broken, .ref isFit, .ref breaks, .int mfit, .int known, .ref act, .ref wth, .ref facts, .ref pile, .int laid, .int hre, .int opnd, .int bad, .int usg, .ref trc, .int trcd, .int isP])), (row, .inl (xI G, 400, .inl row_f)), (trc, .inl (xI G, 30, .inl trc_f))] H := hP
  have hD : va_D A [(t, .inr (8, [.ref row, .ref kpt, .int images, .ref errs, .ref bitsOf, .ref sizeOf, .ref cels, .ref broken, .ref isFit, .ref breaks, .int mfit, .int known, .ref act, .ref wth, .ref facts, .ref pile, .int laid, .int hre, .int opnd, .int bad, .int usg, .ref trc, .int trcd, .int isP])), (row, .inl (xI G, 400, .inl row_f)), (trc, .inl (xI G, 30, .inl trc_f))] := hD
  by_cases c6_0 : u1 = (1 : Int32)
  · have hF := itP c6_0 hF
    refine lv_lookup (off := 34) (tgt := 40) hx hb dX8_coughs_6 (by decide) (by rw [c6_0]; rfl) (by decide) ?_
    refine lv_aload_n hx hb dX8_coughs_40 rfl (lv_at hl 0 rfl) ?_
    refine lv_iload_n hx hb dX8_coughs_41 rfl (lv_at hl 1 rfl) ?_
    refine lv_iload_n hx hb dX8_coughs_42 rfl (lv_at hl 2 rfl) ?_
    obtain ⟨u2, e2, hF⟩ := bdS hF
    refine xEndI (xRunV (As := [.int br, .int xx]) (rest := []) hZ (c_X8_carefulCoughs G t row kpt errs bitsOf sizeOf cels broken isFit breaks act wth facts pile trc images mfit known laid hre opnd bad usg trcd isP trc_f br xx u2 e2 l H.size) m943 m944 m945 m5 m946 2 ⟨rfl, hdX8_carefulCoughs⟩ ⟨Nat.le_of_ble_eq_true rfl, Nat.le_of_ble_eq_true rfl⟩ ⟨rfl, rfl⟩ hP hD hS 0 8 rfl rfl rfl [0, 2] rfl rfl rfl hl.1 rfl (Nat.le_of_ble_eq_true rfl) dX8_coughs_43 ⟨Nat.zero_le _, Nat.zero_le _⟩) hP hD hS hA [0, 2] rfl rfl rfl (fun H locs n2 hP hD hS => ?_)
    have hP : va_P G.1 vwCl [(t, .inr (8, [.ref row, .ref kpt, .int images, .ref errs, .ref bitsOf, .ref sizeOf, .ref cels, .ref broken, .ref isFit, .ref breaks, .int mfit, .int known, .ref act, .ref wth, .ref facts, .ref pile, .int laid, .int hre, .int opnd, .int bad, .int usg, .ref trc, .int u2.2.1, .int isP])), (row, .inl (xI G, 400, .inl row_f)), (trc, .inl (xI G, 30, .inl u2.2.2))] H := hP
    have hD : va_D A [(t, .inr (8, [.ref row, .ref kpt, .int images, .ref errs, .ref bitsOf, .ref sizeOf, .ref cels, .ref broken, .ref isFit, .ref breaks, .int mfit, .int known, .ref act, .ref wth, .ref facts, .ref pile, .int laid, .int hre, .int opnd, .int bad, .int usg, .ref trc, .int u2.2.1, .int isP])), (row, .inl (xI G, 400, .inl row_f)), (trc, .inl (xI G, 30, .inl u2.2.2))] := hD
    obtain rfl := Option.some.inj hF
    rw [← hQ]
    exact W.iret (v := u2.1) hx hb hr (fun t ht hW => ⟨⟨_, (), rfl, ⟨rfl, rfl⟩, xLf hP ht⟩, hS.F ht⟩) hS.2.2 dX8_coughs_46
  · have hF := itN c6_0 hF
    by_cases c6_1 : u1 = (4 : Int32)
    · have hF := itP c6_1 hF
      refine lv_lookup (off := 41) (tgt := 47) hx hb dX8_coughs_6 (by decide) (by rw [c6_1]; rfl) (by decide) ?_
      refine lv_aload_n hx hb dX8_coughs_47 rfl (lv_at hl 0 rfl) ?_
      refine lv_bipush (v := 50) hx hb dX8_coughs_48 (by decide) ?_
      obtain ⟨u2, e2, hF⟩ := bdS hF
      refine xEndV (xRunV (As := [.int (50 : Int32)]) (rest := []) hZ (c_X8_begins G t row kpt errs bitsOf sizeOf cels broken isFit breaks act wth facts pile trc images mfit known laid hre opnd bad usg trcd isP trc_f (50 : Int32) u2 e2 l H.size) m947 m948 m949 m5 m950 1 ⟨rfl, hdX8_begins⟩ ⟨Nat.le_of_ble_eq_true rfl, Nat.le_of_ble_eq_true rfl⟩ ⟨rfl, rfl⟩ hP hD hS 0 8 rfl rfl rfl [0, 2] rfl rfl rfl hl.1 rfl (Nat.le_of_ble_eq_true rfl) dX8_coughs_50 ⟨Nat.zero_le _, Nat.zero_le _⟩) hP hD hS hA [0, 2] rfl rfl rfl (fun H locs hP hD hS => ?_)
      have hP : va_P G.1 vwCl [(t, .inr (8, [.ref row, .ref kpt, .int images, .ref errs, .ref bitsOf, .ref sizeOf, .ref cels, .ref broken, .ref isFit, .ref breaks, .int mfit, .int known, .ref act, .ref wth, .ref facts, .ref pile, .int laid, .int hre, .int opnd, .int bad, .int usg, .ref trc, .int u2.1, .int isP])), (row, .inl (xI G, 400, .inl row_f)), (trc, .inl (xI G, 30, .inl u2.2))] H := hP
      have hD : va_D A [(t, .inr (8, [.ref row, .ref kpt, .int images, .ref errs, .ref bitsOf, .ref sizeOf, .ref cels, .ref broken, .ref isFit, .ref breaks, .int mfit, .int known, .ref act, .ref wth, .ref facts, .ref pile, .int laid, .int hre, .int opnd, .int bad, .int usg, .ref trc, .int u2.1, .int isP])), (row, .inl (xI G, 400, .inl row_f)), (trc, .inl (xI G, 30, .inl u2.2))] := hD
      refine lv_aload_n hx hb dX8_coughs_53 rfl (lv_at hl 0 rfl) ?_
      refine lv_iload_n hx hb dX8_coughs_54 rfl (lv_at hl 1 rfl) ?_
      refine lv_iload_n hx hb dX8_coughs_55 rfl (lv_at hl 2 rfl) ?_
      obtain ⟨u3, e3, hF⟩ := bdS hF
      refine xEndI (xRunV (As := [.int br, .int xx]) (rest := []) hZ (c_X8_carefulCoughs G t row kpt errs bitsOf sizeOf cels broken isFit breaks act wth facts pile trc images mfit known laid hre opnd bad usg u2.1 isP u2.2 br xx u3 e3 l H.size) m943 m944 m945 m5 m946 2 ⟨rfl, hdX8_carefulCoughs⟩ ⟨Nat.le_of_ble_eq_true rfl, Nat.le_of_ble_eq_true rfl⟩ ⟨rfl, rfl⟩ hP hD hS 0 8 rfl rfl rfl [0, 2] rfl rfl rfl hl.1 rfl (Nat.le_of_ble_eq_true rfl) dX8_coughs_56 ⟨Nat.zero_le _, Nat.zero_le _⟩) hP hD hS hA [0, 2] rfl rfl rfl (fun H locs n3 hP hD hS => ?_)
      have hP : va_P G.1 vwCl [(t, .inr (8, [.ref row, .ref kpt, .int images, .ref errs, .ref bitsOf, .ref sizeOf, .ref cels, .ref broken, .ref isFit, .ref breaks, .int mfit, .int known, .ref act, .ref wth, .ref facts, .ref pile, .int laid, .int hre, .int opnd, .int bad, .int usg, .ref trc, .int u3.2.1, .int isP])), (row, .inl (xI G, 400, .inl row_f)), (trc, .inl (xI G, 30, .inl u3.2.2))] H := hP
      have hD : va_D A [(t, .inr (8, [.ref row, .ref kpt, .int images, .ref errs, .ref bitsOf, .ref sizeOf, .ref cels, .ref broken, .ref isFit, .ref breaks, .int mfit, .int known, .ref act, .ref wth, .ref facts, .ref pile, .int laid, .int hre, .int opnd, .int bad, .int usg, .ref trc, .int u3.2.1, .int isP])), (row, .inl (xI G, 400, .inl row_f)), (trc, .inl (xI G, 30, .inl u3.2.2))] := hD
      refine lv_iconst (v := 3) hx hb dX8_coughs_59 (by decide) ?_
      refine lv_imul hx hb dX8_coughs_60 ?_
      obtain rfl := Option.some.inj hF
      rw [← hQ]
      exact W.iret (v := (u3.1 * (3 : Int32))) hx hb hr (fun t ht hW => ⟨⟨_, (), rfl, ⟨rfl, rfl⟩, xLf hP ht⟩, hS.F ht⟩) hS.2.2 dX8_coughs_61
    · have hF := itN c6_1 hF
      by_cases c6_2 : u1 = (6 : Int32)
      · have hF := itP c6_2 hF
        refine lv_lookup (off := 56) (tgt := 62) hx hb dX8_coughs_6 (by decide) (by rw [c6_2]; rfl) (by decide) ?_
        refine lv_aload_n hx hb dX8_coughs_62 rfl (lv_at hl 0 rfl) ?_
        refine lv_bipush (v := 70) hx hb dX8_coughs_63 (by decide) ?_
        obtain ⟨u2, e2, hF⟩ := bdS hF
        refine xEndV (xRunV (As := [.int (70 : Int32)]) (rest := []) hZ (c_X8_begins G t row kpt errs bitsOf sizeOf cels broken isFit breaks act wth facts pile trc images mfit known laid hre opnd bad usg trcd isP trc_f (70 : Int32) u2 e2 l H.size) m947 m948 m949 m5 m950 1 ⟨rfl, hdX8_begins⟩ ⟨Nat.le_of_ble_eq_true rfl, Nat.le_of_ble_eq_true rfl⟩ ⟨rfl, rfl⟩ hP hD hS 0 8 rfl rfl rfl [0, 2] rfl rfl rfl hl.1 rfl (Nat.le_of_ble_eq_true rfl) dX8_coughs_65 ⟨Nat.zero_le _, Nat.zero_le _⟩) hP hD hS hA [0, 2] rfl rfl rfl (fun H locs hP hD hS => ?_)
        have hP : va_P G.1 vwCl [(t, .inr (8, [.ref row, .ref kpt, .int images, .ref errs, .ref bitsOf, .ref sizeOf, .ref cels, .ref broken, .ref isFit, .ref breaks, .int mfit, .int known, .ref act, .ref wth, .ref facts, .ref pile, .int laid, .int hre, .int opnd, .int bad, .int usg, .ref trc, .int u2.1, .int isP])), (row, .inl (xI G, 400, .inl row_f)), (trc, .inl (xI G, 30, .inl u2.2))] H := hP
        have hD : va_D A [(t, .inr (8, [.ref row, .ref kpt, .int images, .ref errs, .ref bitsOf, .ref sizeOf, .ref cels, .ref broken, .ref isFit, .ref breaks, .int mfit, .int known, .ref act, .ref wth, .ref facts, .ref pile, .int laid, .int hre, .int opnd, .int bad, .int usg, .ref trc, .int u2.1, .int isP])), (row, .inl (xI G, 400, .inl row_f)), (trc, .inl (xI G, 30, .inl u2.2))] := hD
        refine lv_bipush (v := 9) hx hb dX8_coughs_68 (by decide) ?_
        obtain rfl := Option.some.inj hF
        rw [← hQ]
        exact W.iret (v := (9 : Int32)) hx hb hr (fun t ht hW => ⟨⟨_, (), rfl, ⟨rfl, rfl⟩, xLf hP ht⟩, hS.F ht⟩) hS.2.2 dX8_coughs_70
      · have hF := itN c6_2 hF
        refine lv_lookup (off := 65) (tgt := 71) hx hb dX8_coughs_6 (by decide) (by have h0 : u1.toInt ≠ 1 := xNe c6_0; have h1 : u1.toInt ≠ 4 := xNe c6_1; have h2 : u1.toInt ≠ 6 := xNe c6_2; show Op.lookupswitch.offset [(1, 34), (4, 41), (6, 56)] 65 u1.toInt = 65; rw [Op.lookupswitch.offset_cons, if_neg (Ne.symm h0), Op.lookupswitch.offset_cons, if_neg (Ne.symm h1), Op.lookupswitch.offset_cons, if_neg (Ne.symm h2)]; rfl) (by decide) ?_
        refine lv_aload_n hx hb dX8_coughs_71 rfl (lv_at hl 0 rfl) ?_
        refine lv_iload_n hx hb dX8_coughs_72 rfl (lv_at hl 1 rfl) ?_
        refine lv_iload_n hx hb dX8_coughs_73 rfl (lv_at hl 2 rfl) ?_
        obtain ⟨u2, e2, hF⟩ := bdS hF
        refine xEndI (xRunV (As := [.int br, .int xx]) (rest := []) hZ (c_X8_plainCoughs G t row kpt errs bitsOf sizeOf cels broken isFit breaks act wth facts pile trc images mfit known laid hre opnd bad usg trcd isP trc_f br xx u2 e2 l H.size) m951 m952 m953 m5 m954 2 ⟨rfl, hdX8_plainCoughs⟩ ⟨Nat.le_of_ble_eq_true rfl, Nat.le_of_ble_eq_true rfl⟩ ⟨rfl, rfl⟩ hP hD hS 0 8 rfl rfl rfl [0, 2] rfl rfl rfl hl.1 rfl (Nat.le_of_ble_eq_true rfl) dX8_coughs_74 ⟨Nat.zero_le _, Nat.zero_le _⟩) hP hD hS hA [0, 2] rfl rfl rfl (fun H locs n2 hP hD hS => ?_)
        have hP : va_P G.1 vwCl [(t, .inr (8, [.ref row, .ref kpt, .int images, .ref errs, .ref bitsOf, .ref sizeOf, .ref cels, .ref broken, .ref isFit, .ref breaks, .int mfit, .int known, .ref act, .ref wth, .ref facts, .ref pile, .int laid, .int hre, .int opnd, .int bad, .int usg, .ref trc, .int u2.2.1, .int isP])), (row, .inl (xI G, 400, .inl row_f)), (trc, .inl (xI G, 30, .inl u2.2.2))] H := hP
        have hD : va_D A [(t, .inr (8, [.ref row, .ref kpt, .int images, .ref errs, .ref bitsOf, .ref sizeOf, .ref cels, .ref broken, .ref isFit, .ref breaks, .int mfit, .int known, .ref act, .ref wth, .ref facts, .ref pile, .int laid, .int hre, .int opnd, .int bad, .int usg, .ref trc, .int u2.2.1, .int isP])), (row, .inl (xI G, 400, .inl row_f)), (trc, .inl (xI G, 30, .inl u2.2.2))] := hD
        obtain rfl := Option.some.inj hF
        rw [← hQ]
        exact W.iret (v := u2.1) hx hb hr (fun t ht hW => ⟨⟨_, (), rfl, ⟨rfl, rfl⟩, xLf hP ht⟩, hS.F ht⟩) hS.2.2 dX8_coughs_77
def F_X8_plainTalks (trcd : Int32) (row_f : Nat → Int32) (trc_f : Nat → Int32) (br : Int32) (xx : Int32) : Option (Int32 × Int32 × (Nat → Int32)) := bd (F_X8_begins trcd trc_f (11 : Int32)) (fun (u1 : (Int32 × (Nat → Int32))) => bd (F_X8_coughs u1.1 row_f u1.2 br xx) (fun (u2 : (Int32 × Int32 × (Nat → Int32))) => some ((u2.1 * (2 : Int32)), u2.2.1, u2.2.2)))
theorem hdX8_plainTalks : yX8_plainTalks.cls ≠ "java/lang/invoke/MethodHandle" ∧ yX8_plainTalks.cls ≠ "java/lang/invoke/VarHandle" ∧ (parseMethodDescriptor yX8_plainTalks.desc).map (fun d => d.parameters.length) = some 2 := by decide +kernel
set_option maxHeartbeats 4000000 in
set_option maxRecDepth 100000 in
theorem c_X8_plainTalks (G : xG) (t : Nat) (row : Nat) (kpt : Nat) (errs : Nat) (bitsOf : Nat) (sizeOf : Nat) (cels : Nat) (broken : Nat) (isFit : Nat) (breaks : Nat) (act : Nat) (wth : Nat) (facts : Nat) (pile : Nat) (trc : Nat) (images : Int32) (mfit : Int32) (known : Int32) (laid : Int32) (hre : Int32) (opnd : Int32) (bad : Int32) (usg : Int32) (trcd : Int32) (isP : Int32) (row_f : Nat → Int32) (trc_f : Nat → Int32) (br : Int32) (xx : Int32)  (u : (Int32 × Int32 × (Nat → Int32))) (hF : F_X8_plainTalks trcd row_f trc_f br xx = some u) : Ki G .int yX8_plainTalks (Cond.code yX8_plainTalks cX8_plainTalks 3 (some .int) :: TBL) { frames := 4, cells := 0, slots := 0, locals := 87 } [.ref t, .int br, .int xx] [(t, .inr (8, [.ref row, .ref kpt, .int images, .ref errs, .ref bitsOf, .ref sizeOf, .ref cels, .ref broken, .ref isFit, .ref breaks, .int mfit, .int known, .ref act, .ref wth, .ref facts, .ref pile, .int laid, .int hre, .int opnd, .int bad, .int usg, .ref trc, .int trcd, .int isP])), (row, .inl (xI G, 400, .inl row_f)), (trc, .inl (xI G, 30, .inl trc_f))] [(t, .inr (8, [.ref row, .ref kpt, .int images, .ref errs, .ref bitsOf, .ref sizeOf, .ref cels, .ref broken, .ref isFit, .ref breaks, .int mfit, .int known, .ref act, .ref wth, .ref facts, .ref pile, .int laid, .int hre, .int opnd, .int bad, .int usg, .ref trc, .int u.2.1, .int isP])), (row, .inl (xI G, 400, .inl row_f)), (trc, .inl (xI G, 30, .inl u.2.2))] u.1 := by
  intro l sz
  refine Met.ofW (cc := cX8_plainTalks) (maxL := 3) (ret := (some .int)) (by decide) rfl ?_
  intro p e s m args below meth c s₁ B hml hv
  obtain ⟨rfl, hsz, hP, hD0, hm⟩ := hv
  have hx := B.exec
  have hb := B.bytes
  have hr := B.returns
  have hts := atoms_spec (ws := Cond.code yX8_plainTalks cX8_plainTalks 3 (some .int) :: TBL) B.pre
  have hown : s.vm.findClass RX8 = some m.cls := findClass_of_methodNamed B.named
  have hlocks := B.notSynchronized
  subst hsz
  have hD := hD0.self (sz := s.heap.size)
  generalize hAe : va_A [(t, .inr (8, [.ref row, .ref kpt, .int images, .ref errs, .ref bitsOf, .ref sizeOf, .ref cels, .ref broken, .ref isFit, .ref breaks, .int mfit, .int known, .ref act, .ref wth, .ref facts, .ref pile, .int laid, .int hre, .int opnd, .int bad, .int usg, .ref trc, .int trcd, .int isP])), (row, .inl (xI G, 400, .inl row_f)), (trc, .inl (xI G, 30, .inl trc_f))] s.heap.size = A at hD hm ⊢
  have hA : ∀ q : Nat, s.heap.size ≤ q → A q := fun q h => by rw [← hAe]; exact Or.inr h
  have hK := hm.1
  have hZ : xAnd p m c cX8_plainTalks 3 s _ (Cond.code yX8_plainTalks cX8_plainTalks 3 (some .int) :: TBL) RX8 G A := ⟨⟨hx, hb, hml, hown, hts⟩, tcons, hA, hm⟩
  have hP : va_P G.1 vwCl [(t, .inr (8, [.ref row, .ref kpt, .int images, .ref errs, .ref bitsOf, .ref sizeOf, .ref cels, .ref broken, .ref isFit, .ref breaks, .int mfit, .int known, .ref act, .ref wth, .ref facts, .ref pile, .int laid, .int hre, .int opnd, .int bad, .int usg, .ref trc, .int trcd, .int isP])), (row, .inl (xI G, 400, .inl row_f)), (trc, .inl (xI G, 30, .inl trc_f))] s.heap := hP
  have hl := lv_entry ([.ref t, .int br, .int xx]) (n := 3) (Nat.le_of_ble_eq_true rfl)
  rw [lg_entry_eq]
  generalize (lg_sl ([.ref t, .int br, .int xx]) ++ List.replicate (3 - (lg_sl ([.ref t, .int br, .int xx])).length) Slot.unset).toArray = ls at hl ⊢
  have hl : lv_has ls 3 [(0, .ref t), (1, .int br), (2, .int xx)] := hl
  generalize hQ : MQ below _ _ s _ _ _ = Q
  refine xGo (A := A) hP (fun H locs hP hS => ?_)
  unfold F_X8_plainTalks at hF
  refine lv_aload_n hx hb dX8_plainTalks_0 rfl (lv_at hl 0 rfl) ?_
  refine lv_bipush (v := 11) hx hb dX8_plainTalks_1 (by decide) ?_
  obtain ⟨u1, e1, hF⟩ := bdS hF
  refine xEndV (xRunV (As := [.int (11 : Int32)]) (rest := []) hZ (c_X8_begins G t row kpt errs bitsOf sizeOf cels broken isFit breaks act wth facts pile trc images mfit known laid hre opnd bad usg trcd isP trc_f (11 : Int32) u1 e1 l H.size) m947 m948 m949 m5 m950 1 ⟨rfl, hdX8_begins⟩ ⟨Nat.le_of_ble_eq_true rfl, Nat.le_of_ble_eq_true rfl⟩ ⟨rfl, rfl⟩ hP hD hS 0 8 rfl rfl rfl [0, 2] rfl rfl rfl hl.1 rfl (Nat.le_of_ble_eq_true rfl) dX8_plainTalks_3 ⟨Nat.zero_le _, Nat.zero_le _⟩) hP hD hS hA [0, 2] rfl rfl rfl (fun H locs hP hD hS => ?_)
  have hP : va_P G.1 vwCl [(t, .inr (8, [.ref row, .ref kpt, .int images, .ref errs, .ref bitsOf, .ref sizeOf, .ref cels, .ref broken, .ref isFit, .ref breaks, .int mfit, .int known, .ref act, .ref wth, .ref facts, .ref pile, .int laid, .int hre, .int opnd, .int bad, .int usg, .ref trc, .int u1.1, .int isP])), (row, .inl (xI G, 400, .inl row_f)), (trc, .inl (xI G, 30, .inl u1.2))] H := hP
  have hD : va_D A [(t, .inr (8, [.ref row, .ref kpt, .int images, .ref errs, .ref bitsOf, .ref sizeOf, .ref cels, .ref broken, .ref isFit, .ref breaks, .int mfit, .int known, .ref act, .ref wth, .ref facts, .ref pile, .int laid, .int hre, .int opnd, .int bad, .int usg, .ref trc, .int u1.1, .int isP])), (row, .inl (xI G, 400, .inl row_f)), (trc, .inl (xI G, 30, .inl u1.2))] := hD
  refine lv_aload_n hx hb dX8_plainTalks_6 rfl (lv_at hl 0 rfl) ?_
  refine lv_iload_n hx hb dX8_plainTalks_7 rfl (lv_at hl 1 rfl) ?_
  refine lv_iload_n hx hb dX8_plainTalks_8 rfl (lv_at hl 2 rfl) ?_
  obtain ⟨u2, e2, hF⟩ := bdS hF
  refine xEndI (xRunV (As := [.int br, .int xx]) (rest := []) hZ (c_X8_coughs G t row kpt errs bitsOf sizeOf cels broken isFit breaks act wth facts pile trc images mfit known laid hre opnd bad usg u1.1 isP row_f u1.2 br xx u2 e2 l H.size) m939 m940 m941 m5 m942 2 ⟨rfl, hdX8_coughs⟩ ⟨Nat.le_of_ble_eq_true rfl, Nat.le_of_ble_eq_true rfl⟩ ⟨rfl, rfl⟩ hP hD hS 0 8 rfl rfl rfl [0, 1, 2] rfl rfl rfl hl.1 rfl (Nat.le_of_ble_eq_true rfl) dX8_plainTalks_9 ⟨Nat.zero_le _, Nat.zero_le _⟩) hP hD hS hA [0, 1, 2] rfl rfl rfl (fun H locs n2 hP hD hS => ?_)
  have hP : va_P G.1 vwCl [(t, .inr (8, [.ref row, .ref kpt, .int images, .ref errs, .ref bitsOf, .ref sizeOf, .ref cels, .ref broken, .ref isFit, .ref breaks, .int mfit, .int known, .ref act, .ref wth, .ref facts, .ref pile, .int laid, .int hre, .int opnd, .int bad, .int usg, .ref trc, .int u2.2.1, .int isP])), (row, .inl (xI G, 400, .inl row_f)), (trc, .inl (xI G, 30, .inl u2.2.2))] H := hP
  have hD : va_D A [(t, .inr (8, [.ref row, .ref kpt, .int images, .ref errs, .ref bitsOf, .ref sizeOf, .ref cels, .ref broken, .ref isFit, .ref breaks, .int mfit, .int known, .ref act, .ref wth, .ref facts, .ref pile, .int laid, .int hre, .int opnd, .int bad, .int usg, .ref trc, .int u2.2.1, .int isP])), (row, .inl (xI G, 400, .inl row_f)), (trc, .inl (xI G, 30, .inl u2.2.2))] := hD
  refine lv_iconst (v := 2) hx hb dX8_plainTalks_12 (by decide) ?_
  refine lv_imul hx hb dX8_plainTalks_13 ?_
  obtain rfl := Option.some.inj hF
  rw [← hQ]
  exact W.iret (v := (u2.1 * (2 : Int32))) hx hb hr (fun t ht hW => ⟨⟨_, (), rfl, ⟨rfl, rfl⟩, xLf hP ht⟩, hS.F ht⟩) hS.2.2 dX8_plainTalks_14
def F_X8_boldTalks (trcd : Int32) (row_f : Nat → Int32) (trc_f : Nat → Int32) (br : Int32) (xx : Int32) : Option (Int32 × Int32 × (Nat → Int32)) := bd (F_X8_begins trcd trc_f (30 : Int32)) (fun (u1 : (Int32 × (Nat → Int32))) => bd (F_X8_plainTalks u1.1 row_f u1.2 br xx) (fun (u2 : (Int32 × Int32 × (Nat → Int32))) => some ((-u2.1), u2.2.1, u2.2.2)))
theorem hdX8_boldTalks : yX8_boldTalks.cls ≠ "java/lang/invoke/MethodHandle" ∧ yX8_boldTalks.cls ≠ "java/lang/invoke/VarHandle" ∧ (parseMethodDescriptor yX8_boldTalks.desc).map (fun d => d.parameters.length) = some 2 := by decide +kernel
set_option maxHeartbeats 4000000 in
set_option maxRecDepth 100000 in
theorem c_X8_boldTalks (G : xG) (t : Nat) (row : Nat) (kpt : Nat) (errs : Nat) (bitsOf : Nat) (sizeOf : Nat) (cels : Nat) (broken : Nat) (isFit : Nat) (breaks : Nat) (act : Nat) (wth : Nat) (facts : Nat) (pile : Nat) (trc : Nat) (images : Int32) (mfit : Int32) (known : Int32) (laid : Int32) (hre : Int32) (opnd : Int32) (bad : Int32) (usg : Int32) (trcd : Int32) (isP : Int32) (row_f : Nat → Int32) (trc_f : Nat → Int32) (br : Int32) (xx : Int32)  (u : (Int32 × Int32 × (Nat → Int32))) (hF : F_X8_boldTalks trcd row_f trc_f br xx = some u) : Ki G .int yX8_boldTalks (Cond.code yX8_boldTalks cX8_boldTalks 3 (some .int) :: TBL) { frames := 5, cells := 0, slots := 0, locals := 109 } [.ref t, .int br, .int xx] [(t, .inr (8, [.ref row, .ref kpt, .int images, .ref errs, .ref bitsOf, .ref sizeOf, .ref cels, .ref broken, .ref isFit, .ref breaks, .int mfit, .int known, .ref act, .ref wth, .ref facts, .ref pile, .int laid, .int hre, .int opnd, .int bad, .int usg, .ref trc, .int trcd, .int isP])), (row, .inl (xI G, 400, .inl row_f)), (trc, .inl (xI G, 30, .inl trc_f))] [(t, .inr (8, [.ref row, .ref kpt, .int images, .ref errs, .ref bitsOf, .ref sizeOf, .ref cels, .ref broken, .ref isFit, .ref breaks, .int mfit, .int known, .ref act, .ref wth, .ref facts, .ref pile, .int laid, .int hre, .int opnd, .int bad, .int usg, .ref trc, .int u.2.1, .int isP])), (row, .inl (xI G, 400, .inl row_f)), (trc, .inl (xI G, 30, .inl u.2.2))] u.1 := by
  intro l sz
  refine Met.ofW (cc := cX8_boldTalks) (maxL := 3) (ret := (some .int)) (by decide) rfl ?_
  intro p e s m args below meth c s₁ B hml hv
  obtain ⟨rfl, hsz, hP, hD0, hm⟩ := hv
  have hx := B.exec
  have hb := B.bytes
  have hr := B.returns
  have hts := atoms_spec (ws := Cond.code yX8_boldTalks cX8_boldTalks 3 (some .int) :: TBL) B.pre
  have hown : s.vm.findClass RX8 = some m.cls := findClass_of_methodNamed B.named
  have hlocks := B.notSynchronized
  subst hsz
  have hD := hD0.self (sz := s.heap.size)
  generalize hAe : va_A [(t, .inr (8, [.ref row, .ref kpt, .int images, .ref errs, .ref bitsOf, .ref sizeOf, .ref cels, .ref broken, .ref isFit, .ref breaks, .int mfit, .int known, .ref act, .ref wth, .ref facts, .ref pile, .int laid, .int hre, .int opnd, .int bad, .int usg, .ref trc, .int trcd, .int isP])), (row, .inl (xI G, 400, .inl row_f)), (trc, .inl (xI G, 30, .inl trc_f))] s.heap.size = A at hD hm ⊢
  have hA : ∀ q : Nat, s.heap.size ≤ q → A q := fun q h => by rw [← hAe]; exact Or.inr h
  have hK := hm.1
  have hZ : xAnd p m c cX8_boldTalks 3 s _ (Cond.code yX8_boldTalks cX8_boldTalks 3 (some .int) :: TBL) RX8 G A := ⟨⟨hx, hb, hml, hown, hts⟩, tcons, hA, hm⟩
  have hP : va_P G.1 vwCl [(t, .inr (8, [.ref row, .ref kpt, .int images, .ref errs, .ref bitsOf, .ref sizeOf, .ref cels, .ref broken, .ref isFit, .ref breaks, .int mfit, .int known, .ref act, .ref wth, .ref facts, .ref pile, .int laid, .int hre, .int opnd, .int bad, .int usg, .ref trc, .int trcd, .int isP])), (row, .inl (xI G, 400, .inl row_f)), (trc, .inl (xI G, 30, .inl trc_f))] s.heap := hP
  have hl := lv_entry ([.ref t, .int br, .int xx]) (n := 3) (Nat.le_of_ble_eq_true rfl)
  rw [lg_entry_eq]
  generalize (lg_sl ([.ref t, .int br, .int xx]) ++ List.replicate (3 - (lg_sl ([.ref t, .int br, .int xx])).length) Slot.unset).toArray = ls at hl ⊢
  have hl : lv_has ls 3 [(0, .ref t), (1, .int br), (2, .int xx)] := hl
  generalize hQ : MQ below _ _ s _ _ _ = Q
  refine xGo (A := A) hP (fun H locs hP hS => ?_)
  unfold F_X8_boldTalks at hF
  refine lv_aload_n hx hb dX8_boldTalks_0 rfl (lv_at hl 0 rfl) ?_
  refine lv_bipush (v := 30) hx hb dX8_boldTalks_1 (by decide) ?_
  obtain ⟨u1, e1, hF⟩ := bdS hF
  refine xEndV (xRunV (As := [.int (30 : Int32)]) (rest := []) hZ (c_X8_begins G t row kpt errs bitsOf sizeOf cels broken isFit breaks act wth facts pile trc images mfit known laid hre opnd bad usg trcd isP trc_f (30 : Int32) u1 e1 l H.size) m947 m948 m949 m5 m950 1 ⟨rfl, hdX8_begins⟩ ⟨Nat.le_of_ble_eq_true rfl, Nat.le_of_ble_eq_true rfl⟩ ⟨rfl, rfl⟩ hP hD hS 0 8 rfl rfl rfl [0, 2] rfl rfl rfl hl.1 rfl (Nat.le_of_ble_eq_true rfl) dX8_boldTalks_3 ⟨Nat.zero_le _, Nat.zero_le _⟩) hP hD hS hA [0, 2] rfl rfl rfl (fun H locs hP hD hS => ?_)
  have hP : va_P G.1 vwCl [(t, .inr (8, [.ref row, .ref kpt, .int images, .ref errs, .ref bitsOf, .ref sizeOf, .ref cels, .ref broken, .ref isFit, .ref breaks, .int mfit, .int known, .ref act, .ref wth, .ref facts, .ref pile, .int laid, .int hre, .int opnd, .int bad, .int usg, .ref trc, .int u1.1, .int isP])), (row, .inl (xI G, 400, .inl row_f)), (trc, .inl (xI G, 30, .inl u1.2))] H := hP
  have hD : va_D A [(t, .inr (8, [.ref row, .ref kpt, .int images, .ref errs, .ref bitsOf, .ref sizeOf, .ref cels, .ref broken, .ref isFit, .ref breaks, .int mfit, .int known, .ref act, .ref wth, .ref facts, .ref pile, .int laid, .int hre, .int opnd, .int bad, .int usg, .ref trc, .int u1.1, .int isP])), (row, .inl (xI G, 400, .inl row_f)), (trc, .inl (xI G, 30, .inl u1.2))] := hD
  refine lv_aload_n hx hb dX8_boldTalks_6 rfl (lv_at hl 0 rfl) ?_
  refine lv_iload_n hx hb dX8_boldTalks_7 rfl (lv_at hl 1 rfl) ?_
  refine lv_iload_n hx hb dX8_boldTalks_8 rfl (lv_at hl 2 rfl) ?_
  obtain ⟨u2, e2, hF⟩ := bdS hF
  refine xEndI (xRunV (As := [.int br, .int xx]) (rest := []) hZ (c_X8_plainTalks G t row kpt errs bitsOf sizeOf cels broken isFit breaks act wth facts pile trc images mfit known laid hre opnd bad usg u1.1 isP row_f u1.2 br xx u2 e2 l H.size) m963 m964 m965 m5 m966 2 ⟨rfl, hdX8_plainTalks⟩ ⟨Nat.le_of_ble_eq_true rfl, Nat.le_of_ble_eq_true rfl⟩ ⟨rfl, rfl⟩ hP hD hS 0 8 rfl rfl rfl [0, 1, 2] rfl rfl rfl hl.1 rfl (Nat.le_of_ble_eq_true rfl) dX8_boldTalks_9 ⟨Nat.zero_le _, Nat.zero_le _⟩) hP hD hS hA [0, 1, 2] rfl rfl rfl (fun H locs n2 hP hD hS => ?_)
  have hP : va_P G.1 vwCl [(t, .inr (8, [.ref row, .ref kpt, .int images, .ref errs, .ref bitsOf, .ref sizeOf, .ref cels, .ref broken, .ref isFit, .ref breaks, .int mfit, .int known, .ref act, .ref wth, .ref facts, .ref pile, .int laid, .int hre, .int opnd, .int bad, .int usg, .ref trc, .int u2.2.1, .int isP])), (row, .inl (xI G, 400, .inl row_f)), (trc, .inl (xI G, 30, .inl u2.2.2))] H := hP
  have hD : va_D A [(t, .inr (8, [.ref row, .ref kpt, .int images, .ref errs, .ref bitsOf, .ref sizeOf, .ref cels, .ref broken, .ref isFit, .ref breaks, .int mfit, .int known, .ref act, .ref wth, .ref facts, .ref pile, .int laid, .int hre, .int opnd, .int bad, .int usg, .ref trc, .int u2.2.1, .int isP])), (row, .inl (xI G, 400, .inl row_f)), (trc, .inl (xI G, 30, .inl u2.2.2))] := hD
  refine lv_ineg hx hb dX8_boldTalks_12 ?_
  obtain rfl := Option.some.inj hF
  rw [← hQ]
  exact W.iret (v := (-u2.1)) hx hb hr (fun t ht hW => ⟨⟨_, (), rfl, ⟨rfl, rfl⟩, xLf hP ht⟩, hS.F ht⟩) hS.2.2 dX8_boldTalks_13
def F_X8_talks (trcd : Int32) (row_f : Nat → Int32) (trc_f : Nat → Int32) (br : Int32) (xx : Int32) : Option (Int32 × Int32 × (Nat → Int32)) := bd (F_X8_of row_f br (0 : Int32)) (fun (u1 : Int32) => if u1 = (2 : Int32) then (bd (F_X8_boldTalks trcd row_f trc_f br xx) (fun (u2 : (Int32 × Int32 × (Nat → Int32))) => some (u2.1, u2.2.1, u2.2.2))) else (if u1 = (5 : Int32) then (bd (F_X8_begins trcd trc_f (60 : Int32)) (fun (u2 : (Int32 × (Nat → Int32))) => bd (F_X8_boldTalks u2.1 row_f u2.2 br (xx + (1 : Int32))) (fun (u3 : (Int32 × Int32 × (Nat → Int32))) => some (u3.1, u3.2.1, u3.2.2)))) else (if u1 = (6 : Int32) then (bd (F_X8_begins trcd trc_f (71 : Int32)) (fun (u2 : (Int32 × (Nat → Int32))) => bd (F_X8_plainTalks u2.1 row_f u2.2 br xx) (fun (u3 : (Int32 × Int32 × (Nat → Int32))) => bd (F_X8_of row_f br (1 : Int32)) (fun (u4 : Int32) => some ((u3.1 + u4), u3.2.1, u3.2.2))))) else (bd (F_X8_plainTalks trcd row_f trc_f br xx) (fun (u2 : (Int32 × Int32 × (Nat → Int32))) => some (u2.1, u2.2.1, u2.2.2))))))
theorem hdX8_talks : yX8_talks.cls ≠ "java/lang/invoke/MethodHandle" ∧ yX8_talks.cls ≠ "java/lang/invoke/VarHandle" ∧ (parseMethodDescriptor yX8_talks.desc).map (fun d => d.parameters.length) = some 2 := by decide +kernel
set_option maxHeartbeats 4000000 in
set_option maxRecDepth 100000 in
theorem c_X8_talks (G : xG) (t : Nat) (row : Nat) (kpt : Nat) (errs : Nat) (bitsOf : Nat) (sizeOf : Nat) (cels : Nat) (broken : Nat) (isFit : Nat) (breaks : Nat) (act : Nat) (wth : Nat) (facts : Nat) (pile : Nat) (trc : Nat) (images : Int32) (mfit : Int32) (known : Int32) (laid : Int32) (hre : Int32) (opnd : Int32) (bad : Int32) (usg : Int32) (trcd : Int32) (isP : Int32) (row_f : Nat → Int32) (trc_f : Nat → Int32) (br : Int32) (xx : Int32)  (u : (Int32 × Int32 × (Nat → Int32))) (hF : F_X8_talks trcd row_f trc_f br xx = some u) : Ki G .int yX8_talks (Cond.code yX8_talks cX8_talks 3 (some .int) :: TBL) { frames := 6, cells := 0, slots := 0, locals := 131 } [.ref t, .int br, .int xx] [(t, .inr (8, [.ref row, .ref kpt, .int images, .ref errs, .ref bitsOf, .ref sizeOf, .ref cels, .ref broken, .ref isFit, .ref breaks, .int mfit, .int known, .ref act, .ref wth, .ref facts, .ref pile, .int laid, .int hre, .int opnd, .int bad, .int usg, .ref trc, .int trcd, .int isP])), (row, .inl (xI G, 400, .inl row_f)), (trc, .inl (xI G, 30, .inl trc_f))] [(t, .inr (8, [.ref row, .ref kpt, .int images, .ref errs, .ref bitsOf, .ref sizeOf, .ref cels, .ref broken, .ref isFit, .ref breaks, .int mfit, .int known, .ref act, .ref wth, .ref facts, .ref pile, .int laid, .int hre, .int opnd, .int bad, .int usg, .ref trc, .int u.2.1, .int isP])), (row, .inl (xI G, 400, .inl row_f)), (trc, .inl (xI G, 30, .inl u.2.2))] u.1 := by
  intro l sz
  refine Met.ofW (cc := cX8_talks) (maxL := 3) (ret := (some .int)) (by decide) rfl ?_
  intro p e s m args below meth c s₁ B hml hv
  obtain ⟨rfl, hsz, hP, hD0, hm⟩ := hv
  have hx := B.exec
  have hb := B.bytes
  have hr := B.returns
  have hts := atoms_spec (ws := Cond.code yX8_talks cX8_talks 3 (some .int) :: TBL) B.pre
  have hown : s.vm.findClass RX8 = some m.cls := findClass_of_methodNamed B.named
  have hlocks := B.notSynchronized
  subst hsz
  have hD := hD0.self (sz := s.heap.size)
  generalize hAe : va_A [(t, .inr (8, [.ref row, .ref kpt, .int images, .ref errs, .ref bitsOf, .ref sizeOf, .ref cels, .ref broken, .ref isFit, .ref breaks, .int mfit, .int known, .ref act, .ref wth, .ref facts, .ref pile, .int laid, .int hre, .int opnd, .int bad, .int usg, .ref trc, .int trcd, .int isP])), (row, .inl (xI G, 400, .inl row_f)), (trc, .inl (xI G, 30, .inl trc_f))] s.heap.size = A at hD hm ⊢
  have hA : ∀ q : Nat, s.heap.size ≤ q → A q := fun q h => by rw [← hAe]; exact Or.inr h
  have hK := hm.1
  have hZ : xAnd p m c cX8_talks 3 s _ (Cond.code yX8_talks cX8_talks 3 (some .int) :: TBL) RX8 G A := ⟨⟨hx, hb, hml, hown, hts⟩, tcons, hA, hm⟩
  have hP : va_P G.1 vwCl [(t, .inr (8, [.ref row, .ref kpt, .int images, .ref errs, .ref bitsOf, .ref sizeOf, .ref cels, .ref broken, .ref isFit, .ref breaks, .int mfit, .int known, .ref act, .ref wth, .ref facts, .ref pile, .int laid, .int hre, .int opnd, .int bad, .int usg, .ref trc, .int trcd, .int isP])), (row, .inl (xI G, 400, .inl row_f)), (trc, .inl (xI G, 30, .inl trc_f))] s.heap := hP
  have hl := lv_entry ([.ref t, .int br, .int xx]) (n := 3) (Nat.le_of_ble_eq_true rfl)
  rw [lg_entry_eq]
  generalize (lg_sl ([.ref t, .int br, .int xx]) ++ List.replicate (3 - (lg_sl ([.ref t, .int br, .int xx])).length) Slot.unset).toArray = ls at hl ⊢
  have hl : lv_has ls 3 [(0, .ref t), (1, .int br), (2, .int xx)] := hl
  generalize hQ : MQ below _ _ s _ _ _ = Q
  refine xGo (A := A) hP (fun H locs hP hS => ?_)
  unfold F_X8_talks at hF
  refine lv_aload_n hx hb dX8_talks_0 rfl (lv_at hl 0 rfl) ?_
  refine lv_iload_n hx hb dX8_talks_1 rfl (lv_at hl 1 rfl) ?_
  refine lv_iconst (v := 0) hx hb dX8_talks_2 (by decide) ?_
  obtain ⟨u1, e1, hF⟩ := bdS hF
  refine xEndI (xRunV (As := [.int br, .int (0 : Int32)]) (rest := []) hZ (c_X8_of G t row kpt errs bitsOf sizeOf cels broken isFit breaks act wth facts pile trc images mfit known laid hre opnd bad usg trcd isP row_f br (0 : Int32) u1 e1 l H.size) m291 m292 m293 m5 m294 2 ⟨rfl, hdX8_of⟩ ⟨Nat.le_of_ble_eq_true rfl, Nat.le_of_ble_eq_true rfl⟩ ⟨rfl, rfl⟩ hP hD hS 0 8 rfl rfl rfl [0, 1] rfl rfl rfl hl.1 rfl (Nat.le_of_ble_eq_true rfl) dX8_talks_3 ⟨Nat.zero_le _, Nat.zero_le _⟩) hP hD hS hA [0, 1] rfl rfl rfl (fun H locs n1 hP hD hS => ?_)
  have hP : va_P G.1 vwCl [(t, .inr (8, [.ref row, .ref kpt, .int images, .ref errs, .ref bitsOf, .ref sizeOf, .ref cels, .ref broken, .ref isFit, .ref breaks, .int mfit, .int known, .ref act, .ref wth, .ref facts, .ref pile, .int laid, .int hre, .int opnd, .int bad, .int usg, .ref trc, .int trcd, .int isP])), (row, .inl (xI G, 400, .inl row_f)), (trc, .inl (xI G, 30, .inl trc_f))] H := hP
  have hD : va_D A [(t, .inr (8, [.ref row, .ref kpt, .int images, .ref errs, .ref bitsOf, .ref sizeOf, .ref cels, .ref broken, .ref isFit, .ref breaks, .int mfit, .int known, .ref act, .ref wth, .ref facts, .ref pile, .int laid, .int hre, .int opnd, .int bad, .int usg, .ref trc, .int trcd, .int isP])), (row, .inl (xI G, 400, .inl row_f)), (trc, .inl (xI G, 30, .inl trc_f))] := hD
  by_cases c6_0 : u1 = (2 : Int32)
  · have hF := itP c6_0 hF
    refine lv_tableIn (off := 34) (tgt := 40) hx hb dX8_talks_6 (by rw [c6_0]; decide) (by rw [c6_0]; decide) (by rw [c6_0]; rfl) (by decide) ?_
    refine lv_aload_n hx hb dX8_talks_40 rfl (lv_at hl 0 rfl) ?_
    refine lv_iload_n hx hb dX8_talks_41 rfl (lv_at hl 1 rfl) ?_
    refine lv_iload_n hx hb dX8_talks_42 rfl (lv_at hl 2 rfl) ?_
    obtain ⟨u2, e2, hF⟩ := bdS hF
    refine xEndI (xRunV (As := [.int br, .int xx]) (rest := []) hZ (c_X8_boldTalks G t row kpt errs bitsOf sizeOf cels broken isFit breaks act wth facts pile trc images mfit known laid hre opnd bad usg trcd isP row_f trc_f br xx u2 e2 l H.size) m959 m960 m961 m5 m962 2 ⟨rfl, hdX8_boldTalks⟩ ⟨Nat.le_of_ble_eq_true rfl, Nat.le_of_ble_eq_true rfl⟩ ⟨rfl, rfl⟩ hP hD hS 0 8 rfl rfl rfl [0, 1, 2] rfl rfl rfl hl.1 rfl (Nat.le_of_ble_eq_true rfl) dX8_talks_43 ⟨Nat.zero_le _, Nat.zero_le _⟩) hP hD hS hA [0, 1, 2] rfl rfl rfl (fun H locs n2 hP hD hS => ?_)
    have hP : va_P G.1 vwCl [(t, .inr (8, [.ref row, .ref kpt, .int images, .ref errs, .ref bitsOf, .ref sizeOf, .ref cels, .ref broken, .ref isFit, .ref breaks, .int mfit, .int known, .ref act, .ref wth, .ref facts, .ref pile, .int laid, .int hre, .int opnd, .int bad, .int usg, .ref trc, .int u2.2.1, .int isP])), (row, .inl (xI G, 400, .inl row_f)), (trc, .inl (xI G, 30, .inl u2.2.2))] H := hP
    have hD : va_D A [(t, .inr (8, [.ref row, .ref kpt, .int images, .ref errs, .ref bitsOf, .ref sizeOf, .ref cels, .ref broken, .ref isFit, .ref breaks, .int mfit, .int known, .ref act, .ref wth, .ref facts, .ref pile, .int laid, .int hre, .int opnd, .int bad, .int usg, .ref trc, .int u2.2.1, .int isP])), (row, .inl (xI G, 400, .inl row_f)), (trc, .inl (xI G, 30, .inl u2.2.2))] := hD
    obtain rfl := Option.some.inj hF
    rw [← hQ]
    exact W.iret (v := u2.1) hx hb hr (fun t ht hW => ⟨⟨_, (), rfl, ⟨rfl, rfl⟩, xLf hP ht⟩, hS.F ht⟩) hS.2.2 dX8_talks_46
  · have hF := itN c6_0 hF
    by_cases c6_1 : u1 = (5 : Int32)
    · have hF := itP c6_1 hF
      refine lv_tableIn (off := 41) (tgt := 47) hx hb dX8_talks_6 (by rw [c6_1]; decide) (by rw [c6_1]; decide) (by rw [c6_1]; rfl) (by decide) ?_
      refine lv_aload_n hx hb dX8_talks_47 rfl (lv_at hl 0 rfl) ?_
      refine lv_bipush (v := 60) hx hb dX8_talks_48 (by decide) ?_
      obtain ⟨u2, e2, hF⟩ := bdS hF
      refine xEndV (xRunV (As := [.int (60 : Int32)]) (rest := []) hZ (c_X8_begins G t row kpt errs bitsOf sizeOf cels broken isFit breaks act wth facts pile trc images mfit known laid hre opnd bad usg trcd isP trc_f (60 : Int32) u2 e2 l H.size) m947 m948 m949 m5 m950 1 ⟨rfl, hdX8_begins⟩ ⟨Nat.le_of_ble_eq_true rfl, Nat.le_of_ble_eq_true rfl⟩ ⟨rfl, rfl⟩ hP hD hS 0 8 rfl rfl rfl [0, 2] rfl rfl rfl hl.1 rfl (Nat.le_of_ble_eq_true rfl) dX8_talks_50 ⟨Nat.zero_le _, Nat.zero_le _⟩) hP hD hS hA [0, 2] rfl rfl rfl (fun H locs hP hD hS => ?_)
      have hP : va_P G.1 vwCl [(t, .inr (8, [.ref row, .ref kpt, .int images, .ref errs, .ref bitsOf, .ref sizeOf, .ref cels, .ref broken, .ref isFit, .ref breaks, .int mfit, .int known, .ref act, .ref wth, .ref facts, .ref pile, .int laid, .int hre, .int opnd, .int bad, .int usg, .ref trc, .int u2.1, .int isP])), (row, .inl (xI G, 400, .inl row_f)), (trc, .inl (xI G, 30, .inl u2.2))] H := hP
      have hD : va_D A [(t, .inr (8, [.ref row, .ref kpt, .int images, .ref errs, .ref bitsOf, .ref sizeOf, .ref cels, .ref broken, .ref isFit, .ref breaks, .int mfit, .int known, .ref act, .ref wth, .ref facts, .ref pile, .int laid, .int hre, .int opnd, .int bad, .int usg, .ref trc, .int u2.1, .int isP])), (row, .inl (xI G, 400, .inl row_f)), (trc, .inl (xI G, 30, .inl u2.2))] := hD
      refine lv_aload_n hx hb dX8_talks_53 rfl (lv_at hl 0 rfl) ?_
      refine lv_iload_n hx hb dX8_talks_54 rfl (lv_at hl 1 rfl) ?_
      refine lv_iload_n hx hb dX8_talks_55 rfl (lv_at hl 2 rfl) ?_
      refine lv_iconst (v := 1) hx hb dX8_talks_56 (by decide) ?_
      refine lv_iadd hx hb dX8_talks_57 ?_
      obtain ⟨u3, e3, hF⟩ := bdS hF
      refine xEndI (xRunV (As := [.int br, .int (xx + (1 : Int32))]) (rest := []) hZ (c_X8_boldTalks G t row kpt errs bitsOf sizeOf cels broken isFit breaks act wth facts pile trc images mfit known laid hre opnd bad usg u2.1 isP row_f u2.2 br (xx + (1 : Int32)) u3 e3 l H.size) m959 m960 m961 m5 m962 2 ⟨rfl, hdX8_boldTalks⟩ ⟨Nat.le_of_ble_eq_true rfl, Nat.le_of_ble_eq_true rfl⟩ ⟨rfl, rfl⟩ hP hD hS 0 8 rfl rfl rfl [0, 1, 2] rfl rfl rfl hl.1 rfl (Nat.le_of_ble_eq_true rfl) dX8_talks_58 ⟨Nat.zero_le _, Nat.zero_le _⟩) hP hD hS hA [0, 1, 2] rfl rfl rfl (fun H locs n3 hP hD hS => ?_)
      have hP : va_P G.1 vwCl [(t, .inr (8, [.ref row, .ref kpt, .int images, .ref errs, .ref bitsOf, .ref sizeOf, .ref cels, .ref broken, .ref isFit, .ref breaks, .int mfit, .int known, .ref act, .ref wth, .ref facts, .ref pile, .int laid, .int hre, .int opnd, .int bad, .int usg, .ref trc, .int u3.2.1, .int isP])), (row, .inl (xI G, 400, .inl row_f)), (trc, .inl (xI G, 30, .inl u3.2.2))] H := hP
      have hD : va_D A [(t, .inr (8, [.ref row, .ref kpt, .int images, .ref errs, .ref bitsOf, .ref sizeOf, .ref cels, .ref broken, .ref isFit, .ref breaks, .int mfit, .int known, .ref act, .ref wth, .ref facts, .ref pile, .int laid, .int hre, .int opnd, .int bad, .int usg, .ref trc, .int u3.2.1, .int isP])), (row, .inl (xI G, 400, .inl row_f)), (trc, .inl (xI G, 30, .inl u3.2.2))] := hD
      obtain rfl := Option.some.inj hF
      rw [← hQ]
      exact W.iret (v := u3.1) hx hb hr (fun t ht hW => ⟨⟨_, (), rfl, ⟨rfl, rfl⟩, xLf hP ht⟩, hS.F ht⟩) hS.2.2 dX8_talks_61
    · have hF := itN c6_1 hF
      by_cases c6_2 : u1 = (6 : Int32)
      · have hF := itP c6_2 hF
        refine lv_tableIn (off := 56) (tgt := 62) hx hb dX8_talks_6 (by rw [c6_2]; decide) (by rw [c6_2]; decide) (by rw [c6_2]; rfl) (by decide) ?_
        refine lv_aload_n hx hb dX8_talks_62 rfl (lv_at hl 0 rfl) ?_
        refine lv_bipush (v := 71) hx hb dX8_talks_63 (by decide) ?_
        obtain ⟨u2, e2, hF⟩ := bdS hF
        refine xEndV (xRunV (As := [.int (71 : Int32)]) (rest := []) hZ (c_X8_begins G t row kpt errs bitsOf sizeOf cels broken isFit breaks act wth facts pile trc images mfit known laid hre opnd bad usg trcd isP trc_f (71 : Int32) u2 e2 l H.size) m947 m948 m949 m5 m950 1 ⟨rfl, hdX8_begins⟩ ⟨Nat.le_of_ble_eq_true rfl, Nat.le_of_ble_eq_true rfl⟩ ⟨rfl, rfl⟩ hP hD hS 0 8 rfl rfl rfl [0, 2] rfl rfl rfl hl.1 rfl (Nat.le_of_ble_eq_true rfl) dX8_talks_65 ⟨Nat.zero_le _, Nat.zero_le _⟩) hP hD hS hA [0, 2] rfl rfl rfl (fun H locs hP hD hS => ?_)
        have hP : va_P G.1 vwCl [(t, .inr (8, [.ref row, .ref kpt, .int images, .ref errs, .ref bitsOf, .ref sizeOf, .ref cels, .ref broken, .ref isFit, .ref breaks, .int mfit, .int known, .ref act, .ref wth, .ref facts, .ref pile, .int laid, .int hre, .int opnd, .int bad, .int usg, .ref trc, .int u2.1, .int isP])), (row, .inl (xI G, 400, .inl row_f)), (trc, .inl (xI G, 30, .inl u2.2))] H := hP
        have hD : va_D A [(t, .inr (8, [.ref row, .ref kpt, .int images, .ref errs, .ref bitsOf, .ref sizeOf, .ref cels, .ref broken, .ref isFit, .ref breaks, .int mfit, .int known, .ref act, .ref wth, .ref facts, .ref pile, .int laid, .int hre, .int opnd, .int bad, .int usg, .ref trc, .int u2.1, .int isP])), (row, .inl (xI G, 400, .inl row_f)), (trc, .inl (xI G, 30, .inl u2.2))] := hD
        refine lv_aload_n hx hb dX8_talks_68 rfl (lv_at hl 0 rfl) ?_
        refine lv_iload_n hx hb dX8_talks_69 rfl (lv_at hl 1 rfl) ?_
        refine lv_iload_n hx hb dX8_talks_70 rfl (lv_at hl 2 rfl) ?_
        obtain ⟨u3, e3, hF⟩ := bdS hF
        refine xEndI (xRunV (As := [.int br, .int xx]) (rest := []) hZ (c_X8_plainTalks G t row kpt errs bitsOf sizeOf cels broken isFit breaks act wth facts pile trc images mfit known laid hre opnd bad usg u2.1 isP row_f u2.2 br xx u3 e3 l H.size) m963 m964 m965 m5 m966 2 ⟨rfl, hdX8_plainTalks⟩ ⟨Nat.le_of_ble_eq_true rfl, Nat.le_of_ble_eq_true rfl⟩ ⟨rfl, rfl⟩ hP hD hS 0 8 rfl rfl rfl [0, 1, 2] rfl rfl rfl hl.1 rfl (Nat.le_of_ble_eq_true rfl) dX8_talks_71 ⟨Nat.zero_le _, Nat.zero_le _⟩) hP hD hS hA [0, 1, 2] rfl rfl rfl (fun H locs n3 hP hD hS => ?_)
        have hP : va_P G.1 vwCl [(t, .inr (8, [.ref row, .ref kpt, .int images, .ref errs, .ref bitsOf, .ref sizeOf, .ref cels, .ref broken, .ref isFit, .ref breaks, .int mfit, .int known, .ref act, .ref wth, .ref facts, .ref pile, .int laid, .int hre, .int opnd, .int bad, .int usg, .ref trc, .int u3.2.1, .int isP])), (row, .inl (xI G, 400, .inl row_f)), (trc, .inl (xI G, 30, .inl u3.2.2))] H := hP
        have hD : va_D A [(t, .inr (8, [.ref row, .ref kpt, .int images, .ref errs, .ref bitsOf, .ref sizeOf, .ref cels, .ref broken, .ref isFit, .ref breaks, .int mfit, .int known, .ref act, .ref wth, .ref facts, .ref pile, .int laid, .int hre, .int opnd, .int bad, .int usg, .ref trc, .int u3.2.1, .int isP])), (row, .inl (xI G, 400, .inl row_f)), (trc, .inl (xI G, 30, .inl u3.2.2))] := hD
        refine lv_aload_n hx hb dX8_talks_74 rfl (lv_at hl 0 rfl) ?_
        refine lv_iload_n hx hb dX8_talks_75 rfl (lv_at hl 1 rfl) ?_
        refine lv_iconst (v := 1) hx hb dX8_talks_76 (by decide) ?_
        obtain ⟨u4, e4, hF⟩ := bdS hF
        refine xEndI (xRunV (As := [.int br, .int (1 : Int32)]) (rest := [.int u3.1]) hZ (c_X8_of G t row kpt errs bitsOf sizeOf cels broken isFit breaks act wth facts pile trc images mfit known laid hre opnd bad usg u3.2.1 isP row_f br (1 : Int32) u4 e4 l H.size) m291 m292 m293 m5 m294 2 ⟨rfl, hdX8_of⟩ ⟨Nat.le_of_ble_eq_true rfl, Nat.le_of_ble_eq_true rfl⟩ ⟨rfl, rfl⟩ hP hD hS 0 8 rfl rfl rfl [0, 1] rfl rfl rfl hl.1 rfl (Nat.le_of_ble_eq_true rfl) dX8_talks_77 ⟨Nat.zero_le _, Nat.zero_le _⟩) hP hD hS hA [0, 1] rfl rfl rfl (fun H locs n4 hP hD hS => ?_)
        have hP : va_P G.1 vwCl [(t, .inr (8, [.ref row, .ref kpt, .int images, .ref errs, .ref bitsOf, .ref sizeOf, .ref cels, .ref broken, .ref isFit, .ref breaks, .int mfit, .int known, .ref act, .ref wth, .ref facts, .ref pile, .int laid, .int hre, .int opnd, .int bad, .int usg, .ref trc, .int u3.2.1, .int isP])), (row, .inl (xI G, 400, .inl row_f)), (trc, .inl (xI G, 30, .inl u3.2.2))] H := hP
        have hD : va_D A [(t, .inr (8, [.ref row, .ref kpt, .int images, .ref errs, .ref bitsOf, .ref sizeOf, .ref cels, .ref broken, .ref isFit, .ref breaks, .int mfit, .int known, .ref act, .ref wth, .ref facts, .ref pile, .int laid, .int hre, .int opnd, .int bad, .int usg, .ref trc, .int u3.2.1, .int isP])), (row, .inl (xI G, 400, .inl row_f)), (trc, .inl (xI G, 30, .inl u3.2.2))] := hD
        refine lv_iadd hx hb dX8_talks_80 ?_
        obtain rfl := Option.some.inj hF
        rw [← hQ]
        exact W.iret (v := (u3.1 + u4)) hx hb hr (fun t ht hW => ⟨⟨_, (), rfl, ⟨rfl, rfl⟩, xLf hP ht⟩, hS.F ht⟩) hS.2.2 dX8_talks_81
      · have hF := itN c6_2 hF
        refine xTab (tgt := 82) hx hb dX8_talks_6 (by have h0 : u1.toInt ≠ 2 := xNe c6_0; have h1 : u1.toInt ≠ 5 := xNe c6_1; have h2 : u1.toInt ≠ 6 := xNe c6_2; rcases (show u1.toInt < 2 ∨ 6 < u1.toInt ∨ u1.toInt = 3 ∨ u1.toInt = 4 by omega) with h | h | h | h; exact Or.inl h; exact Or.inr (Or.inl h); all_goals exact Or.inr (Or.inr (by rw [h]; rfl))) (by decide) ?_
        refine lv_aload_n hx hb dX8_talks_82 rfl (lv_at hl 0 rfl) ?_
        refine lv_iload_n hx hb dX8_talks_83 rfl (lv_at hl 1 rfl) ?_
        refine lv_iload_n hx hb dX8_talks_84 rfl (lv_at hl 2 rfl) ?_
        obtain ⟨u2, e2, hF⟩ := bdS hF
        refine xEndI (xRunV (As := [.int br, .int xx]) (rest := []) hZ (c_X8_plainTalks G t row kpt errs bitsOf sizeOf cels broken isFit breaks act wth facts pile trc images mfit known laid hre opnd bad usg trcd isP row_f trc_f br xx u2 e2 l H.size) m963 m964 m965 m5 m966 2 ⟨rfl, hdX8_plainTalks⟩ ⟨Nat.le_of_ble_eq_true rfl, Nat.le_of_ble_eq_true rfl⟩ ⟨rfl, rfl⟩ hP hD hS 0 8 rfl rfl rfl [0, 1, 2] rfl rfl rfl hl.1 rfl (Nat.le_of_ble_eq_true rfl) dX8_talks_85 ⟨Nat.zero_le _, Nat.zero_le _⟩) hP hD hS hA [0, 1, 2] rfl rfl rfl (fun H locs n2 hP hD hS => ?_)
        have hP : va_P G.1 vwCl [(t, .inr (8, [.ref row, .ref kpt, .int images, .ref errs, .ref bitsOf, .ref sizeOf, .ref cels, .ref broken, .ref isFit, .ref breaks, .int mfit, .int known, .ref act, .ref wth, .ref facts, .ref pile, .int laid, .int hre, .int opnd, .int bad, .int usg, .ref trc, .int u2.2.1, .int isP])), (row, .inl (xI G, 400, .inl row_f)), (trc, .inl (xI G, 30, .inl u2.2.2))] H := hP
        have hD : va_D A [(t, .inr (8, [.ref row, .ref kpt, .int images, .ref errs, .ref bitsOf, .ref sizeOf, .ref cels, .ref broken, .ref isFit, .ref breaks, .int mfit, .int known, .ref act, .ref wth, .ref facts, .ref pile, .int laid, .int hre, .int opnd, .int bad, .int usg, .ref trc, .int u2.2.1, .int isP])), (row, .inl (xI G, 400, .inl row_f)), (trc, .inl (xI G, 30, .inl u2.2.2))] := hD
        obtain rfl := Option.some.inj hF
        rw [← hQ]
        exact W.iret (v := u2.1) hx hb hr (fun t ht hW => ⟨⟨_, (), rfl, ⟨rfl, rfl⟩, xLf hP ht⟩, hS.F ht⟩) hS.2.2 dX8_talks_88
def F_X8_plainHushes (trcd : Int32) (row_f : Nat → Int32) (trc_f : Nat → Int32) (br : Int32) (xx : Int32) : Option (Int32 × Int32 × (Nat → Int32)) := bd (F_X8_begins trcd trc_f (12 : Int32)) (fun (u1 : (Int32 × (Nat → Int32))) => bd (F_X8_talks u1.1 row_f u1.2 br xx) (fun (u2 : (Int32 × Int32 × (Nat → Int32))) => bd (F_X8_of row_f br (1 : Int32)) (fun (u3 : Int32) => some ((u2.1 - u3), u2.2.1, u2.2.2))))
theorem hdX8_plainHushes : yX8_plainHushes.cls ≠ "java/lang/invoke/MethodHandle" ∧ yX8_plainHushes.cls ≠ "java/lang/invoke/VarHandle" ∧ (parseMethodDescriptor yX8_plainHushes.desc).map (fun d => d.parameters.length) = some 2 := by decide +kernel
set_option maxHeartbeats 4000000 in
set_option maxRecDepth 100000 in
theorem c_X8_plainHushes (G : xG) (t : Nat) (row : Nat) (kpt : Nat) (errs : Nat) (bitsOf : Nat) (sizeOf : Nat) (cels : Nat) (broken : Nat) (isFit : Nat) (breaks : Nat) (act : Nat) (wth : Nat) (facts : Nat) (pile : Nat) (trc : Nat) (images : Int32) (mfit : Int32) (known : Int32) (laid : Int32) (hre : Int32) (opnd : Int32) (bad : Int32) (usg : Int32) (trcd : Int32) (isP : Int32) (row_f : Nat → Int32) (trc_f : Nat → Int32) (br : Int32) (xx : Int32)  (u : (Int32 × Int32 × (Nat → Int32))) (hF : F_X8_plainHushes trcd row_f trc_f br xx = some u) : Ki G .int yX8_plainHushes (Cond.code yX8_plainHushes cX8_plainHushes 3 (some .int) :: TBL) { frames := 7, cells := 0, slots := 0, locals := 153 } [.ref t, .int br, .int xx] [(t, .inr (8, [.ref row, .ref kpt, .int images, .ref errs, .ref bitsOf, .ref sizeOf, .ref cels, .ref broken, .ref isFit, .ref breaks, .int mfit, .int known, .ref act, .ref wth, .ref facts, .ref pile, .int laid, .int hre, .int opnd, .int bad, .int usg, .ref trc, .int trcd, .int isP])), (row, .inl (xI G, 400, .inl row_f)), (trc, .inl (xI G, 30, .inl trc_f))] [(t, .inr (8, [.ref row, .ref kpt, .int images, .ref errs, .ref bitsOf, .ref sizeOf, .ref cels, .ref broken, .ref isFit, .ref breaks, .int mfit, .int known, .ref act, .ref wth, .ref facts, .ref pile, .int laid, .int hre, .int opnd, .int bad, .int usg, .ref trc, .int u.2.1, .int isP])), (row, .inl (xI G, 400, .inl row_f)), (trc, .inl (xI G, 30, .inl u.2.2))] u.1 := by
  intro l sz
  refine Met.ofW (cc := cX8_plainHushes) (maxL := 3) (ret := (some .int)) (by decide) rfl ?_
  intro p e s m args below meth c s₁ B hml hv
  obtain ⟨rfl, hsz, hP, hD0, hm⟩ := hv
  have hx := B.exec
  have hb := B.bytes
  have hr := B.returns
  have hts := atoms_spec (ws := Cond.code yX8_plainHushes cX8_plainHushes 3 (some .int) :: TBL) B.pre
  have hown : s.vm.findClass RX8 = some m.cls := findClass_of_methodNamed B.named
  have hlocks := B.notSynchronized
  subst hsz
  have hD := hD0.self (sz := s.heap.size)
  generalize hAe : va_A [(t, .inr (8, [.ref row, .ref kpt, .int images, .ref errs, .ref bitsOf, .ref sizeOf, .ref cels, .ref broken, .ref isFit, .ref breaks, .int mfit, .int known, .ref act, .ref wth, .ref facts, .ref pile, .int laid, .int hre, .int opnd, .int bad, .int usg, .ref trc, .int trcd, .int isP])), (row, .inl (xI G, 400, .inl row_f)), (trc, .inl (xI G, 30, .inl trc_f))] s.heap.size = A at hD hm ⊢
  have hA : ∀ q : Nat, s.heap.size ≤ q → A q := fun q h => by rw [← hAe]; exact Or.inr h
  have hK := hm.1
  have hZ : xAnd p m c cX8_plainHushes 3 s _ (Cond.code yX8_plainHushes cX8_plainHushes 3 (some .int) :: TBL) RX8 G A := ⟨⟨hx, hb, hml, hown, hts⟩, tcons, hA, hm⟩
  have hP : va_P G.1 vwCl [(t, .inr (8, [.ref row, .ref kpt, .int images, .ref errs, .ref bitsOf, .ref sizeOf, .ref cels, .ref broken, .ref isFit, .ref breaks, .int mfit, .int known, .ref act, .ref wth, .ref facts, .ref pile, .int laid, .int hre, .int opnd, .int bad, .int usg, .ref trc, .int trcd, .int isP])), (row, .inl (xI G, 400, .inl row_f)), (trc, .inl (xI G, 30, .inl trc_f))] s.heap := hP
  have hl := lv_entry ([.ref t, .int br, .int xx]) (n := 3) (Nat.le_of_ble_eq_true rfl)
  rw [lg_entry_eq]
  generalize (lg_sl ([.ref t, .int br, .int xx]) ++ List.replicate (3 - (lg_sl ([.ref t, .int br, .int xx])).length) Slot.unset).toArray = ls at hl ⊢
  have hl : lv_has ls 3 [(0, .ref t), (1, .int br), (2, .int xx)] := hl
  generalize hQ : MQ below _ _ s _ _ _ = Q
  refine xGo (A := A) hP (fun H locs hP hS => ?_)
  unfold F_X8_plainHushes at hF
  refine lv_aload_n hx hb dX8_plainHushes_0 rfl (lv_at hl 0 rfl) ?_
  refine lv_bipush (v := 12) hx hb dX8_plainHushes_1 (by decide) ?_
  obtain ⟨u1, e1, hF⟩ := bdS hF
  refine xEndV (xRunV (As := [.int (12 : Int32)]) (rest := []) hZ (c_X8_begins G t row kpt errs bitsOf sizeOf cels broken isFit breaks act wth facts pile trc images mfit known laid hre opnd bad usg trcd isP trc_f (12 : Int32) u1 e1 l H.size) m947 m948 m949 m5 m950 1 ⟨rfl, hdX8_begins⟩ ⟨Nat.le_of_ble_eq_true rfl, Nat.le_of_ble_eq_true rfl⟩ ⟨rfl, rfl⟩ hP hD hS 0 8 rfl rfl rfl [0, 2] rfl rfl rfl hl.1 rfl (Nat.le_of_ble_eq_true rfl) dX8_plainHushes_3 ⟨Nat.zero_le _, Nat.zero_le _⟩) hP hD hS hA [0, 2] rfl rfl rfl (fun H locs hP hD hS => ?_)
  have hP : va_P G.1 vwCl [(t, .inr (8, [.ref row, .ref kpt, .int images, .ref errs, .ref bitsOf, .ref sizeOf, .ref cels, .ref broken, .ref isFit, .ref breaks, .int mfit, .int known, .ref act, .ref wth, .ref facts, .ref pile, .int laid, .int hre, .int opnd, .int bad, .int usg, .ref trc, .int u1.1, .int isP])), (row, .inl (xI G, 400, .inl row_f)), (trc, .inl (xI G, 30, .inl u1.2))] H := hP
  have hD : va_D A [(t, .inr (8, [.ref row, .ref kpt, .int images, .ref errs, .ref bitsOf, .ref sizeOf, .ref cels, .ref broken, .ref isFit, .ref breaks, .int mfit, .int known, .ref act, .ref wth, .ref facts, .ref pile, .int laid, .int hre, .int opnd, .int bad, .int usg, .ref trc, .int u1.1, .int isP])), (row, .inl (xI G, 400, .inl row_f)), (trc, .inl (xI G, 30, .inl u1.2))] := hD
  refine lv_aload_n hx hb dX8_plainHushes_6 rfl (lv_at hl 0 rfl) ?_
  refine lv_iload_n hx hb dX8_plainHushes_7 rfl (lv_at hl 1 rfl) ?_
  refine lv_iload_n hx hb dX8_plainHushes_8 rfl (lv_at hl 2 rfl) ?_
  obtain ⟨u2, e2, hF⟩ := bdS hF
  refine xEndI (xRunV (As := [.int br, .int xx]) (rest := []) hZ (c_X8_talks G t row kpt errs bitsOf sizeOf cels broken isFit breaks act wth facts pile trc images mfit known laid hre opnd bad usg u1.1 isP row_f u1.2 br xx u2 e2 l H.size) m955 m956 m957 m5 m958 2 ⟨rfl, hdX8_talks⟩ ⟨Nat.le_of_ble_eq_true rfl, Nat.le_of_ble_eq_true rfl⟩ ⟨rfl, rfl⟩ hP hD hS 0 8 rfl rfl rfl [0, 1, 2] rfl rfl rfl hl.1 rfl (Nat.le_of_ble_eq_true rfl) dX8_plainHushes_9 ⟨Nat.zero_le _, Nat.zero_le _⟩) hP hD hS hA [0, 1, 2] rfl rfl rfl (fun H locs n2 hP hD hS => ?_)
  have hP : va_P G.1 vwCl [(t, .inr (8, [.ref row, .ref kpt, .int images, .ref errs, .ref bitsOf, .ref sizeOf, .ref cels, .ref broken, .ref isFit, .ref breaks, .int mfit, .int known, .ref act, .ref wth, .ref facts, .ref pile, .int laid, .int hre, .int opnd, .int bad, .int usg, .ref trc, .int u2.2.1, .int isP])), (row, .inl (xI G, 400, .inl row_f)), (trc, .inl (xI G, 30, .inl u2.2.2))] H := hP
  have hD : va_D A [(t, .inr (8, [.ref row, .ref kpt, .int images, .ref errs, .ref bitsOf, .ref sizeOf, .ref cels, .ref broken, .ref isFit, .ref breaks, .int mfit, .int known, .ref act, .ref wth, .ref facts, .ref pile, .int laid, .int hre, .int opnd, .int bad, .int usg, .ref trc, .int u2.2.1, .int isP])), (row, .inl (xI G, 400, .inl row_f)), (trc, .inl (xI G, 30, .inl u2.2.2))] := hD
  refine lv_aload_n hx hb dX8_plainHushes_12 rfl (lv_at hl 0 rfl) ?_
  refine lv_iload_n hx hb dX8_plainHushes_13 rfl (lv_at hl 1 rfl) ?_
  refine lv_iconst (v := 1) hx hb dX8_plainHushes_14 (by decide) ?_
  obtain ⟨u3, e3, hF⟩ := bdS hF
  refine xEndI (xRunV (As := [.int br, .int (1 : Int32)]) (rest := [.int u2.1]) hZ (c_X8_of G t row kpt errs bitsOf sizeOf cels broken isFit breaks act wth facts pile trc images mfit known laid hre opnd bad usg u2.2.1 isP row_f br (1 : Int32) u3 e3 l H.size) m291 m292 m293 m5 m294 2 ⟨rfl, hdX8_of⟩ ⟨Nat.le_of_ble_eq_true rfl, Nat.le_of_ble_eq_true rfl⟩ ⟨rfl, rfl⟩ hP hD hS 0 8 rfl rfl rfl [0, 1] rfl rfl rfl hl.1 rfl (Nat.le_of_ble_eq_true rfl) dX8_plainHushes_15 ⟨Nat.zero_le _, Nat.zero_le _⟩) hP hD hS hA [0, 1] rfl rfl rfl (fun H locs n3 hP hD hS => ?_)
  have hP : va_P G.1 vwCl [(t, .inr (8, [.ref row, .ref kpt, .int images, .ref errs, .ref bitsOf, .ref sizeOf, .ref cels, .ref broken, .ref isFit, .ref breaks, .int mfit, .int known, .ref act, .ref wth, .ref facts, .ref pile, .int laid, .int hre, .int opnd, .int bad, .int usg, .ref trc, .int u2.2.1, .int isP])), (row, .inl (xI G, 400, .inl row_f)), (trc, .inl (xI G, 30, .inl u2.2.2))] H := hP
  have hD : va_D A [(t, .inr (8, [.ref row, .ref kpt, .int images, .ref errs, .ref bitsOf, .ref sizeOf, .ref cels, .ref broken, .ref isFit, .ref breaks, .int mfit, .int known, .ref act, .ref wth, .ref facts, .ref pile, .int laid, .int hre, .int opnd, .int bad, .int usg, .ref trc, .int u2.2.1, .int isP])), (row, .inl (xI G, 400, .inl row_f)), (trc, .inl (xI G, 30, .inl u2.2.2))] := hD
  refine lv_isub hx hb dX8_plainHushes_18 ?_
  obtain rfl := Option.some.inj hF
  rw [← hQ]
  exact W.iret (v := (u2.1 - u3)) hx hb hr (fun t ht hW => ⟨⟨_, (), rfl, ⟨rfl, rfl⟩, xLf hP ht⟩, hS.F ht⟩) hS.2.2 dX8_plainHushes_19
def F_X8_hushes (trcd : Int32) (row_f : Nat → Int32) (trc_f : Nat → Int32) (br : Int32) (xx : Int32) : Option (Int32 × Int32 × (Nat → Int32)) := bd (F_X8_of row_f br (0 : Int32)) (fun (u1 : Int32) => if u1 = (3 : Int32) then (bd (F_X8_begins trcd trc_f (40 : Int32)) (fun (u2 : (Int32 × (Nat → Int32))) => bd (F_X8_plainHushes u2.1 row_f u2.2 br (xx / (2 : Int32))) (fun (u3 : (Int32 × Int32 × (Nat → Int32))) => some (u3.1, u3.2.1, u3.2.2)))) else (if u1 = (4 : Int32) then (bd (F_X8_begins trcd trc_f (51 : Int32)) (fun (u2 : (Int32 × (Nat → Int32))) => bd (F_X8_plainHushes u2.1 row_f u2.2 br xx) (fun (u3 : (Int32 × Int32 × (Nat → Int32))) => some ((u3.1 ^^^ br), u3.2.1, u3.2.2)))) else (bd (F_X8_plainHushes trcd row_f trc_f br xx) (fun (u2 : (Int32 × Int32 × (Nat → Int32))) => some (u2.1, u2.2.1, u2.2.2)))))
theorem hdX8_hushes : yX8_hushes.cls ≠ "java/lang/invoke/MethodHandle" ∧ yX8_hushes.cls ≠ "java/lang/invoke/VarHandle" ∧ (parseMethodDescriptor yX8_hushes.desc).map (fun d => d.parameters.length) = some 2 := by decide +kernel
set_option maxHeartbeats 4000000 in
set_option maxRecDepth 100000 in
theorem c_X8_hushes (G : xG) (t : Nat) (row : Nat) (kpt : Nat) (errs : Nat) (bitsOf : Nat) (sizeOf : Nat) (cels : Nat) (broken : Nat) (isFit : Nat) (breaks : Nat) (act : Nat) (wth : Nat) (facts : Nat) (pile : Nat) (trc : Nat) (images : Int32) (mfit : Int32) (known : Int32) (laid : Int32) (hre : Int32) (opnd : Int32) (bad : Int32) (usg : Int32) (trcd : Int32) (isP : Int32) (row_f : Nat → Int32) (trc_f : Nat → Int32) (br : Int32) (xx : Int32)  (u : (Int32 × Int32 × (Nat → Int32))) (hF : F_X8_hushes trcd row_f trc_f br xx = some u) : Ki G .int yX8_hushes (Cond.code yX8_hushes cX8_hushes 3 (some .int) :: TBL) { frames := 8, cells := 0, slots := 0, locals := 175 } [.ref t, .int br, .int xx] [(t, .inr (8, [.ref row, .ref kpt, .int images, .ref errs, .ref bitsOf, .ref sizeOf, .ref cels, .ref broken, .ref isFit, .ref breaks, .int mfit, .int known, .ref act, .ref wth, .ref facts, .ref pile, .int laid, .int hre, .int opnd, .int bad, .int usg, .ref trc, .int trcd, .int isP])), (row, .inl (xI G, 400, .inl row_f)), (trc, .inl (xI G, 30, .inl trc_f))] [(t, .inr (8, [.ref row, .ref kpt, .int images, .ref errs, .ref bitsOf, .ref sizeOf, .ref cels, .ref broken, .ref isFit, .ref breaks, .int mfit, .int known, .ref act, .ref wth, .ref facts, .ref pile, .int laid, .int hre, .int opnd, .int bad, .int usg, .ref trc, .int u.2.1, .int isP])), (row, .inl (xI G, 400, .inl row_f)), (trc, .inl (xI G, 30, .inl u.2.2))] u.1 := by
  intro l sz
  refine Met.ofW (cc := cX8_hushes) (maxL := 3) (ret := (some .int)) (by decide) rfl ?_
  intro p e s m args below meth c s₁ B hml hv
  obtain ⟨rfl, hsz, hP, hD0, hm⟩ := hv
  have hx := B.exec
  have hb := B.bytes
  have hr := B.returns
  have hts := atoms_spec (ws := Cond.code yX8_hushes cX8_hushes 3 (some .int) :: TBL) B.pre
  have hown : s.vm.findClass RX8 = some m.cls := findClass_of_methodNamed B.named
  have hlocks := B.notSynchronized
  subst hsz
  have hD := hD0.self (sz := s.heap.size)
  generalize hAe : va_A [(t, .inr (8, [.ref row, .ref kpt, .int images, .ref errs, .ref bitsOf, .ref sizeOf, .ref cels, .ref broken, .ref isFit, .ref breaks, .int mfit, .int known, .ref act, .ref wth, .ref facts, .ref pile, .int laid, .int hre, .int opnd, .int bad, .int usg, .ref trc, .int trcd, .int isP])), (row, .inl (xI G, 400, .inl row_f)), (trc, .inl (xI G, 30, .inl trc_f))] s.heap.size = A at hD hm ⊢
  have hA : ∀ q : Nat, s.heap.size ≤ q → A q := fun q h => by rw [← hAe]; exact Or.inr h
  have hK := hm.1
  have hZ : xAnd p m c cX8_hushes 3 s _ (Cond.code yX8_hushes cX8_hushes 3 (some .int) :: TBL) RX8 G A := ⟨⟨hx, hb, hml, hown, hts⟩, tcons, hA, hm⟩
  have hP : va_P G.1 vwCl [(t, .inr (8, [.ref row, .ref kpt, .int images, .ref errs, .ref bitsOf, .ref sizeOf, .ref cels, .ref broken, .ref isFit, .ref breaks, .int mfit, .int known, .ref act, .ref wth, .ref facts, .ref pile, .int laid, .int hre, .int opnd, .int bad, .int usg, .ref trc, .int trcd, .int isP])), (row, .inl (xI G, 400, .inl row_f)), (trc, .inl (xI G, 30, .inl trc_f))] s.heap := hP
  have hl := lv_entry ([.ref t, .int br, .int xx]) (n := 3) (Nat.le_of_ble_eq_true rfl)
  rw [lg_entry_eq]
  generalize (lg_sl ([.ref t, .int br, .int xx]) ++ List.replicate (3 - (lg_sl ([.ref t, .int br, .int xx])).length) Slot.unset).toArray = ls at hl ⊢
  have hl : lv_has ls 3 [(0, .ref t), (1, .int br), (2, .int xx)] := hl
  generalize hQ : MQ below _ _ s _ _ _ = Q
  refine xGo (A := A) hP (fun H locs hP hS => ?_)
  unfold F_X8_hushes at hF
  refine lv_aload_n hx hb dX8_hushes_0 rfl (lv_at hl 0 rfl) ?_
  refine lv_iload_n hx hb dX8_hushes_1 rfl (lv_at hl 1 rfl) ?_
  refine lv_iconst (v := 0) hx hb dX8_hushes_2 (by decide) ?_
  obtain ⟨u1, e1, hF⟩ := bdS hF
  refine xEndI (xRunV (As := [.int br, .int (0 : Int32)]) (rest := []) hZ (c_X8_of G t row kpt errs bitsOf sizeOf cels broken isFit breaks act wth facts pile trc images mfit known laid hre opnd bad usg trcd isP row_f br (0 : Int32) u1 e1 l H.size) m291 m292 m293 m5 m294 2 ⟨rfl, hdX8_of⟩ ⟨Nat.le_of_ble_eq_true rfl, Nat.le_of_ble_eq_true rfl⟩ ⟨rfl, rfl⟩ hP hD hS 0 8 rfl rfl rfl [0, 1] rfl rfl rfl hl.1 rfl (Nat.le_of_ble_eq_true rfl) dX8_hushes_3 ⟨Nat.zero_le _, Nat.zero_le _⟩) hP hD hS hA [0, 1] rfl rfl rfl (fun H locs n1 hP hD hS => ?_)
  have hP : va_P G.1 vwCl [(t, .inr (8, [.ref row, .ref kpt, .int images, .ref errs, .ref bitsOf, .ref sizeOf, .ref cels, .ref broken, .ref isFit, .ref breaks, .int mfit, .int known, .ref act, .ref wth, .ref facts, .ref pile, .int laid, .int hre, .int opnd, .int bad, .int usg, .ref trc, .int trcd, .int isP])), (row, .inl (xI G, 400, .inl row_f)), (trc, .inl (xI G, 30, .inl trc_f))] H := hP
  have hD : va_D A [(t, .inr (8, [.ref row, .ref kpt, .int images, .ref errs, .ref bitsOf, .ref sizeOf, .ref cels, .ref broken, .ref isFit, .ref breaks, .int mfit, .int known, .ref act, .ref wth, .ref facts, .ref pile, .int laid, .int hre, .int opnd, .int bad, .int usg, .ref trc, .int trcd, .int isP])), (row, .inl (xI G, 400, .inl row_f)), (trc, .inl (xI G, 30, .inl trc_f))] := hD
  by_cases c6_0 : u1 = (3 : Int32)
  · have hF := itP c6_0 hF
    refine lv_lookup (off := 26) (tgt := 32) hx hb dX8_hushes_6 (by decide) (by rw [c6_0]; rfl) (by decide) ?_
    refine lv_aload_n hx hb dX8_hushes_32 rfl (lv_at hl 0 rfl) ?_
    refine lv_bipush (v := 40) hx hb dX8_hushes_33 (by decide) ?_
    obtain ⟨u2, e2, hF⟩ := bdS hF
    refine xEndV (xRunV (As := [.int (40 : Int32)]) (rest := []) hZ (c_X8_begins G t row kpt errs bitsOf sizeOf cels broken isFit breaks act wth facts pile trc images mfit known laid hre opnd bad usg trcd isP trc_f (40 : Int32) u2 e2 l H.size) m947 m948 m949 m5 m950 1 ⟨rfl, hdX8_begins⟩ ⟨Nat.le_of_ble_eq_true rfl, Nat.le_of_ble_eq_true rfl⟩ ⟨rfl, rfl⟩ hP hD hS 0 8 rfl rfl rfl [0, 2] rfl rfl rfl hl.1 rfl (Nat.le_of_ble_eq_true rfl) dX8_hushes_35 ⟨Nat.zero_le _, Nat.zero_le _⟩) hP hD hS hA [0, 2] rfl rfl rfl (fun H locs hP hD hS => ?_)
    have hP : va_P G.1 vwCl [(t, .inr (8, [.ref row, .ref kpt, .int images, .ref errs, .ref bitsOf, .ref sizeOf, .ref cels, .ref broken, .ref isFit, .ref breaks, .int mfit, .int known, .ref act, .ref wth, .ref facts, .ref pile, .int laid, .int hre, .int opnd, .int bad, .int usg, .ref trc, .int u2.1, .int isP])), (row, .inl (xI G, 400, .inl row_f)), (trc, .inl (xI G, 30, .inl u2.2))] H := hP
    have hD : va_D A [(t, .inr (8, [.ref row, .ref kpt, .int images, .ref errs, .ref bitsOf, .ref sizeOf, .ref cels, .ref broken, .ref isFit, .ref breaks, .int mfit, .int known, .ref act, .ref wth, .ref facts, .ref pile, .int laid, .int hre, .int opnd, .int bad, .int usg, .ref trc, .int u2.1, .int isP])), (row, .inl (xI G, 400, .inl row_f)), (trc, .inl (xI G, 30, .inl u2.2))] := hD
    refine lv_aload_n hx hb dX8_hushes_38 rfl (lv_at hl 0 rfl) ?_
    refine lv_iload_n hx hb dX8_hushes_39 rfl (lv_at hl 1 rfl) ?_
    refine lv_iload_n hx hb dX8_hushes_40 rfl (lv_at hl 2 rfl) ?_
    refine lv_iconst (v := 2) hx hb dX8_hushes_41 (by decide) ?_
    refine lv_idiv hx hb dX8_hushes_42 (by decide) ?_
    obtain ⟨u3, e3, hF⟩ := bdS hF
    refine xEndI (xRunV (As := [.int br, .int (xx / (2 : Int32))]) (rest := []) hZ (c_X8_plainHushes G t row kpt errs bitsOf sizeOf cels broken isFit breaks act wth facts pile trc images mfit known laid hre opnd bad usg u2.1 isP row_f u2.2 br (xx / (2 : Int32)) u3 e3 l H.size) m971 m972 m973 m5 m974 2 ⟨rfl, hdX8_plainHushes⟩ ⟨Nat.le_of_ble_eq_true rfl, Nat.le_of_ble_eq_true rfl⟩ ⟨rfl, rfl⟩ hP hD hS 0 8 rfl rfl rfl [0, 1, 2] rfl rfl rfl hl.1 rfl (Nat.le_of_ble_eq_true rfl) dX8_hushes_43 ⟨Nat.zero_le _, Nat.zero_le _⟩) hP hD hS hA [0, 1, 2] rfl rfl rfl (fun H locs n3 hP hD hS => ?_)
    have hP : va_P G.1 vwCl [(t, .inr (8, [.ref row, .ref kpt, .int images, .ref errs, .ref bitsOf, .ref sizeOf, .ref cels, .ref broken, .ref isFit, .ref breaks, .int mfit, .int known, .ref act, .ref wth, .ref facts, .ref pile, .int laid, .int hre, .int opnd, .int bad, .int usg, .ref trc, .int u3.2.1, .int isP])), (row, .inl (xI G, 400, .inl row_f)), (trc, .inl (xI G, 30, .inl u3.2.2))] H := hP
    have hD : va_D A [(t, .inr (8, [.ref row, .ref kpt, .int images, .ref errs, .ref bitsOf, .ref sizeOf, .ref cels, .ref broken, .ref isFit, .ref breaks, .int mfit, .int known, .ref act, .ref wth, .ref facts, .ref pile, .int laid, .int hre, .int opnd, .int bad, .int usg, .ref trc, .int u3.2.1, .int isP])), (row, .inl (xI G, 400, .inl row_f)), (trc, .inl (xI G, 30, .inl u3.2.2))] := hD
    obtain rfl := Option.some.inj hF
    rw [← hQ]
    exact W.iret (v := u3.1) hx hb hr (fun t ht hW => ⟨⟨_, (), rfl, ⟨rfl, rfl⟩, xLf hP ht⟩, hS.F ht⟩) hS.2.2 dX8_hushes_46
  · have hF := itN c6_0 hF
    by_cases c6_1 : u1 = (4 : Int32)
    · have hF := itP c6_1 hF
      refine lv_lookup (off := 41) (tgt := 47) hx hb dX8_hushes_6 (by decide) (by rw [c6_1]; rfl) (by decide) ?_
      refine lv_aload_n hx hb dX8_hushes_47 rfl (lv_at hl 0 rfl) ?_
      refine lv_bipush (v := 51) hx hb dX8_hushes_48 (by decide) ?_
      obtain ⟨u2, e2, hF⟩ := bdS hF
      refine xEndV (xRunV (As := [.int (51 : Int32)]) (rest := []) hZ (c_X8_begins G t row kpt errs bitsOf sizeOf cels broken isFit breaks act wth facts pile trc images mfit known laid hre opnd bad usg trcd isP trc_f (51 : Int32) u2 e2 l H.size) m947 m948 m949 m5 m950 1 ⟨rfl, hdX8_begins⟩ ⟨Nat.le_of_ble_eq_true rfl, Nat.le_of_ble_eq_true rfl⟩ ⟨rfl, rfl⟩ hP hD hS 0 8 rfl rfl rfl [0, 2] rfl rfl rfl hl.1 rfl (Nat.le_of_ble_eq_true rfl) dX8_hushes_50 ⟨Nat.zero_le _, Nat.zero_le _⟩) hP hD hS hA [0, 2] rfl rfl rfl (fun H locs hP hD hS => ?_)
      have hP : va_P G.1 vwCl [(t, .inr (8, [.ref row, .ref kpt, .int images, .ref errs, .ref bitsOf, .ref sizeOf, .ref cels, .ref broken, .ref isFit, .ref breaks, .int mfit, .int known, .ref act, .ref wth, .ref facts, .ref pile, .int laid, .int hre, .int opnd, .int bad, .int usg, .ref trc, .int u2.1, .int isP])), (row, .inl (xI G, 400, .inl row_f)), (trc, .inl (xI G, 30, .inl u2.2))] H := hP
      have hD : va_D A [(t, .inr (8, [.ref row, .ref kpt, .int images, .ref errs, .ref bitsOf, .ref sizeOf, .ref cels, .ref broken, .ref isFit, .ref breaks, .int mfit, .int known, .ref act, .ref wth, .ref facts, .ref pile, .int laid, .int hre, .int opnd, .int bad, .int usg, .ref trc, .int u2.1, .int isP])), (row, .inl (xI G, 400, .inl row_f)), (trc, .inl (xI G, 30, .inl u2.2))] := hD
      refine lv_aload_n hx hb dX8_hushes_53 rfl (lv_at hl 0 rfl) ?_
      refine lv_iload_n hx hb dX8_hushes_54 rfl (lv_at hl 1 rfl) ?_
      refine lv_iload_n hx hb dX8_hushes_55 rfl (lv_at hl 2 rfl) ?_
      obtain ⟨u3, e3, hF⟩ := bdS hF
      refine xEndI (xRunV (As := [.int br, .int xx]) (rest := []) hZ (c_X8_plainHushes G t row kpt errs bitsOf sizeOf cels broken isFit breaks act wth facts pile trc images mfit known laid hre opnd bad usg u2.1 isP row_f u2.2 br xx u3 e3 l H.size) m971 m972 m973 m5 m974 2 ⟨rfl, hdX8_plainHushes⟩ ⟨Nat.le_of_ble_eq_true rfl, Nat.le_of_ble_eq_true rfl⟩ ⟨rfl, rfl⟩ hP hD hS 0 8 rfl rfl rfl [0, 1, 2] rfl rfl rfl hl.1 rfl (Nat.le_of_ble_eq_true rfl) dX8_hushes_56 ⟨Nat.zero_le _, Nat.zero_le _⟩) hP hD hS hA [0, 1, 2] rfl rfl rfl (fun H locs n3 hP hD hS => ?_)
      have hP : va_P G.1 vwCl [(t, .inr (8, [.ref row, .ref kpt, .int images, .ref errs, .ref bitsOf, .ref sizeOf, .ref cels, .ref broken, .ref isFit, .ref breaks, .int mfit, .int known, .ref act, .ref wth, .ref facts, .ref pile, .int laid, .int hre, .int opnd, .int bad, .int usg, .ref trc, .int u3.2.1, .int isP])), (row, .inl (xI G, 400, .inl row_f)), (trc, .inl (xI G, 30, .inl u3.2.2))] H := hP
      have hD : va_D A [(t, .inr (8, [.ref row, .ref kpt, .int images, .ref errs, .ref bitsOf, .ref sizeOf, .ref cels, .ref broken, .ref isFit, .ref breaks, .int mfit, .int known, .ref act, .ref wth, .ref facts, .ref pile, .int laid, .int hre, .int opnd, .int bad, .int usg, .ref trc, .int u3.2.1, .int isP])), (row, .inl (xI G, 400, .inl row_f)), (trc, .inl (xI G, 30, .inl u3.2.2))] := hD
      refine lv_iload_n hx hb dX8_hushes_59 rfl (lv_at hl 1 rfl) ?_
      refine lv_ixor hx hb dX8_hushes_60 ?_
      obtain rfl := Option.some.inj hF
      rw [← hQ]
      exact W.iret (v := (u3.1 ^^^ br)) hx hb hr (fun t ht hW => ⟨⟨_, (), rfl, ⟨rfl, rfl⟩, xLf hP ht⟩, hS.F ht⟩) hS.2.2 dX8_hushes_61
    · have hF := itN c6_1 hF
      refine lv_lookup (off := 56) (tgt := 62) hx hb dX8_hushes_6 (by decide) (by have h0 : u1.toInt ≠ 3 := xNe c6_0; have h1 : u1.toInt ≠ 4 := xNe c6_1; show Op.lookupswitch.offset [(3, 26), (4, 41)] 56 u1.toInt = 56; rw [Op.lookupswitch.offset_cons, if_neg (Ne.symm h0), Op.lookupswitch.offset_cons, if_neg (Ne.symm h1)]; rfl) (by decide) ?_
      refine lv_aload_n hx hb dX8_hushes_62 rfl (lv_at hl 0 rfl) ?_
      refine lv_iload_n hx hb dX8_hushes_63 rfl (lv_at hl 1 rfl) ?_
      refine lv_iload_n hx hb dX8_hushes_64 rfl (lv_at hl 2 rfl) ?_
      obtain ⟨u2, e2, hF⟩ := bdS hF
      refine xEndI (xRunV (As := [.int br, .int xx]) (rest := []) hZ (c_X8_plainHushes G t row kpt errs bitsOf sizeOf cels broken isFit breaks act wth facts pile trc images mfit known laid hre opnd bad usg trcd isP row_f trc_f br xx u2 e2 l H.size) m971 m972 m973 m5 m974 2 ⟨rfl, hdX8_plainHushes⟩ ⟨Nat.le_of_ble_eq_true rfl, Nat.le_of_ble_eq_true rfl⟩ ⟨rfl, rfl⟩ hP hD hS 0 8 rfl rfl rfl [0, 1, 2] rfl rfl rfl hl.1 rfl (Nat.le_of_ble_eq_true rfl) dX8_hushes_65 ⟨Nat.zero_le _, Nat.zero_le _⟩) hP hD hS hA [0, 1, 2] rfl rfl rfl (fun H locs n2 hP hD hS => ?_)
      have hP : va_P G.1 vwCl [(t, .inr (8, [.ref row, .ref kpt, .int images, .ref errs, .ref bitsOf, .ref sizeOf, .ref cels, .ref broken, .ref isFit, .ref breaks, .int mfit, .int known, .ref act, .ref wth, .ref facts, .ref pile, .int laid, .int hre, .int opnd, .int bad, .int usg, .ref trc, .int u2.2.1, .int isP])), (row, .inl (xI G, 400, .inl row_f)), (trc, .inl (xI G, 30, .inl u2.2.2))] H := hP
      have hD : va_D A [(t, .inr (8, [.ref row, .ref kpt, .int images, .ref errs, .ref bitsOf, .ref sizeOf, .ref cels, .ref broken, .ref isFit, .ref breaks, .int mfit, .int known, .ref act, .ref wth, .ref facts, .ref pile, .int laid, .int hre, .int opnd, .int bad, .int usg, .ref trc, .int u2.2.1, .int isP])), (row, .inl (xI G, 400, .inl row_f)), (trc, .inl (xI G, 30, .inl u2.2.2))] := hD
      obtain rfl := Option.some.inj hF
      rw [← hQ]
      exact W.iret (v := u2.1) hx hb hr (fun t ht hW => ⟨⟨_, (), rfl, ⟨rfl, rfl⟩, xLf hP ht⟩, hS.F ht⟩) hS.2.2 dX8_hushes_68
def F_X8_plainParts (trcd : Int32) (row_f : Nat → Int32) (trc_f : Nat → Int32) (br : Int32) (xx : Int32) : Option (Int32 × Int32 × Int32 × (Nat → Int32)) := bd (F_X8_begins trcd trc_f (13 : Int32)) (fun (u1 : (Int32 × (Nat → Int32))) => bd (F_X8_of row_f br (1 : Int32)) (fun (u2 : Int32) => if (u2 - br) = 0 then (some ((0 : Int32), u1.1, (1 : Int32), u1.2)) else (if (u2 - br) = 0 then none else (some ((xx / (u2 - br)), u1.1, (0 : Int32), u1.2)))))
theorem hdX8_plainParts : yX8_plainParts.cls ≠ "java/lang/invoke/MethodHandle" ∧ yX8_plainParts.cls ≠ "java/lang/invoke/VarHandle" ∧ (parseMethodDescriptor yX8_plainParts.desc).map (fun d => d.parameters.length) = some 2 := by decide +kernel
set_option maxHeartbeats 4000000 in
set_option maxRecDepth 100000 in
theorem c_X8_plainParts (G : xG) (t : Nat) (row : Nat) (kpt : Nat) (errs : Nat) (bitsOf : Nat) (sizeOf : Nat) (cels : Nat) (broken : Nat) (isFit : Nat) (breaks : Nat) (act : Nat) (wth : Nat) (facts : Nat) (pile : Nat) (trc : Nat) (images : Int32) (mfit : Int32) (known : Int32) (laid : Int32) (hre : Int32) (opnd : Int32) (bad : Int32) (usg : Int32) (trcd : Int32) (isP : Int32) (row_f : Nat → Int32) (trc_f : Nat → Int32) (br : Int32) (xx : Int32)  (u : (Int32 × Int32 × Int32 × (Nat → Int32))) (hF : F_X8_plainParts trcd row_f trc_f br xx = some u) : Ki G .int yX8_plainParts (Cond.code yX8_plainParts cX8_plainParts 4 (some .int) :: TBL) { frames := 1, cells := 0, slots := 0, locals := 22 } [.ref t, .int br, .int xx] [(t, .inr (8, [.ref row, .ref kpt, .int images, .ref errs, .ref bitsOf, .ref sizeOf, .ref cels, .ref broken, .ref isFit, .ref breaks, .int mfit, .int known, .ref act, .ref wth, .ref facts, .ref pile, .int laid, .int hre, .int opnd, .int bad, .int usg, .ref trc, .int trcd, .int isP])), (row, .inl (xI G, 400, .inl row_f)), (trc, .inl (xI G, 30, .inl trc_f))] [(t, .inr (8, [.ref row, .ref kpt, .int images, .ref errs, .ref bitsOf, .ref sizeOf, .ref cels, .ref broken, .ref isFit, .ref breaks, .int mfit, .int known, .ref act, .ref wth, .ref facts, .ref pile, .int laid, .int hre, .int opnd, .int bad, .int usg, .ref trc, .int u.2.1, .int u.2.2.1])), (row, .inl (xI G, 400, .inl row_f)), (trc, .inl (xI G, 30, .inl u.2.2.2))] u.1 := by
  intro l sz
  refine Met.ofW (cc := cX8_plainParts) (maxL := 4) (ret := (some .int)) (by decide) rfl ?_
  intro p e s m args below meth c s₁ B hml hv
  obtain ⟨rfl, hsz, hP, hD0, hm⟩ := hv
  have hx := B.exec
  have hb := B.bytes
  have hr := B.returns
  have hts := atoms_spec (ws := Cond.code yX8_plainParts cX8_plainParts 4 (some .int) :: TBL) B.pre
  have hown : s.vm.findClass RX8 = some m.cls := findClass_of_methodNamed B.named
  have hlocks := B.notSynchronized
  subst hsz
  have hD := hD0.self (sz := s.heap.size)
  generalize hAe : va_A [(t, .inr (8, [.ref row, .ref kpt, .int images, .ref errs, .ref bitsOf, .ref sizeOf, .ref cels, .ref broken, .ref isFit, .ref breaks, .int mfit, .int known, .ref act, .ref wth, .ref facts, .ref pile, .int laid, .int hre, .int opnd, .int bad, .int usg, .ref trc, .int trcd, .int isP])), (row, .inl (xI G, 400, .inl row_f)), (trc, .inl (xI G, 30, .inl trc_f))] s.heap.size = A at hD hm ⊢
  have hA : ∀ q : Nat, s.heap.size ≤ q → A q := fun q h => by rw [← hAe]; exact Or.inr h
  have hK := hm.1
  have hZ : xAnd p m c cX8_plainParts 4 s _ (Cond.code yX8_plainParts cX8_plainParts 4 (some .int) :: TBL) RX8 G A := ⟨⟨hx, hb, hml, hown, hts⟩, tcons, hA, hm⟩
  have hP : va_P G.1 vwCl [(t, .inr (8, [.ref row, .ref kpt, .int images, .ref errs, .ref bitsOf, .ref sizeOf, .ref cels, .ref broken, .ref isFit, .ref breaks, .int mfit, .int known, .ref act, .ref wth, .ref facts, .ref pile, .int laid, .int hre, .int opnd, .int bad, .int usg, .ref trc, .int trcd, .int isP])), (row, .inl (xI G, 400, .inl row_f)), (trc, .inl (xI G, 30, .inl trc_f))] s.heap := hP
  have hl := lv_entry ([.ref t, .int br, .int xx]) (n := 4) (Nat.le_of_ble_eq_true rfl)
  rw [lg_entry_eq]
  generalize (lg_sl ([.ref t, .int br, .int xx]) ++ List.replicate (4 - (lg_sl ([.ref t, .int br, .int xx])).length) Slot.unset).toArray = ls at hl ⊢
  have hl : lv_has ls 4 [(0, .ref t), (1, .int br), (2, .int xx)] := hl
  generalize hQ : MQ below _ _ s _ _ _ = Q
  refine xGo (A := A) hP (fun H locs hP hS => ?_)
  unfold F_X8_plainParts at hF
  refine lv_aload_n hx hb dX8_plainParts_0 rfl (lv_at hl 0 rfl) ?_
  refine lv_bipush (v := 13) hx hb dX8_plainParts_1 (by decide) ?_
  obtain ⟨u1, e1, hF⟩ := bdS hF
  refine xEndV (xRunV (As := [.int (13 : Int32)]) (rest := []) hZ (c_X8_begins G t row kpt errs bitsOf sizeOf cels broken isFit breaks act wth facts pile trc images mfit known laid hre opnd bad usg trcd isP trc_f (13 : Int32) u1 e1 l H.size) m947 m948 m949 m5 m950 1 ⟨rfl, hdX8_begins⟩ ⟨Nat.le_of_ble_eq_true rfl, Nat.le_of_ble_eq_true rfl⟩ ⟨rfl, rfl⟩ hP hD hS 0 8 rfl rfl rfl [0, 2] rfl rfl rfl hl.1 rfl (Nat.le_of_ble_eq_true rfl) dX8_plainParts_3 ⟨Nat.zero_le _, Nat.zero_le _⟩) hP hD hS hA [0, 2] rfl rfl rfl (fun H locs hP hD hS => ?_)
  have hP : va_P G.1 vwCl [(t, .inr (8, [.ref row, .ref kpt, .int images, .ref errs, .ref bitsOf, .ref sizeOf, .ref cels, .ref broken, .ref isFit, .ref breaks, .int mfit, .int known, .ref act, .ref wth, .ref facts, .ref pile, .int laid, .int hre, .int opnd, .int bad, .int usg, .ref trc, .int u1.1, .int isP])), (row, .inl (xI G, 400, .inl row_f)), (trc, .inl (xI G, 30, .inl u1.2))] H := hP
  have hD : va_D A [(t, .inr (8, [.ref row, .ref kpt, .int images, .ref errs, .ref bitsOf, .ref sizeOf, .ref cels, .ref broken, .ref isFit, .ref breaks, .int mfit, .int known, .ref act, .ref wth, .ref facts, .ref pile, .int laid, .int hre, .int opnd, .int bad, .int usg, .ref trc, .int u1.1, .int isP])), (row, .inl (xI G, 400, .inl row_f)), (trc, .inl (xI G, 30, .inl u1.2))] := hD
  refine lv_aload_n hx hb dX8_plainParts_6 rfl (lv_at hl 0 rfl) ?_
  refine lv_iload_n hx hb dX8_plainParts_7 rfl (lv_at hl 1 rfl) ?_
  refine lv_iconst (v := 1) hx hb dX8_plainParts_8 (by decide) ?_
  obtain ⟨u2, e2, hF⟩ := bdS hF
  refine xEndI (xRunV (As := [.int br, .int (1 : Int32)]) (rest := []) hZ (c_X8_of G t row kpt errs bitsOf sizeOf cels broken isFit breaks act wth facts pile trc images mfit known laid hre opnd bad usg u1.1 isP row_f br (1 : Int32) u2 e2 l H.size) m291 m292 m293 m5 m294 2 ⟨rfl, hdX8_of⟩ ⟨Nat.le_of_ble_eq_true rfl, Nat.le_of_ble_eq_true rfl⟩ ⟨rfl, rfl⟩ hP hD hS 0 8 rfl rfl rfl [0, 1] rfl rfl rfl hl.1 rfl (Nat.le_of_ble_eq_true rfl) dX8_plainParts_9 ⟨Nat.zero_le _, Nat.zero_le _⟩) hP hD hS hA [0, 1] rfl rfl rfl (fun H locs n2 hP hD hS => ?_)
  have hP : va_P G.1 vwCl [(t, .inr (8, [.ref row, .ref kpt, .int images, .ref errs, .ref bitsOf, .ref sizeOf, .ref cels, .ref broken, .ref isFit, .ref breaks, .int mfit, .int known, .ref act, .ref wth, .ref facts, .ref pile, .int laid, .int hre, .int opnd, .int bad, .int usg, .ref trc, .int u1.1, .int isP])), (row, .inl (xI G, 400, .inl row_f)), (trc, .inl (xI G, 30, .inl u1.2))] H := hP
  have hD : va_D A [(t, .inr (8, [.ref row, .ref kpt, .int images, .ref errs, .ref bitsOf, .ref sizeOf, .ref cels, .ref broken, .ref isFit, .ref breaks, .int mfit, .int known, .ref act, .ref wth, .ref facts, .ref pile, .int laid, .int hre, .int opnd, .int bad, .int usg, .ref trc, .int u1.1, .int isP])), (row, .inl (xI G, 400, .inl row_f)), (trc, .inl (xI G, 30, .inl u1.2))] := hD
  refine lv_iload_n hx hb dX8_plainParts_12 rfl (lv_at hl 1 rfl) ?_
  refine lv_isub hx hb dX8_plainParts_13 ?_
  refine lv_istore_n (lv' := [(3, .int (u2 - br)), (0, .ref t), (1, .int br), (2, .int xx)]) hx hb dX8_plainParts_14 rfl hl (by decide) rfl (fun ls hl => ?_)
  refine lv_aload_n hx hb dX8_plainParts_15 rfl (lv_at hl 1 rfl) ?_
  refine lv_iload_n hx hb dX8_plainParts_16 rfl (lv_at hl 0 rfl) ?_
  refine lv_if_ne (tgt := 24) hx hb dX8_plainParts_17 (by decide) (fun c17 => ?_) (fun c17 => ?_)
  · have hF := itN c17 hF
    refine lv_iconst (v := 0) hx hb dX8_plainParts_24 (by decide) ?_
    refine va_put (ci := 8) (v := .int (0 : Int32)) (ty := .boolean) (C := RX8) (T := TX8) (N := 24) hx hb hts (fun w h => tcons w (xin8 w h)) tyX8 tyX8_ok nmX8 hown hK hP hD hS 0 rfl rfl 23 (by decide) (hts _ (tcons _ m937)) (fun _ h9 => h9) rfl (by decide +kernel) (by decide) (by decide) (Nat.le_of_ble_eq_true rfl) dX8_plainParts_25 (fun H locs hP hD hS => ?_)
    have hP : va_P G.1 vwCl [(t, .inr (8, [.ref row, .ref kpt, .int images, .ref errs, .ref bitsOf, .ref sizeOf, .ref cels, .ref broken, .ref isFit, .ref breaks, .int mfit, .int known, .ref act, .ref wth, .ref facts, .ref pile, .int laid, .int hre, .int opnd, .int bad, .int usg, .ref trc, .int u1.1, .int (0 : Int32)])), (row, .inl (xI G, 400, .inl row_f)), (trc, .inl (xI G, 30, .inl u1.2))] H := hP
    have hD : va_D A [(t, .inr (8, [.ref row, .ref kpt, .int images, .ref errs, .ref bitsOf, .ref sizeOf, .ref cels, .ref broken, .ref isFit, .ref breaks, .int mfit, .int known, .ref act, .ref wth, .ref facts, .ref pile, .int laid, .int hre, .int opnd, .int bad, .int usg, .ref trc, .int u1.1, .int (0 : Int32)])), (row, .inl (xI G, 400, .inl row_f)), (trc, .inl (xI G, 30, .inl u1.2))] := hD
    refine lv_aload_n hx hb dX8_plainParts_28 rfl (lv_at hl 1 rfl) ?_
    refine va_get (ci := 8) (v := .int (0 : Int32)) (C := RX8) (T := TX8) (N := 24) hx hb hts (fun w h => tcons w (xin8 w h)) hown hK hP 0 rfl rfl 23 (by decide) (hts _ (tcons _ m937)) (fun _ h9 => h9) rfl dX8_plainParts_29 ?_
    refine lv_if_eq (tgt := 39) hx hb dX8_plainParts_32 (by decide) (fun c32 => ?_) (fun c32 => absurd (by decide) c32)
    refine lv_iload_n hx hb dX8_plainParts_39 rfl (lv_at hl 3 rfl) ?_
    refine lv_iload_n hx hb dX8_plainParts_40 rfl (lv_at hl 0 rfl) ?_
    obtain ⟨g41, hF⟩ := gdS hF
    refine lv_idiv hx hb dX8_plainParts_41 g41 ?_
    obtain rfl := Option.some.inj hF
    rw [← hQ]
    exact W.iret (v := (xx / (u2 - br))) hx hb hr (fun t ht hW => ⟨⟨_, (), rfl, ⟨rfl, rfl⟩, xLf hP ht⟩, hS.F ht⟩) hS.2.2 dX8_plainParts_42
  · have hF := itP c17 hF
    refine lv_iconst (v := 1) hx hb dX8_plainParts_20 (by decide) ?_
    refine lv_goto (tgt := 25) hx hb dX8_plainParts_21 (by decide) ?_
    refine va_put (ci := 8) (v := .int (1 : Int32)) (ty := .boolean) (C := RX8) (T := TX8) (N := 24) hx hb hts (fun w h => tcons w (xin8 w h)) tyX8 tyX8_ok nmX8 hown hK hP hD hS 0 rfl rfl 23 (by decide) (hts _ (tcons _ m937)) (fun _ h9 => h9) rfl (by decide +kernel) (by decide) (by decide) (Nat.le_of_ble_eq_true rfl) dX8_plainParts_25 (fun H locs hP hD hS => ?_)
    have hP : va_P G.1 vwCl [(t, .inr (8, [.ref row, .ref kpt, .int images, .ref errs, .ref bitsOf, .ref sizeOf, .ref cels, .ref broken, .ref isFit, .ref breaks, .int mfit, .int known, .ref act, .ref wth, .ref facts, .ref pile, .int laid, .int hre, .int opnd, .int bad, .int usg, .ref trc, .int u1.1, .int (1 : Int32)])), (row, .inl (xI G, 400, .inl row_f)), (trc, .inl (xI G, 30, .inl u1.2))] H := hP
    have hD : va_D A [(t, .inr (8, [.ref row, .ref kpt, .int images, .ref errs, .ref bitsOf, .ref sizeOf, .ref cels, .ref broken, .ref isFit, .ref breaks, .int mfit, .int known, .ref act, .ref wth, .ref facts, .ref pile, .int laid, .int hre, .int opnd, .int bad, .int usg, .ref trc, .int u1.1, .int (1 : Int32)])), (row, .inl (xI G, 400, .inl row_f)), (trc, .inl (xI G, 30, .inl u1.2))] := hD
    refine lv_aload_n hx hb dX8_plainParts_28 rfl (lv_at hl 1 rfl) ?_
    refine va_get (ci := 8) (v := .int (1 : Int32)) (C := RX8) (T := TX8) (N := 24) hx hb hts (fun w h => tcons w (xin8 w h)) hown hK hP 0 rfl rfl 23 (by decide) (hts _ (tcons _ m937)) (fun _ h9 => h9) rfl dX8_plainParts_29 ?_
    refine lv_if_eq (tgt := 39) hx hb dX8_plainParts_32 (by decide) (fun c32 => absurd c32 (by decide)) (fun c32 => ?_)
    refine lv_iconst (v := 0) hx hb dX8_plainParts_35 (by decide) ?_
    refine lv_goto (tgt := 42) hx hb dX8_plainParts_36 (by decide) ?_
    obtain rfl := Option.some.inj hF
    rw [← hQ]
    exact W.iret (v := (0 : Int32)) hx hb hr (fun t ht hW => ⟨⟨_, (), rfl, ⟨rfl, rfl⟩, xLf hP ht⟩, hS.F ht⟩) hS.2.2 dX8_plainParts_42
