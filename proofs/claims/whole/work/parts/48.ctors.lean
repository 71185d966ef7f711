theorem hdX1_init : yX1_init.cls ≠ "java/lang/invoke/MethodHandle" ∧ yX1_init.cls ≠ "java/lang/invoke/VarHandle" ∧ (parseMethodDescriptor yX1_init.desc).map (fun d => d.parameters.length) = some 1 := by decide +kernel
set_option maxHeartbeats 4000000 in
set_option maxRecDepth 100000 in
theorem c_X1_init_6 (G : xG) (t : Nat) : Kn G yX1_init (Cond.code yX1_init cX1_init 2 none :: TBL) { frames := 1, cells := 1, slots := 6, locals := 40 } [.ref t, .int (6 : Int32)] [(t, .inr (1, [.null, .int (0 : Int32)]))] (fun w => [(t, .inr (1, [.ref (w 0), .int (0 : Int32)])), ((w 0), .inl (xI G, 6, .inl (fun _ => (0 : Int32))))]) 1 6 := by
  intro l sz
  refine Met.ofW (cc := cX1_init) (maxL := 2) (ret := none) (by decide) rfl ?_
  intro p e s m args below meth c s₁ B hml hv
  obtain ⟨rfl, hsz, hP, hD0, hm⟩ := hv
  have hx := B.exec
  have hb := B.bytes
  have hr := B.returns
  have hts := atoms_spec (ws := Cond.code yX1_init cX1_init 2 none :: TBL) B.pre
  have hown : s.vm.findClass RX1 = some m.cls := findClass_of_methodNamed B.named
  have hlocks := B.notSynchronized
  have hin : meth.name = "<init>" := (name_of_methodNamed B.named B.method).1
  subst hsz
  have hD := hD0.self (sz := s.heap.size)
  generalize hAe : va_A [(t, .inr (1, [.null, .int (0 : Int32)]))] s.heap.size = A at hD hm ⊢
  have hA : ∀ q : Nat, s.heap.size ≤ q → A q := fun q h => by rw [← hAe]; exact Or.inr h
  have hK := hm.1
  have hZ : xAnd p m c cX1_init 2 s _ (Cond.code yX1_init cX1_init 2 none :: TBL) RX1 G A := ⟨⟨hx, hb, hml, hown, hts⟩, tcons, hA, hm⟩
  have hP : va_P G.1 vwCl [(t, .inr (1, [.null, .int (0 : Int32)]))] s.heap := hP
  have hl := lv_entry ([.ref t, .int (6 : Int32)]) (n := 2) (Nat.le_of_ble_eq_true rfl)
  rw [lg_entry_eq]
  generalize (lg_sl ([.ref t, .int (6 : Int32)]) ++ List.replicate (2 - (lg_sl ([.ref t, .int (6 : Int32)])).length) Slot.unset).toArray = ls at hl ⊢
  have hl : lv_has ls 2 [(0, .ref t), (1, .int (6 : Int32))] := hl
  generalize hQ : MQ below _ _ s _ _ _ = Q
  refine xGo (A := A) hP (fun H locs hP hS => ?_)
  refine lv_aload_n hx hb dX1_init_0 rfl (lv_at hl 0 rfl) ?_
  refine W.objInit hx hb hown (hts _ (tcons _ m65)) (hts _ (tcons _ m11)) (hts _ (tcons _ m12)) rfl (hl.1.trans hml.symm) rfl dX1_init_1 (Nat.le_of_ble_eq_true rfl) (Nat.le_of_ble_eq_true rfl) ?_
  refine W.eq (g2 := F0 m 4 ls []) rfl ?_
  refine lv_aload_n hx hb dX1_init_4 rfl (lv_at hl 0 rfl) ?_
  refine lv_iconst (v := 0) hx hb dX1_init_5 (by decide) ?_
  refine va_put (ci := 1) (v := .int (0 : Int32)) (ty := .int) (C := RX1) (T := TX1) (N := 2) hx hb hts (fun w h => tcons w (xin1 w h)) tyX1 tyX1_ok nmX1 hown hK hP hD hS 0 rfl rfl 1 (by decide) (hts _ (tcons _ m66)) (fun _ h9 => h9) rfl (by decide +kernel) rfl rfl (Nat.le_of_ble_eq_true rfl) dX1_init_6 (fun H locs hP hD hS => ?_)
  have hP : va_P G.1 vwCl [(t, .inr (1, [.null, .int (0 : Int32)]))] H := hP
  have hD : va_D A [(t, .inr (1, [.null, .int (0 : Int32)]))] := hD
  refine lv_aload_n hx hb dX1_init_9 rfl (lv_at hl 0 rfl) ?_
  refine lv_iconst (v := 0) hx hb dX1_init_10 (by decide) ?_
  refine lv_iload_n hx hb dX1_init_11 rfl (lv_at hl 1 rfl) ?_
  refine va_mmax hx hb (hml.trans hl.1.symm) hown (hts _ (tcons _ m67)) (hts _ (tcons _ m68)) (hts _ (tcons _ m69)) (hts _ (tcons _ m70)) (Nat.le_of_ble_eq_true rfl) (Nat.le_of_ble_eq_true rfl) (Nat.le_of_ble_eq_true rfl) (Nat.le_of_ble_eq_true rfl) dX1_init_12 ?_
  rw [show (if (0 : Int32) < 6 then (6 : Int32) else 0) = 6 from by decide]
  refine xNewa (atype := .int) (a0 := (6, .inl (fun _ => (0 : Int32)))) (N' := 6) (cI := xI G) (ty := .int) hx hb (hts _ (tcons _ m39)) rfl 0 rfl (fun C h => by cases h) hK hP hD hS hA (fun cA => rfl) (by decide) (by decide) (Nat.le_of_ble_eq_true rfl) (Nat.le_of_ble_eq_true rfl) (Nat.le_of_ble_eq_true rfl) dX1_init_15 (fun q1 H hP hD hS => ?_)
  have hP : va_P G.1 vwCl [(t, .inr (1, [.null, .int (0 : Int32)])), (q1, .inl (xI G, 6, .inl (fun _ => (0 : Int32))))] H := hP
  have hD : va_D A [(t, .inr (1, [.null, .int (0 : Int32)])), (q1, .inl (xI G, 6, .inl (fun _ => (0 : Int32))))] := hD
  refine W.widen (k := 1) (n := 6) (by omega) (by omega) ?_
  refine va_putF (ci := 1) (v := .ref q1) (ty := (.array .int)) (C := RX1) (T := TX1) (N := 2) hx hb hts (fun w h => tcons w (xin1 w h)) tyX1 tyX1_ok nmX1 hown hK hP hD hS 0 rfl rfl 0 (by decide) (hts _ (tcons _ m71)) (fun _ h9 => h9) rfl hin rfl (by decide +kernel) rfl rfl (Nat.le_of_ble_eq_true rfl) dX1_init_17 (fun H locs hP hD hS => ?_)
  have hP : va_P G.1 vwCl [(t, .inr (1, [.ref q1, .int (0 : Int32)])), (q1, .inl (xI G, 6, .inl (fun _ => (0 : Int32))))] H := hP
  have hD : va_D A [(t, .inr (1, [.ref q1, .int (0 : Int32)])), (q1, .inl (xI G, 6, .inl (fun _ => (0 : Int32))))] := hD
  rw [← hQ]
  refine W.widen (k := 1) (n := 6) (by omega) (by omega) ?_
  exact W.vret hx hb hr (fun t ht hW => ⟨⟨(fun k => ([q1] : List Nat).getD k 0), rfl, trivial, xLf hP ht, hD⟩, hS.F ht⟩) hS.2.2 dX1_init_20
set_option maxHeartbeats 4000000 in
set_option maxRecDepth 100000 in
theorem c_X1_init_24 (G : xG) (t : Nat) : Kn G yX1_init (Cond.code yX1_init cX1_init 2 none :: TBL) { frames := 1, cells := 1, slots := 24, locals := 40 } [.ref t, .int (24 : Int32)] [(t, .inr (1, [.null, .int (0 : Int32)]))] (fun w => [(t, .inr (1, [.ref (w 0), .int (0 : Int32)])), ((w 0), .inl (xI G, 24, .inl (fun _ => (0 : Int32))))]) 1 24 := by
  intro l sz
  refine Met.ofW (cc := cX1_init) (maxL := 2) (ret := none) (by decide) rfl ?_
  intro p e s m args below meth c s₁ B hml hv
  obtain ⟨rfl, hsz, hP, hD0, hm⟩ := hv
  have hx := B.exec
  have hb := B.bytes
  have hr := B.returns
  have hts := atoms_spec (ws := Cond.code yX1_init cX1_init 2 none :: TBL) B.pre
  have hown : s.vm.findClass RX1 = some m.cls := findClass_of_methodNamed B.named
  have hlocks := B.notSynchronized
  have hin : meth.name = "<init>" := (name_of_methodNamed B.named B.method).1
  subst hsz
  have hD := hD0.self (sz := s.heap.size)
  generalize hAe : va_A [(t, .inr (1, [.null, .int (0 : Int32)]))] s.heap.size = A at hD hm ⊢
  have hA : ∀ q : Nat, s.heap.size ≤ q → A q := fun q h => by rw [← hAe]; exact Or.inr h
  have hK := hm.1
  have hZ : xAnd p m c cX1_init 2 s _ (Cond.code yX1_init cX1_init 2 none :: TBL) RX1 G A := ⟨⟨hx, hb, hml, hown, hts⟩, tcons, hA, hm⟩
  have hP : va_P G.1 vwCl [(t, .inr (1, [.null, .int (0 : Int32)]))] s.heap := hP
  have hl := lv_entry ([.ref t, .int (24 : Int32)]) (n := 2) (Nat.le_of_ble_eq_true rfl)
  rw [lg_entry_eq]
  generalize (lg_sl ([.ref t, .int (24 : Int32)]) ++ List.replicate (2 - (lg_sl ([.ref t, .int (24 : Int32)])).length) Slot.unset).toArray = ls at hl ⊢
  have hl : lv_has ls 2 [(0, .ref t), (1, .int (24 : Int32))] := hl
  generalize hQ : MQ below _ _ s _ _ _ = Q
  refine xGo (A := A) hP (fun H locs hP hS => ?_)
  refine lv_aload_n hx hb dX1_init_0 rfl (lv_at hl 0 rfl) ?_
  refine W.objInit hx hb hown (hts _ (tcons _ m65)) (hts _ (tcons _ m11)) (hts _ (tcons _ m12)) rfl (hl.1.trans hml.symm) rfl dX1_init_1 (Nat.le_of_ble_eq_true rfl) (Nat.le_of_ble_eq_true rfl) ?_
  refine W.eq (g2 := F0 m 4 ls []) rfl ?_
  refine lv_aload_n hx hb dX1_init_4 rfl (lv_at hl 0 rfl) ?_
  refine lv_iconst (v := 0) hx hb dX1_init_5 (by decide) ?_
  refine va_put (ci := 1) (v := .int (0 : Int32)) (ty := .int) (C := RX1) (T := TX1) (N := 2) hx hb hts (fun w h => tcons w (xin1 w h)) tyX1 tyX1_ok nmX1 hown hK hP hD hS 0 rfl rfl 1 (by decide) (hts _ (tcons _ m66)) (fun _ h9 => h9) rfl (by decide +kernel) rfl rfl (Nat.le_of_ble_eq_true rfl) dX1_init_6 (fun H locs hP hD hS => ?_)
  have hP : va_P G.1 vwCl [(t, .inr (1, [.null, .int (0 : Int32)]))] H := hP
  have hD : va_D A [(t, .inr (1, [.null, .int (0 : Int32)]))] := hD
  refine lv_aload_n hx hb dX1_init_9 rfl (lv_at hl 0 rfl) ?_
  refine lv_iconst (v := 0) hx hb dX1_init_10 (by decide) ?_
  refine lv_iload_n hx hb dX1_init_11 rfl (lv_at hl 1 rfl) ?_
  refine va_mmax hx hb (hml.trans hl.1.symm) hown (hts _ (tcons _ m67)) (hts _ (tcons _ m68)) (hts _ (tcons _ m69)) (hts _ (tcons _ m70)) (Nat.le_of_ble_eq_true rfl) (Nat.le_of_ble_eq_true rfl) (Nat.le_of_ble_eq_true rfl) (Nat.le_of_ble_eq_true rfl) dX1_init_12 ?_
  rw [show (if (0 : Int32) < 24 then (24 : Int32) else 0) = 24 from by decide]
  refine xNewa (atype := .int) (a0 := (24, .inl (fun _ => (0 : Int32)))) (N' := 24) (cI := xI G) (ty := .int) hx hb (hts _ (tcons _ m39)) rfl 0 rfl (fun C h => by cases h) hK hP hD hS hA (fun cA => rfl) (by decide) (by decide) (Nat.le_of_ble_eq_true rfl) (Nat.le_of_ble_eq_true rfl) (Nat.le_of_ble_eq_true rfl) dX1_init_15 (fun q1 H hP hD hS => ?_)
  have hP : va_P G.1 vwCl [(t, .inr (1, [.null, .int (0 : Int32)])), (q1, .inl (xI G, 24, .inl (fun _ => (0 : Int32))))] H := hP
  have hD : va_D A [(t, .inr (1, [.null, .int (0 : Int32)])), (q1, .inl (xI G, 24, .inl (fun _ => (0 : Int32))))] := hD
  refine W.widen (k := 1) (n := 24) (by omega) (by omega) ?_
  refine va_putF (ci := 1) (v := .ref q1) (ty := (.array .int)) (C := RX1) (T := TX1) (N := 2) hx hb hts (fun w h => tcons w (xin1 w h)) tyX1 tyX1_ok nmX1 hown hK hP hD hS 0 rfl rfl 0 (by decide) (hts _ (tcons _ m71)) (fun _ h9 => h9) rfl hin rfl (by decide +kernel) rfl rfl (Nat.le_of_ble_eq_true rfl) dX1_init_17 (fun H locs hP hD hS => ?_)
  have hP : va_P G.1 vwCl [(t, .inr (1, [.ref q1, .int (0 : Int32)])), (q1, .inl (xI G, 24, .inl (fun _ => (0 : Int32))))] H := hP
  have hD : va_D A [(t, .inr (1, [.ref q1, .int (0 : Int32)])), (q1, .inl (xI G, 24, .inl (fun _ => (0 : Int32))))] := hD
  rw [← hQ]
  refine W.widen (k := 1) (n := 24) (by omega) (by omega) ?_
  exact W.vret hx hb hr (fun t ht hW => ⟨⟨(fun k => ([q1] : List Nat).getD k 0), rfl, trivial, xLf hP ht, hD⟩, hS.F ht⟩) hS.2.2 dX1_init_20
set_option maxHeartbeats 4000000 in
set_option maxRecDepth 100000 in
theorem c_X1_init_30 (G : xG) (t : Nat) : Kn G yX1_init (Cond.code yX1_init cX1_init 2 none :: TBL) { frames := 1, cells := 1, slots := 30, locals := 40 } [.ref t, .int (30 : Int32)] [(t, .inr (1, [.null, .int (0 : Int32)]))] (fun w => [(t, .inr (1, [.ref (w 0), .int (0 : Int32)])), ((w 0), .inl (xI G, 30, .inl (fun _ => (0 : Int32))))]) 1 30 := by
  intro l sz
  refine Met.ofW (cc := cX1_init) (maxL := 2) (ret := none) (by decide) rfl ?_
  intro p e s m args below meth c s₁ B hml hv
  obtain ⟨rfl, hsz, hP, hD0, hm⟩ := hv
  have hx := B.exec
  have hb := B.bytes
  have hr := B.returns
  have hts := atoms_spec (ws := Cond.code yX1_init cX1_init 2 none :: TBL) B.pre
  have hown : s.vm.findClass RX1 = some m.cls := findClass_of_methodNamed B.named
  have hlocks := B.notSynchronized
  have hin : meth.name = "<init>" := (name_of_methodNamed B.named B.method).1
  subst hsz
  have hD := hD0.self (sz := s.heap.size)
  generalize hAe : va_A [(t, .inr (1, [.null, .int (0 : Int32)]))] s.heap.size = A at hD hm ⊢
  have hA : ∀ q : Nat, s.heap.size ≤ q → A q := fun q h => by rw [← hAe]; exact Or.inr h
  have hK := hm.1
  have hZ : xAnd p m c cX1_init 2 s _ (Cond.code yX1_init cX1_init 2 none :: TBL) RX1 G A := ⟨⟨hx, hb, hml, hown, hts⟩, tcons, hA, hm⟩
  have hP : va_P G.1 vwCl [(t, .inr (1, [.null, .int (0 : Int32)]))] s.heap := hP
  have hl := lv_entry ([.ref t, .int (30 : Int32)]) (n := 2) (Nat.le_of_ble_eq_true rfl)
  rw [lg_entry_eq]
  generalize (lg_sl ([.ref t, .int (30 : Int32)]) ++ List.replicate (2 - (lg_sl ([.ref t, .int (30 : Int32)])).length) Slot.unset).toArray = ls at hl ⊢
  have hl : lv_has ls 2 [(0, .ref t), (1, .int (30 : Int32))] := hl
  generalize hQ : MQ below _ _ s _ _ _ = Q
  refine xGo (A := A) hP (fun H locs hP hS => ?_)
  refine lv_aload_n hx hb dX1_init_0 rfl (lv_at hl 0 rfl) ?_
  refine W.objInit hx hb hown (hts _ (tcons _ m65)) (hts _ (tcons _ m11)) (hts _ (tcons _ m12)) rfl (hl.1.trans hml.symm) rfl dX1_init_1 (Nat.le_of_ble_eq_true rfl) (Nat.le_of_ble_eq_true rfl) ?_
  refine W.eq (g2 := F0 m 4 ls []) rfl ?_
  refine lv_aload_n hx hb dX1_init_4 rfl (lv_at hl 0 rfl) ?_
  refine lv_iconst (v := 0) hx hb dX1_init_5 (by decide) ?_
  refine va_put (ci := 1) (v := .int (0 : Int32)) (ty := .int) (C := RX1) (T := TX1) (N := 2) hx hb hts (fun w h => tcons w (xin1 w h)) tyX1 tyX1_ok nmX1 hown hK hP hD hS 0 rfl rfl 1 (by decide) (hts _ (tcons _ m66)) (fun _ h9 => h9) rfl (by decide +kernel) rfl rfl (Nat.le_of_ble_eq_true rfl) dX1_init_6 (fun H locs hP hD hS => ?_)
  have hP : va_P G.1 vwCl [(t, .inr (1, [.null, .int (0 : Int32)]))] H := hP
  have hD : va_D A [(t, .inr (1, [.null, .int (0 : Int32)]))] := hD
  refine lv_aload_n hx hb dX1_init_9 rfl (lv_at hl 0 rfl) ?_
  refine lv_iconst (v := 0) hx hb dX1_init_10 (by decide) ?_
  refine lv_iload_n hx hb dX1_init_11 rfl (lv_at hl 1 rfl) ?_
  refine va_mmax hx hb (hml.trans hl.1.symm) hown (hts _ (tcons _ m67)) (hts _ (tcons _ m68)) (hts _ (tcons _ m69)) (hts _ (tcons _ m70)) (Nat.le_of_ble_eq_true rfl) (Nat.le_of_ble_eq_true rfl) (Nat.le_of_ble_eq_true rfl) (Nat.le_of_ble_eq_true rfl) dX1_init_12 ?_
  rw [show (if (0 : Int32) < 30 then (30 : Int32) else 0) = 30 from by decide]
  refine xNewa (atype := .int) (a0 := (30, .inl (fun _ => (0 : Int32)))) (N' := 30) (cI := xI G) (ty := .int) hx hb (hts _ (tcons _ m39)) rfl 0 rfl (fun C h => by cases h) hK hP hD hS hA (fun cA => rfl) (by decide) (by decide) (Nat.le_of_ble_eq_true rfl) (Nat.le_of_ble_eq_true rfl) (Nat.le_of_ble_eq_true rfl) dX1_init_15 (fun q1 H hP hD hS => ?_)
  have hP : va_P G.1 vwCl [(t, .inr (1, [.null, .int (0 : Int32)])), (q1, .inl (xI G, 30, .inl (fun _ => (0 : Int32))))] H := hP
  have hD : va_D A [(t, .inr (1, [.null, .int (0 : Int32)])), (q1, .inl (xI G, 30, .inl (fun _ => (0 : Int32))))] := hD
  refine W.widen (k := 1) (n := 30) (by omega) (by omega) ?_
  refine va_putF (ci := 1) (v := .ref q1) (ty := (.array .int)) (C := RX1) (T := TX1) (N := 2) hx hb hts (fun w h => tcons w (xin1 w h)) tyX1 tyX1_ok nmX1 hown hK hP hD hS 0 rfl rfl 0 (by decide) (hts _ (tcons _ m71)) (fun _ h9 => h9) rfl hin rfl (by decide +kernel) rfl rfl (Nat.le_of_ble_eq_true rfl) dX1_init_17 (fun H locs hP hD hS => ?_)
  have hP : va_P G.1 vwCl [(t, .inr (1, [.ref q1, .int (0 : Int32)])), (q1, .inl (xI G, 30, .inl (fun _ => (0 : Int32))))] H := hP
  have hD : va_D A [(t, .inr (1, [.ref q1, .int (0 : Int32)])), (q1, .inl (xI G, 30, .inl (fun _ => (0 : Int32))))] := hD
  rw [← hQ]
  refine W.widen (k := 1) (n := 30) (by omega) (by omega) ?_
  exact W.vret hx hb hr (fun t ht hW => ⟨⟨(fun k => ([q1] : List Nat).getD k 0), rfl, trivial, xLf hP ht, hD⟩, hS.F ht⟩) hS.2.2 dX1_init_20
set_option maxHeartbeats 4000000 in
set_option maxRecDepth 100000 in
theorem c_X1_init_60 (G : xG) (t : Nat) : Kn G yX1_init (Cond.code yX1_init cX1_init 2 none :: TBL) { frames := 1, cells := 1, slots := 60, locals := 40 } [.ref t, .int (60 : Int32)] [(t, .inr (1, [.null, .int (0 : Int32)]))] (fun w => [(t, .inr (1, [.ref (w 0), .int (0 : Int32)])), ((w 0), .inl (xI G, 60, .inl (fun _ => (0 : Int32))))]) 1 60 := by
  intro l sz
  refine Met.ofW (cc := cX1_init) (maxL := 2) (ret := none) (by decide) rfl ?_
  intro p e s m args below meth c s₁ B hml hv
  obtain ⟨rfl, hsz, hP, hD0, hm⟩ := hv
  have hx := B.exec
  have hb := B.bytes
  have hr := B.returns
  have hts := atoms_spec (ws := Cond.code yX1_init cX1_init 2 none :: TBL) B.pre
  have hown : s.vm.findClass RX1 = some m.cls := findClass_of_methodNamed B.named
  have hlocks := B.notSynchronized
  have hin : meth.name = "<init>" := (name_of_methodNamed B.named B.method).1
  subst hsz
  have hD := hD0.self (sz := s.heap.size)
  generalize hAe : va_A [(t, .inr (1, [.null, .int (0 : Int32)]))] s.heap.size = A at hD hm ⊢
  have hA : ∀ q : Nat, s.heap.size ≤ q → A q := fun q h => by rw [← hAe]; exact Or.inr h
  have hK := hm.1
  have hZ : xAnd p m c cX1_init 2 s _ (Cond.code yX1_init cX1_init 2 none :: TBL) RX1 G A := ⟨⟨hx, hb, hml, hown, hts⟩, tcons, hA, hm⟩
  have hP : va_P G.1 vwCl [(t, .inr (1, [.null, .int (0 : Int32)]))] s.heap := hP
  have hl := lv_entry ([.ref t, .int (60 : Int32)]) (n := 2) (Nat.le_of_ble_eq_true rfl)
  rw [lg_entry_eq]
  generalize (lg_sl ([.ref t, .int (60 : Int32)]) ++ List.replicate (2 - (lg_sl ([.ref t, .int (60 : Int32)])).length) Slot.unset).toArray = ls at hl ⊢
  have hl : lv_has ls 2 [(0, .ref t), (1, .int (60 : Int32))] := hl
  generalize hQ : MQ below _ _ s _ _ _ = Q
  refine xGo (A := A) hP (fun H locs hP hS => ?_)
  refine lv_aload_n hx hb dX1_init_0 rfl (lv_at hl 0 rfl) ?_
  refine W.objInit hx hb hown (hts _ (tcons _ m65)) (hts _ (tcons _ m11)) (hts _ (tcons _ m12)) rfl (hl.1.trans hml.symm) rfl dX1_init_1 (Nat.le_of_ble_eq_true rfl) (Nat.le_of_ble_eq_true rfl) ?_
  refine W.eq (g2 := F0 m 4 ls []) rfl ?_
  refine lv_aload_n hx hb dX1_init_4 rfl (lv_at hl 0 rfl) ?_
  refine lv_iconst (v := 0) hx hb dX1_init_5 (by decide) ?_
  refine va_put (ci := 1) (v := .int (0 : Int32)) (ty := .int) (C := RX1) (T := TX1) (N := 2) hx hb hts (fun w h => tcons w (xin1 w h)) tyX1 tyX1_ok nmX1 hown hK hP hD hS 0 rfl rfl 1 (by decide) (hts _ (tcons _ m66)) (fun _ h9 => h9) rfl (by decide +kernel) rfl rfl (Nat.le_of_ble_eq_true rfl) dX1_init_6 (fun H locs hP hD hS => ?_)
  have hP : va_P G.1 vwCl [(t, .inr (1, [.null, .int (0 : Int32)]))] H := hP
  have hD : va_D A [(t, .inr (1, [.null, .int (0 : Int32)]))] := hD
  refine lv_aload_n hx hb dX1_init_9 rfl (lv_at hl 0 rfl) ?_
  refine lv_iconst (v := 0) hx hb dX1_init_10 (by decide) ?_
  refine lv_iload_n hx hb dX1_init_11 rfl (lv_at hl 1 rfl) ?_
  refine va_mmax hx hb (hml.trans hl.1.symm) hown (hts _ (tcons _ m67)) (hts _ (tcons _ m68)) (hts _ (tcons _ m69)) (hts _ (tcons _ m70)) (Nat.le_of_ble_eq_true rfl) (Nat.le_of_ble_eq_true rfl) (Nat.le_of_ble_eq_true rfl) (Nat.le_of_ble_eq_true rfl) dX1_init_12 ?_
  rw [show (if (0 : Int32) < 60 then (60 : Int32) else 0) = 60 from by decide]
  refine xNewa (atype := .int) (a0 := (60, .inl (fun _ => (0 : Int32)))) (N' := 60) (cI := xI G) (ty := .int) hx hb (hts _ (tcons _ m39)) rfl 0 rfl (fun C h => by cases h) hK hP hD hS hA (fun cA => rfl) (by decide) (by decide) (Nat.le_of_ble_eq_true rfl) (Nat.le_of_ble_eq_true rfl) (Nat.le_of_ble_eq_true rfl) dX1_init_15 (fun q1 H hP hD hS => ?_)
  have hP : va_P G.1 vwCl [(t, .inr (1, [.null, .int (0 : Int32)])), (q1, .inl (xI G, 60, .inl (fun _ => (0 : Int32))))] H := hP
  have hD : va_D A [(t, .inr (1, [.null, .int (0 : Int32)])), (q1, .inl (xI G, 60, .inl (fun _ => (0 : Int32))))] := hD
  refine W.widen (k := 1) (n := 60) (by omega) (by omega) ?_
  refine va_putF (ci := 1) (v := .ref q1) (ty := (.array .int)) (C := RX1) (T := TX1) (N := 2) hx hb hts (fun w h => tcons w (xin1 w h)) tyX1 tyX1_ok nmX1 hown hK hP hD hS 0 rfl rfl 0 (by decide) (hts _ (tcons _ m71)) (fun _ h9 => h9) rfl hin rfl (by decide +kernel) rfl rfl (Nat.le_of_ble_eq_true rfl) dX1_init_17 (fun H locs hP hD hS => ?_)
  have hP : va_P G.1 vwCl [(t, .inr (1, [.ref q1, .int (0 : Int32)])), (q1, .inl (xI G, 60, .inl (fun _ => (0 : Int32))))] H := hP
  have hD : va_D A [(t, .inr (1, [.ref q1, .int (0 : Int32)])), (q1, .inl (xI G, 60, .inl (fun _ => (0 : Int32))))] := hD
  rw [← hQ]
  refine W.widen (k := 1) (n := 60) (by omega) (by omega) ?_
  exact W.vret hx hb hr (fun t ht hW => ⟨⟨(fun k => ([q1] : List Nat).getD k 0), rfl, trivial, xLf hP ht, hD⟩, hS.F ht⟩) hS.2.2 dX1_init_20
theorem hdX3_init : yX3_init.cls ≠ "java/lang/invoke/MethodHandle" ∧ yX3_init.cls ≠ "java/lang/invoke/VarHandle" ∧ (parseMethodDescriptor yX3_init.desc).map (fun d => d.parameters.length) = some 0 := by decide +kernel
set_option maxHeartbeats 4000000 in
set_option maxRecDepth 100000 in
theorem c_X3_init (G : xG) (t : Nat) : Kn G yX3_init (Cond.code yX3_init cX3_init 1 none :: TBL) { frames := 2, cells := 16, slots := 262, locals := 61 } [.ref t] [(t, .inr (3, [.null, .null, .null, .null, .null, .null, .null, .null, .int (0 : Int32), .int (0 : Int32), .int (0 : Int32), .int (0 : Int32)]))] (fun w => [(t, .inr (3, [.ref (w 0), .ref (w 2), .ref (w 4), .ref (w 6), .ref (w 8), .ref (w 10), .ref (w 12), .ref (w 14), .int (728 : Int32), .int (0 : Int32), .int (0 : Int32), .int (1 : Int32)])), ((w 0), .inr (1, [.ref (w 1), .int (0 : Int32)])), ((w 1), .inl (xI G, 6, .inl (fun _ => (0 : Int32)))), ((w 2), .inr (1, [.ref (w 3), .int (0 : Int32)])), ((w 3), .inl (xI G, 6, .inl (fun _ => (0 : Int32)))), ((w 4), .inr (1, [.ref (w 5), .int (0 : Int32)])), ((w 5), .inl (xI G, 6, .inl (fun _ => (0 : Int32)))), ((w 6), .inr (1, [.ref (w 7), .int (0 : Int32)])), ((w 7), .inl (xI G, 24, .inl (fun _ => (0 : Int32)))), ((w 8), .inr (1, [.ref (w 9), .int (0 : Int32)])), ((w 9), .inl (xI G, 60, .inl (fun _ => (0 : Int32)))), ((w 10), .inr (1, [.ref (w 11), .int (0 : Int32)])), ((w 11), .inl (xI G, 60, .inl (fun _ => (0 : Int32)))), ((w 12), .inr (1, [.ref (w 13), .int (0 : Int32)])), ((w 13), .inl (xI G, 60, .inl (fun _ => (0 : Int32)))), ((w 14), .inr (1, [.ref (w 15), .int (0 : Int32)])), ((w 15), .inl (xI G, 24, .inl (fun _ => (0 : Int32))))]) 16 262 := by
  intro l sz
  refine Met.ofW (cc := cX3_init) (maxL := 1) (ret := none) (by decide) rfl ?_
  intro p e s m args below meth c s₁ B hml hv
  obtain ⟨rfl, hsz, hP, hD0, hm⟩ := hv
  have hx := B.exec
  have hb := B.bytes
  have hr := B.returns
  have hts := atoms_spec (ws := Cond.code yX3_init cX3_init 1 none :: TBL) B.pre
  have hown : s.vm.findClass RX3 = some m.cls := findClass_of_methodNamed B.named
  have hlocks := B.notSynchronized
  have hin : meth.name = "<init>" := (name_of_methodNamed B.named B.method).1
  subst hsz
  have hD := hD0.self (sz := s.heap.size)
  generalize hAe : va_A [(t, .inr (3, [.null, .null, .null, .null, .null, .null, .null, .null, .int (0 : Int32), .int (0 : Int32), .int (0 : Int32), .int (0 : Int32)]))] s.heap.size = A at hD hm ⊢
  have hA : ∀ q : Nat, s.heap.size ≤ q → A q := fun q h => by rw [← hAe]; exact Or.inr h
  have hK := hm.1
  have hZ : xAnd p m c cX3_init 1 s _ (Cond.code yX3_init cX3_init 1 none :: TBL) RX3 G A := ⟨⟨hx, hb, hml, hown, hts⟩, tcons, hA, hm⟩
  have hP : va_P G.1 vwCl [(t, .inr (3, [.null, .null, .null, .null, .null, .null, .null, .null, .int (0 : Int32), .int (0 : Int32), .int (0 : Int32), .int (0 : Int32)]))] s.heap := hP
  have hl := lv_entry ([.ref t]) (n := 1) (Nat.le_of_ble_eq_true rfl)
  rw [lg_entry_eq]
  generalize (lg_sl ([.ref t]) ++ List.replicate (1 - (lg_sl ([.ref t])).length) Slot.unset).toArray = ls at hl ⊢
  have hl : lv_has ls 1 [(0, .ref t)] := hl
  generalize hQ : MQ below _ _ s _ _ _ = Q
  refine xGo (A := A) hP (fun H locs hP hS => ?_)
  refine lv_aload_n hx hb dX3_init_0 rfl (lv_at hl 0 rfl) ?_
  refine W.objInit hx hb hown (hts _ (tcons _ m46)) (hts _ (tcons _ m11)) (hts _ (tcons _ m12)) rfl (hl.1.trans hml.symm) rfl dX3_init_1 (Nat.le_of_ble_eq_true rfl) (Nat.le_of_ble_eq_true rfl) ?_
  refine W.eq (g2 := F0 m 4 ls []) rfl ?_
  refine lv_aload_n hx hb dX3_init_4 rfl (lv_at hl 0 rfl) ?_
  refine va_new (ci := 1) (fs := [.null, .int 0]) (C := RX1) (T := TX1) (N := 2) hx hb hts (fun w h => tcons w (xin1 w h)) tyX1 tyX1_ok hown (hts _ (tcons _ m47)) (hts _ (tcons _ m48)) (hts _ (tcons _ m49)) hK hP hD hS hA rfl (fun j hj => by rcases (show j = 0 ∨ j = 1 by omega) with rfl | rfl <;> rfl) (Nat.le_of_ble_eq_true rfl) (Nat.le_of_ble_eq_true rfl) dX3_init_5 (fun q1 H hP hD hS => ?_)
  have hP : va_P G.1 vwCl [(t, .inr (3, [.null, .null, .null, .null, .null, .null, .null, .null, .int (0 : Int32), .int (0 : Int32), .int (0 : Int32), .int (0 : Int32)])), (q1, .inr (1, [.null, .int (0 : Int32)]))] H := hP
  have hD : va_D A [(t, .inr (3, [.null, .null, .null, .null, .null, .null, .null, .null, .int (0 : Int32), .int (0 : Int32), .int (0 : Int32), .int (0 : Int32)])), (q1, .inr (1, [.null, .int (0 : Int32)]))] := hD
  refine W.widen (k := 1) (n := 2) (by omega) (by omega) ?_
  refine lv_dup hx hb dX3_init_8 rfl ?_
  refine lv_bipush (v := 6) hx hb dX3_init_9 (by decide) ?_
  refine xEndN (mc := 1) (ms := 6) (wr := [(t, .inr (3, [.null, .null, .null, .null, .null, .null, .null, .null, .int (0 : Int32), .int (0 : Int32), .int (0 : Int32), .int (0 : Int32)]))]) (xRunI (mc := 1) (ms := 6) (As := [.int (6 : Int32)]) (rest := [.ref q1, .ref t]) hZ (c_X1_init_6 G q1 l H.size) m62 m63 m49 m64 1 rfl hdX1_init ⟨Nat.le_of_ble_eq_true rfl, Nat.le_of_ble_eq_true rfl⟩ ⟨rfl, rfl⟩ hP hD hS [1] rfl rfl rfl hl.1 rfl (Nat.le_of_ble_eq_true rfl) dX3_init_11 ⟨Nat.le_of_ble_eq_true rfl, Nat.le_of_ble_eq_true rfl⟩) hP hD hS hA [1] [0] rfl rfl (by decide +kernel) (by decide +kernel) (fun w101 H locs hP hD hS => ?_)
  have hP : va_P G.1 vwCl [(t, .inr (3, [.null, .null, .null, .null, .null, .null, .null, .null, .int (0 : Int32), .int (0 : Int32), .int (0 : Int32), .int (0 : Int32)])), (q1, .inr (1, [.ref (w101 0), .int (0 : Int32)])), ((w101 0), .inl (xI G, 6, .inl (fun _ => (0 : Int32))))] H := hP
  have hD : va_D A [(t, .inr (3, [.null, .null, .null, .null, .null, .null, .null, .null, .int (0 : Int32), .int (0 : Int32), .int (0 : Int32), .int (0 : Int32)])), (q1, .inr (1, [.ref (w101 0), .int (0 : Int32)])), ((w101 0), .inl (xI G, 6, .inl (fun _ => (0 : Int32))))] := hD
  refine W.widen (k := 2) (n := 8) (by omega) (by omega) ?_
  refine va_putF (ci := 3) (v := .ref q1) (ty := (.object "ParrotVow$Row")) (C := RX3) (T := TX3) (N := 12) hx hb hts (fun w h => tcons w (xin3 w h)) tyX3 tyX3_ok nmX3 hown hK hP hD hS 0 rfl rfl 0 (by decide) (hts _ (tcons _ m50)) (fun _ h9 => h9) rfl hin rfl (by decide +kernel) rfl rfl (Nat.le_of_ble_eq_true rfl) dX3_init_14 (fun H locs hP hD hS => ?_)
  have hP : va_P G.1 vwCl [(t, .inr (3, [.ref q1, .null, .null, .null, .null, .null, .null, .null, .int (0 : Int32), .int (0 : Int32), .int (0 : Int32), .int (0 : Int32)])), (q1, .inr (1, [.ref (w101 0), .int (0 : Int32)])), ((w101 0), .inl (xI G, 6, .inl (fun _ => (0 : Int32))))] H := hP
  have hD : va_D A [(t, .inr (3, [.ref q1, .null, .null, .null, .null, .null, .null, .null, .int (0 : Int32), .int (0 : Int32), .int (0 : Int32), .int (0 : Int32)])), (q1, .inr (1, [.ref (w101 0), .int (0 : Int32)])), ((w101 0), .inl (xI G, 6, .inl (fun _ => (0 : Int32))))] := hD
  refine lv_aload_n hx hb dX3_init_17 rfl (lv_at hl 0 rfl) ?_
  refine va_new (ci := 1) (fs := [.null, .int 0]) (C := RX1) (T := TX1) (N := 2) hx hb hts (fun w h => tcons w (xin1 w h)) tyX1 tyX1_ok hown (hts _ (tcons _ m47)) (hts _ (tcons _ m48)) (hts _ (tcons _ m49)) hK hP hD hS hA rfl (fun j hj => by rcases (show j = 0 ∨ j = 1 by omega) with rfl | rfl <;> rfl) (Nat.le_of_ble_eq_true rfl) (Nat.le_of_ble_eq_true rfl) dX3_init_18 (fun q3 H hP hD hS => ?_)
  have hP : va_P G.1 vwCl [(t, .inr (3, [.ref q1, .null, .null, .null, .null, .null, .null, .null, .int (0 : Int32), .int (0 : Int32), .int (0 : Int32), .int (0 : Int32)])), (q1, .inr (1, [.ref (w101 0), .int (0 : Int32)])), ((w101 0), .inl (xI G, 6, .inl (fun _ => (0 : Int32)))), (q3, .inr (1, [.null, .int (0 : Int32)]))] H := hP
  have hD : va_D A [(t, .inr (3, [.ref q1, .null, .null, .null, .null, .null, .null, .null, .int (0 : Int32), .int (0 : Int32), .int (0 : Int32), .int (0 : Int32)])), (q1, .inr (1, [.ref (w101 0), .int (0 : Int32)])), ((w101 0), .inl (xI G, 6, .inl (fun _ => (0 : Int32)))), (q3, .inr (1, [.null, .int (0 : Int32)]))] := hD
  refine W.widen (k := 3) (n := 10) (by omega) (by omega) ?_
  refine lv_dup hx hb dX3_init_21 rfl ?_
  refine lv_bipush (v := 6) hx hb dX3_init_22 (by decide) ?_
  refine xEndN (mc := 1) (ms := 6) (wr := [(t, .inr (3, [.ref q1, .null, .null, .null, .null, .null, .null, .null, .int (0 : Int32), .int (0 : Int32), .int (0 : Int32), .int (0 : Int32)])), (q1, .inr (1, [.ref (w101 0), .int (0 : Int32)])), ((w101 0), .inl (xI G, 6, .inl (fun _ => (0 : Int32))))]) (xRunI (mc := 1) (ms := 6) (As := [.int (6 : Int32)]) (rest := [.ref q3, .ref t]) hZ (c_X1_init_6 G q3 l H.size) m62 m63 m49 m64 1 rfl hdX1_init ⟨Nat.le_of_ble_eq_true rfl, Nat.le_of_ble_eq_true rfl⟩ ⟨rfl, rfl⟩ hP hD hS [3] rfl rfl rfl hl.1 rfl (Nat.le_of_ble_eq_true rfl) dX3_init_24 ⟨Nat.le_of_ble_eq_true rfl, Nat.le_of_ble_eq_true rfl⟩) hP hD hS hA [3] [0, 1, 2] rfl rfl (by decide +kernel) (by decide +kernel) (fun w103 H locs hP hD hS => ?_)
  have hP : va_P G.1 vwCl [(t, .inr (3, [.ref q1, .null, .null, .null, .null, .null, .null, .null, .int (0 : Int32), .int (0 : Int32), .int (0 : Int32), .int (0 : Int32)])), (q1, .inr (1, [.ref (w101 0), .int (0 : Int32)])), ((w101 0), .inl (xI G, 6, .inl (fun _ => (0 : Int32)))), (q3, .inr (1, [.ref (w103 0), .int (0 : Int32)])), ((w103 0), .inl (xI G, 6, .inl (fun _ => (0 : Int32))))] H := hP
  have hD : va_D A [(t, .inr (3, [.ref q1, .null, .null, .null, .null, .null, .null, .null, .int (0 : Int32), .int (0 : Int32), .int (0 : Int32), .int (0 : Int32)])), (q1, .inr (1, [.ref (w101 0), .int (0 : Int32)])), ((w101 0), .inl (xI G, 6, .inl (fun _ => (0 : Int32)))), (q3, .inr (1, [.ref (w103 0), .int (0 : Int32)])), ((w103 0), .inl (xI G, 6, .inl (fun _ => (0 : Int32))))] := hD
  refine W.widen (k := 4) (n := 16) (by omega) (by omega) ?_
  refine va_putF (ci := 3) (v := .ref q3) (ty := (.object "ParrotVow$Row")) (C := RX3) (T := TX3) (N := 12) hx hb hts (fun w h => tcons w (xin3 w h)) tyX3 tyX3_ok nmX3 hown hK hP hD hS 0 rfl rfl 1 (by decide) (hts _ (tcons _ m51)) (fun _ h9 => h9) rfl hin rfl (by decide +kernel) rfl rfl (Nat.le_of_ble_eq_true rfl) dX3_init_27 (fun H locs hP hD hS => ?_)
  have hP : va_P G.1 vwCl [(t, .inr (3, [.ref q1, .ref q3, .null, .null, .null, .null, .null, .null, .int (0 : Int32), .int (0 : Int32), .int (0 : Int32), .int (0 : Int32)])), (q1, .inr (1, [.ref (w101 0), .int (0 : Int32)])), ((w101 0), .inl (xI G, 6, .inl (fun _ => (0 : Int32)))), (q3, .inr (1, [.ref (w103 0), .int (0 : Int32)])), ((w103 0), .inl (xI G, 6, .inl (fun _ => (0 : Int32))))] H := hP
  have hD : va_D A [(t, .inr (3, [.ref q1, .ref q3, .null, .null, .null, .null, .null, .null, .int (0 : Int32), .int (0 : Int32), .int (0 : Int32), .int (0 : Int32)])), (q1, .inr (1, [.ref (w101 0), .int (0 : Int32)])), ((w101 0), .inl (xI G, 6, .inl (fun _ => (0 : Int32)))), (q3, .inr (1, [.ref (w103 0), .int (0 : Int32)])), ((w103 0), .inl (xI G, 6, .inl (fun _ => (0 : Int32))))] := hD
  refine lv_aload_n hx hb dX3_init_30 rfl (lv_at hl 0 rfl) ?_
  refine va_new (ci := 1) (fs := [.null, .int 0]) (C := RX1) (T := TX1) (N := 2) hx hb hts (fun w h => tcons w (xin1 w h)) tyX1 tyX1_ok hown (hts _ (tcons _ m47)) (hts _ (tcons _ m48)) (hts _ (tcons _ m49)) hK hP hD hS hA rfl (fun j hj => by rcases (show j = 0 ∨ j = 1 by omega) with rfl | rfl <;> rfl) (Nat.le_of_ble_eq_true rfl) (Nat.le_of_ble_eq_true rfl) dX3_init_31 (fun q5 H hP hD hS => ?_)
  have hP : va_P G.1 vwCl [(t, .inr (3, [.ref q1, .ref q3, .null, .null, .null, .null, .null, .null, .int (0 : Int32), .int (0 : Int32), .int (0 : Int32), .int (0 : Int32)])), (q1, .inr (1, [.ref (w101 0), .int (0 : Int32)])), ((w101 0), .inl (xI G, 6, .inl (fun _ => (0 : Int32)))), (q3, .inr (1, [.ref (w103 0), .int (0 : Int32)])), ((w103 0), .inl (xI G, 6, .inl (fun _ => (0 : Int32)))), (q5, .inr (1, [.null, .int (0 : Int32)]))] H := hP
  have hD : va_D A [(t, .inr (3, [.ref q1, .ref q3, .null, .null, .null, .null, .null, .null, .int (0 : Int32), .int (0 : Int32), .int (0 : Int32), .int (0 : Int32)])), (q1, .inr (1, [.ref (w101 0), .int (0 : Int32)])), ((w101 0), .inl (xI G, 6, .inl (fun _ => (0 : Int32)))), (q3, .inr (1, [.ref (w103 0), .int (0 : Int32)])), ((w103 0), .inl (xI G, 6, .inl (fun _ => (0 : Int32)))), (q5, .inr (1, [.null, .int (0 : Int32)]))] := hD
  refine W.widen (k := 5) (n := 18) (by omega) (by omega) ?_
  refine lv_dup hx hb dX3_init_34 rfl ?_
  refine lv_bipush (v := 6) hx hb dX3_init_35 (by decide) ?_
  refine xEndN (mc := 1) (ms := 6) (wr := [(t, .inr (3, [.ref q1, .ref q3, .null, .null, .null, .null, .null, .null, .int (0 : Int32), .int (0 : Int32), .int (0 : Int32), .int (0 : Int32)])), (q1, .inr (1, [.ref (w101 0), .int (0 : Int32)])), ((w101 0), .inl (xI G, 6, .inl (fun _ => (0 : Int32)))), (q3, .inr (1, [.ref (w103 0), .int (0 : Int32)])), ((w103 0), .inl (xI G, 6, .inl (fun _ => (0 : Int32))))]) (xRunI (mc := 1) (ms := 6) (As := [.int (6 : Int32)]) (rest := [.ref q5, .ref t]) hZ (c_X1_init_6 G q5 l H.size) m62 m63 m49 m64 1 rfl hdX1_init ⟨Nat.le_of_ble_eq_true rfl, Nat.le_of_ble_eq_true rfl⟩ ⟨rfl, rfl⟩ hP hD hS [5] rfl rfl rfl hl.1 rfl (Nat.le_of_ble_eq_true rfl) dX3_init_37 ⟨Nat.le_of_ble_eq_true rfl, Nat.le_of_ble_eq_true rfl⟩) hP hD hS hA [5] [0, 1, 2, 3, 4] rfl rfl (by decide +kernel) (by decide +kernel) (fun w105 H locs hP hD hS => ?_)
  have hP : va_P G.1 vwCl [(t, .inr (3, [.ref q1, .ref q3, .null, .null, .null, .null, .null, .null, .int (0 : Int32), .int (0 : Int32), .int (0 : Int32), .int (0 : Int32)])), (q1, .inr (1, [.ref (w101 0), .int (0 : Int32)])), ((w101 0), .inl (xI G, 6, .inl (fun _ => (0 : Int32)))), (q3, .inr (1, [.ref (w103 0), .int (0 : Int32)])), ((w103 0), .inl (xI G, 6, .inl (fun _ => (0 : Int32)))), (q5, .inr (1, [.ref (w105 0), .int (0 : Int32)])), ((w105 0), .inl (xI G, 6, .inl (fun _ => (0 : Int32))))] H := hP
  have hD : va_D A [(t, .inr (3, [.ref q1, .ref q3, .null, .null, .null, .null, .null, .null, .int (0 : Int32), .int (0 : Int32), .int (0 : Int32), .int (0 : Int32)])), (q1, .inr (1, [.ref (w101 0), .int (0 : Int32)])), ((w101 0), .inl (xI G, 6, .inl (fun _ => (0 : Int32)))), (q3, .inr (1, [.ref (w103 0), .int (0 : Int32)])), ((w103 0), .inl (xI G, 6, .inl (fun _ => (0 : Int32)))), (q5, .inr (1, [.ref (w105 0), .int (0 : Int32)])), ((w105 0), .inl (xI G, 6, .inl (fun _ => (0 : Int32))))] := hD
  refine W.widen (k := 6) (n := 24) (by omega) (by omega) ?_
  refine va_putF (ci := 3) (v := .ref q5) (ty := (.object "ParrotVow$Row")) (C := RX3) (T := TX3) (N := 12) hx hb hts (fun w h => tcons w (xin3 w h)) tyX3 tyX3_ok nmX3 hown hK hP hD hS 0 rfl rfl 2 (by decide) (hts _ (tcons _ m52)) (fun _ h9 => h9) rfl hin rfl (by decide +kernel) rfl rfl (Nat.le_of_ble_eq_true rfl) dX3_init_40 (fun H locs hP hD hS => ?_)
  have hP : va_P G.1 vwCl [(t, .inr (3, [.ref q1, .ref q3, .ref q5, .null, .null, .null, .null, .null, .int (0 : Int32), .int (0 : Int32), .int (0 : Int32), .int (0 : Int32)])), (q1, .inr (1, [.ref (w101 0), .int (0 : Int32)])), ((w101 0), .inl (xI G, 6, .inl (fun _ => (0 : Int32)))), (q3, .inr (1, [.ref (w103 0), .int (0 : Int32)])), ((w103 0), .inl (xI G, 6, .inl (fun _ => (0 : Int32)))), (q5, .inr (1, [.ref (w105 0), .int (0 : Int32)])), ((w105 0), .inl (xI G, 6, .inl (fun _ => (0 : Int32))))] H := hP
  have hD : va_D A [(t, .inr (3, [.ref q1, .ref q3, .ref q5, .null, .null, .null, .null, .null, .int (0 : Int32), .int (0 : Int32), .int (0 : Int32), .int (0 : Int32)])), (q1, .inr (1, [.ref (w101 0), .int (0 : Int32)])), ((w101 0), .inl (xI G, 6, .inl (fun _ => (0 : Int32)))), (q3, .inr (1, [.ref (w103 0), .int (0 : Int32)])), ((w103 0), .inl (xI G, 6, .inl (fun _ => (0 : Int32)))), (q5, .inr (1, [.ref (w105 0), .int (0 : Int32)])), ((w105 0), .inl (xI G, 6, .inl (fun _ => (0 : Int32))))] := hD
  refine lv_aload_n hx hb dX3_init_43 rfl (lv_at hl 0 rfl) ?_
  refine va_new (ci := 1) (fs := [.null, .int 0]) (C := RX1) (T := TX1) (N := 2) hx hb hts (fun w h => tcons w (xin1 w h)) tyX1 tyX1_ok hown (hts _ (tcons _ m47)) (hts _ (tcons _ m48)) (hts _ (tcons _ m49)) hK hP hD hS hA rfl (fun j hj => by rcases (show j = 0 ∨ j = 1 by omega) with rfl | rfl <;> rfl) (Nat.le_of_ble_eq_true rfl) (Nat.le_of_ble_eq_true rfl) dX3_init_44 (fun q7 H hP hD hS => ?_)
  have hP : va_P G.1 vwCl [(t, .inr (3, [.ref q1, .ref q3, .ref q5, .null, .null, .null, .null, .null, .int (0 : Int32), .int (0 : Int32), .int (0 : Int32), .int (0 : Int32)])), (q1, .inr (1, [.ref (w101 0), .int (0 : Int32)])), ((w101 0), .inl (xI G, 6, .inl (fun _ => (0 : Int32)))), (q3, .inr (1, [.ref (w103 0), .int (0 : Int32)])), ((w103 0), .inl (xI G, 6, .inl (fun _ => (0 : Int32)))), (q5, .inr (1, [.ref (w105 0), .int (0 : Int32)])), ((w105 0), .inl (xI G, 6, .inl (fun _ => (0 : Int32)))), (q7, .inr (1, [.null, .int (0 : Int32)]))] H := hP
  have hD : va_D A [(t, .inr (3, [.ref q1, .ref q3, .ref q5, .null, .null, .null, .null, .null, .int (0 : Int32), .int (0 : Int32), .int (0 : Int32), .int (0 : Int32)])), (q1, .inr (1, [.ref (w101 0), .int (0 : Int32)])), ((w101 0), .inl (xI G, 6, .inl (fun _ => (0 : Int32)))), (q3, .inr (1, [.ref (w103 0), .int (0 : Int32)])), ((w103 0), .inl (xI G, 6, .inl (fun _ => (0 : Int32)))), (q5, .inr (1, [.ref (w105 0), .int (0 : Int32)])), ((w105 0), .inl (xI G, 6, .inl (fun _ => (0 : Int32)))), (q7, .inr (1, [.null, .int (0 : Int32)]))] := hD
  refine W.widen (k := 7) (n := 26) (by omega) (by omega) ?_
  refine lv_dup hx hb dX3_init_47 rfl ?_
  refine lv_bipush (v := 24) hx hb dX3_init_48 (by decide) ?_
  refine xEndN (mc := 1) (ms := 24) (wr := [(t, .inr (3, [.ref q1, .ref q3, .ref q5, .null, .null, .null, .null, .null, .int (0 : Int32), .int (0 : Int32), .int (0 : Int32), .int (0 : Int32)])), (q1, .inr (1, [.ref (w101 0), .int (0 : Int32)])), ((w101 0), .inl (xI G, 6, .inl (fun _ => (0 : Int32)))), (q3, .inr (1, [.ref (w103 0), .int (0 : Int32)])), ((w103 0), .inl (xI G, 6, .inl (fun _ => (0 : Int32)))), (q5, .inr (1, [.ref (w105 0), .int (0 : Int32)])), ((w105 0), .inl (xI G, 6, .inl (fun _ => (0 : Int32))))]) (xRunI (mc := 1) (ms := 24) (As := [.int (24 : Int32)]) (rest := [.ref q7, .ref t]) hZ (c_X1_init_24 G q7 l H.size) m62 m63 m49 m64 1 rfl hdX1_init ⟨Nat.le_of_ble_eq_true rfl, Nat.le_of_ble_eq_true rfl⟩ ⟨rfl, rfl⟩ hP hD hS [7] rfl rfl rfl hl.1 rfl (Nat.le_of_ble_eq_true rfl) dX3_init_50 ⟨Nat.le_of_ble_eq_true rfl, Nat.le_of_ble_eq_true rfl⟩) hP hD hS hA [7] [0, 1, 2, 3, 4, 5, 6] rfl rfl (by decide +kernel) (by decide +kernel) (fun w107 H locs hP hD hS => ?_)
  have hP : va_P G.1 vwCl [(t, .inr (3, [.ref q1, .ref q3, .ref q5, .null, .null, .null, .null, .null, .int (0 : Int32), .int (0 : Int32), .int (0 : Int32), .int (0 : Int32)])), (q1, .inr (1, [.ref (w101 0), .int (0 : Int32)])), ((w101 0), .inl (xI G, 6, .inl (fun _ => (0 : Int32)))), (q3, .inr (1, [.ref (w103 0), .int (0 : Int32)])), ((w103 0), .inl (xI G, 6, .inl (fun _ => (0 : Int32)))), (q5, .inr (1, [.ref (w105 0), .int (0 : Int32)])), ((w105 0), .inl (xI G, 6, .inl (fun _ => (0 : Int32)))), (q7, .inr (1, [.ref (w107 0), .int (0 : Int32)])), ((w107 0), .inl (xI G, 24, .inl (fun _ => (0 : Int32))))] H := hP
  have hD : va_D A [(t, .inr (3, [.ref q1, .ref q3, .ref q5, .null, .null, .null, .null, .null, .int (0 : Int32), .int (0 : Int32), .int (0 : Int32), .int (0 : Int32)])), (q1, .inr (1, [.ref (w101 0), .int (0 : Int32)])), ((w101 0), .inl (xI G, 6, .inl (fun _ => (0 : Int32)))), (q3, .inr (1, [.ref (w103 0), .int (0 : Int32)])), ((w103 0), .inl (xI G, 6, .inl (fun _ => (0 : Int32)))), (q5, .inr (1, [.ref (w105 0), .int (0 : Int32)])), ((w105 0), .inl (xI G, 6, .inl (fun _ => (0 : Int32)))), (q7, .inr (1, [.ref (w107 0), .int (0 : Int32)])), ((w107 0), .inl (xI G, 24, .inl (fun _ => (0 : Int32))))] := hD
  refine W.widen (k := 8) (n := 50) (by omega) (by omega) ?_
  refine va_putF (ci := 3) (v := .ref q7) (ty := (.object "ParrotVow$Row")) (C := RX3) (T := TX3) (N := 12) hx hb hts (fun w h => tcons w (xin3 w h)) tyX3 tyX3_ok nmX3 hown hK hP hD hS 0 rfl rfl 3 (by decide) (hts _ (tcons _ m53)) (fun _ h9 => h9) rfl hin rfl (by decide +kernel) rfl rfl (Nat.le_of_ble_eq_true rfl) dX3_init_53 (fun H locs hP hD hS => ?_)
  have hP : va_P G.1 vwCl [(t, .inr (3, [.ref q1, .ref q3, .ref q5, .ref q7, .null, .null, .null, .null, .int (0 : Int32), .int (0 : Int32), .int (0 : Int32), .int (0 : Int32)])), (q1, .inr (1, [.ref (w101 0), .int (0 : Int32)])), ((w101 0), .inl (xI G, 6, .inl (fun _ => (0 : Int32)))), (q3, .inr (1, [.ref (w103 0), .int (0 : Int32)])), ((w103 0), .inl (xI G, 6, .inl (fun _ => (0 : Int32)))), (q5, .inr (1, [.ref (w105 0), .int (0 : Int32)])), ((w105 0), .inl (xI G, 6, .inl (fun _ => (0 : Int32)))), (q7, .inr (1, [.ref (w107 0), .int (0 : Int32)])), ((w107 0), .inl (xI G, 24, .inl (fun _ => (0 : Int32))))] H := hP
  have hD : va_D A [(t, .inr (3, [.ref q1, .ref q3, .ref q5, .ref q7, .null, .null, .null, .null, .int (0 : Int32), .int (0 : Int32), .int (0 : Int32), .int (0 : Int32)])), (q1, .inr (1, [.ref (w101 0), .int (0 : Int32)])), ((w101 0), .inl (xI G, 6, .inl (fun _ => (0 : Int32)))), (q3, .inr (1, [.ref (w103 0), .int (0 : Int32)])), ((w103 0), .inl (xI G, 6, .inl (fun _ => (0 : Int32)))), (q5, .inr (1, [.ref (w105 0), .int (0 : Int32)])), ((w105 0), .inl (xI G, 6, .inl (fun _ => (0 : Int32)))), (q7, .inr (1, [.ref (w107 0), .int (0 : Int32)])), ((w107 0), .inl (xI G, 24, .inl (fun _ => (0 : Int32))))] := hD
  refine lv_aload_n hx hb dX3_init_56 rfl (lv_at hl 0 rfl) ?_
  refine va_new (ci := 1) (fs := [.null, .int 0]) (C := RX1) (T := TX1) (N := 2) hx hb hts (fun w h => tcons w (xin1 w h)) tyX1 tyX1_ok hown (hts _ (tcons _ m47)) (hts _ (tcons _ m48)) (hts _ (tcons _ m49)) hK hP hD hS hA rfl (fun j hj => by rcases (show j = 0 ∨ j = 1 by omega) with rfl | rfl <;> rfl) (Nat.le_of_ble_eq_true rfl) (Nat.le_of_ble_eq_true rfl) dX3_init_57 (fun q9 H hP hD hS => ?_)
  have hP : va_P G.1 vwCl [(t, .inr (3, [.ref q1, .ref q3, .ref q5, .ref q7, .null, .null, .null, .null, .int (0 : Int32), .int (0 : Int32), .int (0 : Int32), .int (0 : Int32)])), (q1, .inr (1, [.ref (w101 0), .int (0 : Int32)])), ((w101 0), .inl (xI G, 6, .inl (fun _ => (0 : Int32)))), (q3, .inr (1, [.ref (w103 0), .int (0 : Int32)])), ((w103 0), .inl (xI G, 6, .inl (fun _ => (0 : Int32)))), (q5, .inr (1, [.ref (w105 0), .int (0 : Int32)])), ((w105 0), .inl (xI G, 6, .inl (fun _ => (0 : Int32)))), (q7, .inr (1, [.ref (w107 0), .int (0 : Int32)])), ((w107 0), .inl (xI G, 24, .inl (fun _ => (0 : Int32)))), (q9, .inr (1, [.null, .int (0 : Int32)]))] H := hP
  have hD : va_D A [(t, .inr (3, [.ref q1, .ref q3, .ref q5, .ref q7, .null, .null, .null, .null, .int (0 : Int32), .int (0 : Int32), .int (0 : Int32), .int (0 : Int32)])), (q1, .inr (1, [.ref (w101 0), .int (0 : Int32)])), ((w101 0), .inl (xI G, 6, .inl (fun _ => (0 : Int32)))), (q3, .inr (1, [.ref (w103 0), .int (0 : Int32)])), ((w103 0), .inl (xI G, 6, .inl (fun _ => (0 : Int32)))), (q5, .inr (1, [.ref (w105 0), .int (0 : Int32)])), ((w105 0), .inl (xI G, 6, .inl (fun _ => (0 : Int32)))), (q7, .inr (1, [.ref (w107 0), .int (0 : Int32)])), ((w107 0), .inl (xI G, 24, .inl (fun _ => (0 : Int32)))), (q9, .inr (1, [.null, .int (0 : Int32)]))] := hD
  refine W.widen (k := 9) (n := 52) (by omega) (by omega) ?_
  refine lv_dup hx hb dX3_init_60 rfl ?_
  refine lv_bipush (v := 60) hx hb dX3_init_61 (by decide) ?_
  refine xEndN (mc := 1) (ms := 60) (wr := [(t, .inr (3, [.ref q1, .ref q3, .ref q5, .ref q7, .null, .null, .null, .null, .int (0 : Int32), .int (0 : Int32), .int (0 : Int32), .int (0 : Int32)])), (q1, .inr (1, [.ref (w101 0), .int (0 : Int32)])), ((w101 0), .inl (xI G, 6, .inl (fun _ => (0 : Int32)))), (q3, .inr (1, [.ref (w103 0), .int (0 : Int32)])), ((w103 0), .inl (xI G, 6, .inl (fun _ => (0 : Int32)))), (q5, .inr (1, [.ref (w105 0), .int (0 : Int32)])), ((w105 0), .inl (xI G, 6, .inl (fun _ => (0 : Int32)))), (q7, .inr (1, [.ref (w107 0), .int (0 : Int32)])), ((w107 0), .inl (xI G, 24, .inl (fun _ => (0 : Int32))))]) (xRunI (mc := 1) (ms := 60) (As := [.int (60 : Int32)]) (rest := [.ref q9, .ref t]) hZ (c_X1_init_60 G q9 l H.size) m62 m63 m49 m64 1 rfl hdX1_init ⟨Nat.le_of_ble_eq_true rfl, Nat.le_of_ble_eq_true rfl⟩ ⟨rfl, rfl⟩ hP hD hS [9] rfl rfl rfl hl.1 rfl (Nat.le_of_ble_eq_true rfl) dX3_init_63 ⟨Nat.le_of_ble_eq_true rfl, Nat.le_of_ble_eq_true rfl⟩) hP hD hS hA [9] [0, 1, 2, 3, 4, 5, 6, 7, 8] rfl rfl (by decide +kernel) (by decide +kernel) (fun w109 H locs hP hD hS => ?_)
  have hP : va_P G.1 vwCl [(t, .inr (3, [.ref q1, .ref q3, .ref q5, .ref q7, .null, .null, .null, .null, .int (0 : Int32), .int (0 : Int32), .int (0 : Int32), .int (0 : Int32)])), (q1, .inr (1, [.ref (w101 0), .int (0 : Int32)])), ((w101 0), .inl (xI G, 6, .inl (fun _ => (0 : Int32)))), (q3, .inr (1, [.ref (w103 0), .int (0 : Int32)])), ((w103 0), .inl (xI G, 6, .inl (fun _ => (0 : Int32)))), (q5, .inr (1, [.ref (w105 0), .int (0 : Int32)])), ((w105 0), .inl (xI G, 6, .inl (fun _ => (0 : Int32)))), (q7, .inr (1, [.ref (w107 0), .int (0 : Int32)])), ((w107 0), .inl (xI G, 24, .inl (fun _ => (0 : Int32)))), (q9, .inr (1, [.ref (w109 0), .int (0 : Int32)])), ((w109 0), .inl (xI G, 60, .inl (fun _ => (0 : Int32))))] H := hP
  have hD : va_D A [(t, .inr (3, [.ref q1, .ref q3, .ref q5, .ref q7, .null, .null, .null, .null, .int (0 : Int32), .int (0 : Int32), .int (0 : Int32), .int (0 : Int32)])), (q1, .inr (1, [.ref (w101 0), .int (0 : Int32)])), ((w101 0), .inl (xI G, 6, .inl (fun _ => (0 : Int32)))), (q3, .inr (1, [.ref (w103 0), .int (0 : Int32)])), ((w103 0), .inl (xI G, 6, .inl (fun _ => (0 : Int32)))), (q5, .inr (1, [.ref (w105 0), .int (0 : Int32)])), ((w105 0), .inl (xI G, 6, .inl (fun _ => (0 : Int32)))), (q7, .inr (1, [.ref (w107 0), .int (0 : Int32)])), ((w107 0), .inl (xI G, 24, .inl (fun _ => (0 : Int32)))), (q9, .inr (1, [.ref (w109 0), .int (0 : Int32)])), ((w109 0), .inl (xI G, 60, .inl (fun _ => (0 : Int32))))] := hD
  refine W.widen (k := 10) (n := 112) (by omega) (by omega) ?_
  refine va_putF (ci := 3) (v := .ref q9) (ty := (.object "ParrotVow$Row")) (C := RX3) (T := TX3) (N := 12) hx hb hts (fun w h => tcons w (xin3 w h)) tyX3 tyX3_ok nmX3 hown hK hP hD hS 0 rfl rfl 4 (by decide) (hts _ (tcons _ m54)) (fun _ h9 => h9) rfl hin rfl (by decide +kernel) rfl rfl (Nat.le_of_ble_eq_true rfl) dX3_init_66 (fun H locs hP hD hS => ?_)
  have hP : va_P G.1 vwCl [(t, .inr (3, [.ref q1, .ref q3, .ref q5, .ref q7, .ref q9, .null, .null, .null, .int (0 : Int32), .int (0 : Int32), .int (0 : Int32), .int (0 : Int32)])), (q1, .inr (1, [.ref (w101 0), .int (0 : Int32)])), ((w101 0), .inl (xI G, 6, .inl (fun _ => (0 : Int32)))), (q3, .inr (1, [.ref (w103 0), .int (0 : Int32)])), ((w103 0), .inl (xI G, 6, .inl (fun _ => (0 : Int32)))), (q5, .inr (1, [.ref (w105 0), .int (0 : Int32)])), ((w105 0), .inl (xI G, 6, .inl (fun _ => (0 : Int32)))), (q7, .inr (1, [.ref (w107 0), .int (0 : Int32)])), ((w107 0), .inl (xI G, 24, .inl (fun _ => (0 : Int32)))), (q9, .inr (1, [.ref (w109 0), .int (0 : Int32)])), ((w109 0), .inl (xI G, 60, .inl (fun _ => (0 : Int32))))] H := hP
  have hD : va_D A [(t, .inr (3, [.ref q1, .ref q3, .ref q5, .ref q7, .ref q9, .null, .null, .null, .int (0 : Int32), .int (0 : Int32), .int (0 : Int32), .int (0 : Int32)])), (q1, .inr (1, [.ref (w101 0), .int (0 : Int32)])), ((w101 0), .inl (xI G, 6, .inl (fun _ => (0 : Int32)))), (q3, .inr (1, [.ref (w103 0), .int (0 : Int32)])), ((w103 0), .inl (xI G, 6, .inl (fun _ => (0 : Int32)))), (q5, .inr (1, [.ref (w105 0), .int (0 : Int32)])), ((w105 0), .inl (xI G, 6, .inl (fun _ => (0 : Int32)))), (q7, .inr (1, [.ref (w107 0), .int (0 : Int32)])), ((w107 0), .inl (xI G, 24, .inl (fun _ => (0 : Int32)))), (q9, .inr (1, [.ref (w109 0), .int (0 : Int32)])), ((w109 0), .inl (xI G, 60, .inl (fun _ => (0 : Int32))))] := hD
  refine lv_aload_n hx hb dX3_init_69 rfl (lv_at hl 0 rfl) ?_
  refine va_new (ci := 1) (fs := [.null, .int 0]) (C := RX1) (T := TX1) (N := 2) hx hb hts (fun w h => tcons w (xin1 w h)) tyX1 tyX1_ok hown (hts _ (tcons _ m47)) (hts _ (tcons _ m48)) (hts _ (tcons _ m49)) hK hP hD hS hA rfl (fun j hj => by rcases (show j = 0 ∨ j = 1 by omega) with rfl | rfl <;> rfl) (Nat.le_of_ble_eq_true rfl) (Nat.le_of_ble_eq_true rfl) dX3_init_70 (fun q11 H hP hD hS => ?_)
  have hP : va_P G.1 vwCl [(t, .inr (3, [.ref q1, .ref q3, .ref q5, .ref q7, .ref q9, .null, .null, .null, .int (0 : Int32), .int (0 : Int32), .int (0 : Int32), .int (0 : Int32)])), (q1, .inr (1, [.ref (w101 0), .int (0 : Int32)])), ((w101 0), .inl (xI G, 6, .inl (fun _ => (0 : Int32)))), (q3, .inr (1, [.ref (w103 0), .int (0 : Int32)])), ((w103 0), .inl (xI G, 6, .inl (fun _ => (0 : Int32)))), (q5, .inr (1, [.ref (w105 0), .int (0 : Int32)])), ((w105 0), .inl (xI G, 6, .inl (fun _ => (0 : Int32)))), (q7, .inr (1, [.ref (w107 0), .int (0 : Int32)])), ((w107 0), .inl (xI G, 24, .inl (fun _ => (0 : Int32)))), (q9, .inr (1, [.ref (w109 0), .int (0 : Int32)])), ((w109 0), .inl (xI G, 60, .inl (fun _ => (0 : Int32)))), (q11, .inr (1, [.null, .int (0 : Int32)]))] H := hP
  have hD : va_D A [(t, .inr (3, [.ref q1, .ref q3, .ref q5, .ref q7, .ref q9, .null, .null, .null, .int (0 : Int32), .int (0 : Int32), .int (0 : Int32), .int (0 : Int32)])), (q1, .inr (1, [.ref (w101 0), .int (0 : Int32)])), ((w101 0), .inl (xI G, 6, .inl (fun _ => (0 : Int32)))), (q3, .inr (1, [.ref (w103 0), .int (0 : Int32)])), ((w103 0), .inl (xI G, 6, .inl (fun _ => (0 : Int32)))), (q5, .inr (1, [.ref (w105 0), .int (0 : Int32)])), ((w105 0), .inl (xI G, 6, .inl (fun _ => (0 : Int32)))), (q7, .inr (1, [.ref (w107 0), .int (0 : Int32)])), ((w107 0), .inl (xI G, 24, .inl (fun _ => (0 : Int32)))), (q9, .inr (1, [.ref (w109 0), .int (0 : Int32)])), ((w109 0), .inl (xI G, 60, .inl (fun _ => (0 : Int32)))), (q11, .inr (1, [.null, .int (0 : Int32)]))] := hD
  refine W.widen (k := 11) (n := 114) (by omega) (by omega) ?_
  refine lv_dup hx hb dX3_init_73 rfl ?_
  refine lv_bipush (v := 60) hx hb dX3_init_74 (by decide) ?_
  refine xEndN (mc := 1) (ms := 60) (wr := [(t, .inr (3, [.ref q1, .ref q3, .ref q5, .ref q7, .ref q9, .null, .null, .null, .int (0 : Int32), .int (0 : Int32), .int (0 : Int32), .int (0 : Int32)])), (q1, .inr (1, [.ref (w101 0), .int (0 : Int32)])), ((w101 0), .inl (xI G, 6, .inl (fun _ => (0 : Int32)))), (q3, .inr (1, [.ref (w103 0), .int (0 : Int32)])), ((w103 0), .inl (xI G, 6, .inl (fun _ => (0 : Int32)))), (q5, .inr (1, [.ref (w105 0), .int (0 : Int32)])), ((w105 0), .inl (xI G, 6, .inl (fun _ => (0 : Int32)))), (q7, .inr (1, [.ref (w107 0), .int (0 : Int32)])), ((w107 0), .inl (xI G, 24, .inl (fun _ => (0 : Int32)))), (q9, .inr (1, [.ref (w109 0), .int (0 : Int32)])), ((w109 0), .inl (xI G, 60, .inl (fun _ => (0 : Int32))))]) (xRunI (mc := 1) (ms := 60) (As := [.int (60 : Int32)]) (rest := [.ref q11, .ref t]) hZ (c_X1_init_60 G q11 l H.size) m62 m63 m49 m64 1 rfl hdX1_init ⟨Nat.le_of_ble_eq_true rfl, Nat.le_of_ble_eq_true rfl⟩ ⟨rfl, rfl⟩ hP hD hS [11] rfl rfl rfl hl.1 rfl (Nat.le_of_ble_eq_true rfl) dX3_init_76 ⟨Nat.le_of_ble_eq_true rfl, Nat.le_of_ble_eq_true rfl⟩) hP hD hS hA [11] [0, 1, 2, 3, 4, 5, 6, 7, 8, 9, 10] rfl rfl (by decide +kernel) (by decide +kernel) (fun w111 H locs hP hD hS => ?_)
  have hP : va_P G.1 vwCl [(t, .inr (3, [.ref q1, .ref q3, .ref q5, .ref q7, .ref q9, .null, .null, .null, .int (0 : Int32), .int (0 : Int32), .int (0 : Int32), .int (0 : Int32)])), (q1, .inr (1, [.ref (w101 0), .int (0 : Int32)])), ((w101 0), .inl (xI G, 6, .inl (fun _ => (0 : Int32)))), (q3, .inr (1, [.ref (w103 0), .int (0 : Int32)])), ((w103 0), .inl (xI G, 6, .inl (fun _ => (0 : Int32)))), (q5, .inr (1, [.ref (w105 0), .int (0 : Int32)])), ((w105 0), .inl (xI G, 6, .inl (fun _ => (0 : Int32)))), (q7, .inr (1, [.ref (w107 0), .int (0 : Int32)])), ((w107 0), .inl (xI G, 24, .inl (fun _ => (0 : Int32)))), (q9, .inr (1, [.ref (w109 0), .int (0 : Int32)])), ((w109 0), .inl (xI G, 60, .inl (fun _ => (0 : Int32)))), (q11, .inr (1, [.ref (w111 0), .int (0 : Int32)])), ((w111 0), .inl (xI G, 60, .inl (fun _ => (0 : Int32))))] H := hP
  have hD : va_D A [(t, .inr (3, [.ref q1, .ref q3, .ref q5, .ref q7, .ref q9, .null, .null, .null, .int (0 : Int32), .int (0 : Int32), .int (0 : Int32), .int (0 : Int32)])), (q1, .inr (1, [.ref (w101 0), .int (0 : Int32)])), ((w101 0), .inl (xI G, 6, .inl (fun _ => (0 : Int32)))), (q3, .inr (1, [.ref (w103 0), .int (0 : Int32)])), ((w103 0), .inl (xI G, 6, .inl (fun _ => (0 : Int32)))), (q5, .inr (1, [.ref (w105 0), .int (0 : Int32)])), ((w105 0), .inl (xI G, 6, .inl (fun _ => (0 : Int32)))), (q7, .inr (1, [.ref (w107 0), .int (0 : Int32)])), ((w107 0), .inl (xI G, 24, .inl (fun _ => (0 : Int32)))), (q9, .inr (1, [.ref (w109 0), .int (0 : Int32)])), ((w109 0), .inl (xI G, 60, .inl (fun _ => (0 : Int32)))), (q11, .inr (1, [.ref (w111 0), .int (0 : Int32)])), ((w111 0), .inl (xI G, 60, .inl (fun _ => (0 : Int32))))] := hD
  refine W.widen (k := 12) (n := 174) (by omega) (by omega) ?_
  refine va_putF (ci := 3) (v := .ref q11) (ty := (.object "ParrotVow$Row")) (C := RX3) (T := TX3) (N := 12) hx hb hts (fun w h => tcons w (xin3 w h)) tyX3 tyX3_ok nmX3 hown hK hP hD hS 0 rfl rfl 5 (by decide) (hts _ (tcons _ m55)) (fun _ h9 => h9) rfl hin rfl (by decide +kernel) rfl rfl (Nat.le_of_ble_eq_true rfl) dX3_init_79 (fun H locs hP hD hS => ?_)
  have hP : va_P G.1 vwCl [(t, .inr (3, [.ref q1, .ref q3, .ref q5, .ref q7, .ref q9, .ref q11, .null, .null, .int (0 : Int32), .int (0 : Int32), .int (0 : Int32), .int (0 : Int32)])), (q1, .inr (1, [.ref (w101 0), .int (0 : Int32)])), ((w101 0), .inl (xI G, 6, .inl (fun _ => (0 : Int32)))), (q3, .inr (1, [.ref (w103 0), .int (0 : Int32)])), ((w103 0), .inl (xI G, 6, .inl (fun _ => (0 : Int32)))), (q5, .inr (1, [.ref (w105 0), .int (0 : Int32)])), ((w105 0), .inl (xI G, 6, .inl (fun _ => (0 : Int32)))), (q7, .inr (1, [.ref (w107 0), .int (0 : Int32)])), ((w107 0), .inl (xI G, 24, .inl (fun _ => (0 : Int32)))), (q9, .inr (1, [.ref (w109 0), .int (0 : Int32)])), ((w109 0), .inl (xI G, 60, .inl (fun _ => (0 : Int32)))), (q11, .inr (1, [.ref (w111 0), .int (0 : Int32)])), ((w111 0), .inl (xI G, 60, .inl (fun _ => (0 : Int32))))] H := hP
  have hD : va_D A [(t, .inr (3, [.ref q1, .ref q3, .ref q5, .ref q7, .ref q9, .ref q11, .null, .null, .int (0 : Int32), .int (0 : Int32), .int (0 : Int32), .int (0 : Int32)])), (q1, .inr (1, [.ref (w101 0), .int (0 : Int32)])), ((w101 0), .inl (xI G, 6, .inl (fun _ => (0 : Int32)))), (q3, .inr (1, [.ref (w103 0), .int (0 : Int32)])), ((w103 0), .inl (xI G, 6, .inl (fun _ => (0 : Int32)))), (q5, .inr (1, [.ref (w105 0), .int (0 : Int32)])), ((w105 0), .inl (xI G, 6, .inl (fun _ => (0 : Int32)))), (q7, .inr (1, [.ref (w107 0), .int (0 : Int32)])), ((w107 0), .inl (xI G, 24, .inl (fun _ => (0 : Int32)))), (q9, .inr (1, [.ref (w109 0), .int (0 : Int32)])), ((w109 0), .inl (xI G, 60, .inl (fun _ => (0 : Int32)))), (q11, .inr (1, [.ref (w111 0), .int (0 : Int32)])), ((w111 0), .inl (xI G, 60, .inl (fun _ => (0 : Int32))))] := hD
  refine lv_aload_n hx hb dX3_init_82 rfl (lv_at hl 0 rfl) ?_
  refine va_new (ci := 1) (fs := [.null, .int 0]) (C := RX1) (T := TX1) (N := 2) hx hb hts (fun w h => tcons w (xin1 w h)) tyX1 tyX1_ok hown (hts _ (tcons _ m47)) (hts _ (tcons _ m48)) (hts _ (tcons _ m49)) hK hP hD hS hA rfl (fun j hj => by rcases (show j = 0 ∨ j = 1 by omega) with rfl | rfl <;> rfl) (Nat.le_of_ble_eq_true rfl) (Nat.le_of_ble_eq_true rfl) dX3_init_83 (fun q13 H hP hD hS => ?_)
  have hP : va_P G.1 vwCl [(t, .inr (3, [.ref q1, .ref q3, .ref q5, .ref q7, .ref q9, .ref q11, .null, .null, .int (0 : Int32), .int (0 : Int32), .int (0 : Int32), .int (0 : Int32)])), (q1, .inr (1, [.ref (w101 0), .int (0 : Int32)])), ((w101 0), .inl (xI G, 6, .inl (fun _ => (0 : Int32)))), (q3, .inr (1, [.ref (w103 0), .int (0 : Int32)])), ((w103 0), .inl (xI G, 6, .inl (fun _ => (0 : Int32)))), (q5, .inr (1, [.ref (w105 0), .int (0 : Int32)])), ((w105 0), .inl (xI G, 6, .inl (fun _ => (0 : Int32)))), (q7, .inr (1, [.ref (w107 0), .int (0 : Int32)])), ((w107 0), .inl (xI G, 24, .inl (fun _ => (0 : Int32)))), (q9, .inr (1, [.ref (w109 0), .int (0 : Int32)])), ((w109 0), .inl (xI G, 60, .inl (fun _ => (0 : Int32)))), (q11, .inr (1, [.ref (w111 0), .int (0 : Int32)])), ((w111 0), .inl (xI G, 60, .inl (fun _ => (0 : Int32)))), (q13, .inr (1, [.null, .int (0 : Int32)]))] H := hP
  have hD : va_D A [(t, .inr (3, [.ref q1, .ref q3, .ref q5, .ref q7, .ref q9, .ref q11, .null, .null, .int (0 : Int32), .int (0 : Int32), .int (0 : Int32), .int (0 : Int32)])), (q1, .inr (1, [.ref (w101 0), .int (0 : Int32)])), ((w101 0), .inl (xI G, 6, .inl (fun _ => (0 : Int32)))), (q3, .inr (1, [.ref (w103 0), .int (0 : Int32)])), ((w103 0), .inl (xI G, 6, .inl (fun _ => (0 : Int32)))), (q5, .inr (1, [.ref (w105 0), .int (0 : Int32)])), ((w105 0), .inl (xI G, 6, .inl (fun _ => (0 : Int32)))), (q7, .inr (1, [.ref (w107 0), .int (0 : Int32)])), ((w107 0), .inl (xI G, 24, .inl (fun _ => (0 : Int32)))), (q9, .inr (1, [.ref (w109 0), .int (0 : Int32)])), ((w109 0), .inl (xI G, 60, .inl (fun _ => (0 : Int32)))), (q11, .inr (1, [.ref (w111 0), .int (0 : Int32)])), ((w111 0), .inl (xI G, 60, .inl (fun _ => (0 : Int32)))), (q13, .inr (1, [.null, .int (0 : Int32)]))] := hD
  refine W.widen (k := 13) (n := 176) (by omega) (by omega) ?_
  refine lv_dup hx hb dX3_init_86 rfl ?_
  refine lv_bipush (v := 60) hx hb dX3_init_87 (by decide) ?_
  refine xEndN (mc := 1) (ms := 60) (wr := [(t, .inr (3, [.ref q1, .ref q3, .ref q5, .ref q7, .ref q9, .ref q11, .null, .null, .int (0 : Int32), .int (0 : Int32), .int (0 : Int32), .int (0 : Int32)])), (q1, .inr (1, [.ref (w101 0), .int (0 : Int32)])), ((w101 0), .inl (xI G, 6, .inl (fun _ => (0 : Int32)))), (q3, .inr (1, [.ref (w103 0), .int (0 : Int32)])), ((w103 0), .inl (xI G, 6, .inl (fun _ => (0 : Int32)))), (q5, .inr (1, [.ref (w105 0), .int (0 : Int32)])), ((w105 0), .inl (xI G, 6, .inl (fun _ => (0 : Int32)))), (q7, .inr (1, [.ref (w107 0), .int (0 : Int32)])), ((w107 0), .inl (xI G, 24, .inl (fun _ => (0 : Int32)))), (q9, .inr (1, [.ref (w109 0), .int (0 : Int32)])), ((w109 0), .inl (xI G, 60, .inl (fun _ => (0 : Int32)))), (q11, .inr (1, [.ref (w111 0), .int (0 : Int32)])), ((w111 0), .inl (xI G, 60, .inl (fun _ => (0 : Int32))))]) (xRunI (mc := 1) (ms := 60) (As := [.int (60 : Int32)]) (rest := [.ref q13, .ref t]) hZ (c_X1_init_60 G q13 l H.size) m62 m63 m49 m64 1 rfl hdX1_init ⟨Nat.le_of_ble_eq_true rfl, Nat.le_of_ble_eq_true rfl⟩ ⟨rfl, rfl⟩ hP hD hS [13] rfl rfl rfl hl.1 rfl (Nat.le_of_ble_eq_true rfl) dX3_init_89 ⟨Nat.le_of_ble_eq_true rfl, Nat.le_of_ble_eq_true rfl⟩) hP hD hS hA [13] [0, 1, 2, 3, 4, 5, 6, 7, 8, 9, 10, 11, 12] rfl rfl (by decide +kernel) (by decide +kernel) (fun w113 H locs hP hD hS => ?_)
  have hP : va_P G.1 vwCl [(t, .inr (3, [.ref q1, .ref q3, .ref q5, .ref q7, .ref q9, .ref q11, .null, .null, .int (0 : Int32), .int (0 : Int32), .int (0 : Int32), .int (0 : Int32)])), (q1, .inr (1, [.ref (w101 0), .int (0 : Int32)])), ((w101 0), .inl (xI G, 6, .inl (fun _ => (0 : Int32)))), (q3, .inr (1, [.ref (w103 0), .int (0 : Int32)])), ((w103 0), .inl (xI G, 6, .inl (fun _ => (0 : Int32)))), (q5, .inr (1, [.ref (w105 0), .int (0 : Int32)])), ((w105 0), .inl (xI G, 6, .inl (fun _ => (0 : Int32)))), (q7, .inr (1, [.ref (w107 0), .int (0 : Int32)])), ((w107 0), .inl (xI G, 24, .inl (fun _ => (0 : Int32)))), (q9, .inr (1, [.ref (w109 0), .int (0 : Int32)])), ((w109 0), .inl (xI G, 60, .inl (fun _ => (0 : Int32)))), (q11, .inr (1, [.ref (w111 0), .int (0 : Int32)])), ((w111 0), .inl (xI G, 60, .inl (fun _ => (0 : Int32)))), (q13, .inr (1, [.ref (w113 0), .int (0 : Int32)])), ((w113 0), .inl (xI G, 60, .inl (fun _ => (0 : Int32))))] H := hP
  have hD : va_D A [(t, .inr (3, [.ref q1, .ref q3, .ref q5, .ref q7, .ref q9, .ref q11, .null, .null, .int (0 : Int32), .int (0 : Int32), .int (0 : Int32), .int (0 : Int32)])), (q1, .inr (1, [.ref (w101 0), .int (0 : Int32)])), ((w101 0), .inl (xI G, 6, .inl (fun _ => (0 : Int32)))), (q3, .inr (1, [.ref (w103 0), .int (0 : Int32)])), ((w103 0), .inl (xI G, 6, .inl (fun _ => (0 : Int32)))), (q5, .inr (1, [.ref (w105 0), .int (0 : Int32)])), ((w105 0), .inl (xI G, 6, .inl (fun _ => (0 : Int32)))), (q7, .inr (1, [.ref (w107 0), .int (0 : Int32)])), ((w107 0), .inl (xI G, 24, .inl (fun _ => (0 : Int32)))), (q9, .inr (1, [.ref (w109 0), .int (0 : Int32)])), ((w109 0), .inl (xI G, 60, .inl (fun _ => (0 : Int32)))), (q11, .inr (1, [.ref (w111 0), .int (0 : Int32)])), ((w111 0), .inl (xI G, 60, .inl (fun _ => (0 : Int32)))), (q13, .inr (1, [.ref (w113 0), .int (0 : Int32)])), ((w113 0), .inl (xI G, 60, .inl (fun _ => (0 : Int32))))] := hD
  refine W.widen (k := 14) (n := 236) (by omega) (by omega) ?_
  refine va_putF (ci := 3) (v := .ref q13) (ty := (.object "ParrotVow$Row")) (C := RX3) (T := TX3) (N := 12) hx hb hts (fun w h => tcons w (xin3 w h)) tyX3 tyX3_ok nmX3 hown hK hP hD hS 0 rfl rfl 6 (by decide) (hts _ (tcons _ m56)) (fun _ h9 => h9) rfl hin rfl (by decide +kernel) rfl rfl (Nat.le_of_ble_eq_true rfl) dX3_init_92 (fun H locs hP hD hS => ?_)
  have hP : va_P G.1 vwCl [(t, .inr (3, [.ref q1, .ref q3, .ref q5, .ref q7, .ref q9, .ref q11, .ref q13, .null, .int (0 : Int32), .int (0 : Int32), .int (0 : Int32), .int (0 : Int32)])), (q1, .inr (1, [.ref (w101 0), .int (0 : Int32)])), ((w101 0), .inl (xI G, 6, .inl (fun _ => (0 : Int32)))), (q3, .inr (1, [.ref (w103 0), .int (0 : Int32)])), ((w103 0), .inl (xI G, 6, .inl (fun _ => (0 : Int32)))), (q5, .inr (1, [.ref (w105 0), .int (0 : Int32)])), ((w105 0), .inl (xI G, 6, .inl (fun _ => (0 : Int32)))), (q7, .inr (1, [.ref (w107 0), .int (0 : Int32)])), ((w107 0), .inl (xI G, 24, .inl (fun _ => (0 : Int32)))), (q9, .inr (1, [.ref (w109 0), .int (0 : Int32)])), ((w109 0), .inl (xI G, 60, .inl (fun _ => (0 : Int32)))), (q11, .inr (1, [.ref (w111 0), .int (0 : Int32)])), ((w111 0), .inl (xI G, 60, .inl (fun _ => (0 : Int32)))), (q13, .inr (1, [.ref (w113 0), .int (0 : Int32)])), ((w113 0), .inl (xI G, 60, .inl (fun _ => (0 : Int32))))] H := hP
  have hD : va_D A [(t, .inr (3, [.ref q1, .ref q3, .ref q5, .ref q7, .ref q9, .ref q11, .ref q13, .null, .int (0 : Int32), .int (0 : Int32), .int (0 : Int32), .int (0 : Int32)])), (q1, .inr (1, [.ref (w101 0), .int (0 : Int32)])), ((w101 0), .inl (xI G, 6, .inl (fun _ => (0 : Int32)))), (q3, .inr (1, [.ref (w103 0), .int (0 : Int32)])), ((w103 0), .inl (xI G, 6, .inl (fun _ => (0 : Int32)))), (q5, .inr (1, [.ref (w105 0), .int (0 : Int32)])), ((w105 0), .inl (xI G, 6, .inl (fun _ => (0 : Int32)))), (q7, .inr (1, [.ref (w107 0), .int (0 : Int32)])), ((w107 0), .inl (xI G, 24, .inl (fun _ => (0 : Int32)))), (q9, .inr (1, [.ref (w109 0), .int (0 : Int32)])), ((w109 0), .inl (xI G, 60, .inl (fun _ => (0 : Int32)))), (q11, .inr (1, [.ref (w111 0), .int (0 : Int32)])), ((w111 0), .inl (xI G, 60, .inl (fun _ => (0 : Int32)))), (q13, .inr (1, [.ref (w113 0), .int (0 : Int32)])), ((w113 0), .inl (xI G, 60, .inl (fun _ => (0 : Int32))))] := hD
  refine lv_aload_n hx hb dX3_init_95 rfl (lv_at hl 0 rfl) ?_
  refine va_new (ci := 1) (fs := [.null, .int 0]) (C := RX1) (T := TX1) (N := 2) hx hb hts (fun w h => tcons w (xin1 w h)) tyX1 tyX1_ok hown (hts _ (tcons _ m47)) (hts _ (tcons _ m48)) (hts _ (tcons _ m49)) hK hP hD hS hA rfl (fun j hj => by rcases (show j = 0 ∨ j = 1 by omega) with rfl | rfl <;> rfl) (Nat.le_of_ble_eq_true rfl) (Nat.le_of_ble_eq_true rfl) dX3_init_96 (fun q15 H hP hD hS => ?_)
  have hP : va_P G.1 vwCl [(t, .inr (3, [.ref q1, .ref q3, .ref q5, .ref q7, .ref q9, .ref q11, .ref q13, .null, .int (0 : Int32), .int (0 : Int32), .int (0 : Int32), .int (0 : Int32)])), (q1, .inr (1, [.ref (w101 0), .int (0 : Int32)])), ((w101 0), .inl (xI G, 6, .inl (fun _ => (0 : Int32)))), (q3, .inr (1, [.ref (w103 0), .int (0 : Int32)])), ((w103 0), .inl (xI G, 6, .inl (fun _ => (0 : Int32)))), (q5, .inr (1, [.ref (w105 0), .int (0 : Int32)])), ((w105 0), .inl (xI G, 6, .inl (fun _ => (0 : Int32)))), (q7, .inr (1, [.ref (w107 0), .int (0 : Int32)])), ((w107 0), .inl (xI G, 24, .inl (fun _ => (0 : Int32)))), (q9, .inr (1, [.ref (w109 0), .int (0 : Int32)])), ((w109 0), .inl (xI G, 60, .inl (fun _ => (0 : Int32)))), (q11, .inr (1, [.ref (w111 0), .int (0 : Int32)])), ((w111 0), .inl (xI G, 60, .inl (fun _ => (0 : Int32)))), (q13, .inr (1, [.ref (w113 0), .int (0 : Int32)])), ((w113 0), .inl (xI G, 60, .inl (fun _ => (0 : Int32)))), (q15, .inr (1, [.null, .int (0 : Int32)]))] H := hP
  have hD : va_D A [(t, .inr (3, [.ref q1, .ref q3, .ref q5, .ref q7, .ref q9, .ref q11, .ref q13, .null, .int (0 : Int32), .int (0 : Int32), .int (0 : Int32), .int (0 : Int32)])), (q1, .inr (1, [.ref (w101 0), .int (0 : Int32)])), ((w101 0), .inl (xI G, 6, .inl (fun _ => (0 : Int32)))), (q3, .inr (1, [.ref (w103 0), .int (0 : Int32)])), ((w103 0), .inl (xI G, 6, .inl (fun _ => (0 : Int32)))), (q5, .inr (1, [.ref (w105 0), .int (0 : Int32)])), ((w105 0), .inl (xI G, 6, .inl (fun _ => (0 : Int32)))), (q7, .inr (1, [.ref (w107 0), .int (0 : Int32)])), ((w107 0), .inl (xI G, 24, .inl (fun _ => (0 : Int32)))), (q9, .inr (1, [.ref (w109 0), .int (0 : Int32)])), ((w109 0), .inl (xI G, 60, .inl (fun _ => (0 : Int32)))), (q11, .inr (1, [.ref (w111 0), .int (0 : Int32)])), ((w111 0), .inl (xI G, 60, .inl (fun _ => (0 : Int32)))), (q13, .inr (1, [.ref (w113 0), .int (0 : Int32)])), ((w113 0), .inl (xI G, 60, .inl (fun _ => (0 : Int32)))), (q15, .inr (1, [.null, .int (0 : Int32)]))] := hD
  refine W.widen (k := 15) (n := 238) (by omega) (by omega) ?_
  refine lv_dup hx hb dX3_init_99 rfl ?_
  refine lv_bipush (v := 24) hx hb dX3_init_100 (by decide) ?_
  refine xEndN (mc := 1) (ms := 24) (wr := [(t, .inr (3, [.ref q1, .ref q3, .ref q5, .ref q7, .ref q9, .ref q11, .ref q13, .null, .int (0 : Int32), .int (0 : Int32), .int (0 : Int32), .int (0 : Int32)])), (q1, .inr (1, [.ref (w101 0), .int (0 : Int32)])), ((w101 0), .inl (xI G, 6, .inl (fun _ => (0 : Int32)))), (q3, .inr (1, [.ref (w103 0), .int (0 : Int32)])), ((w103 0), .inl (xI G, 6, .inl (fun _ => (0 : Int32)))), (q5, .inr (1, [.ref (w105 0), .int (0 : Int32)])), ((w105 0), .inl (xI G, 6, .inl (fun _ => (0 : Int32)))), (q7, .inr (1, [.ref (w107 0), .int (0 : Int32)])), ((w107 0), .inl (xI G, 24, .inl (fun _ => (0 : Int32)))), (q9, .inr (1, [.ref (w109 0), .int (0 : Int32)])), ((w109 0), .inl (xI G, 60, .inl (fun _ => (0 : Int32)))), (q11, .inr (1, [.ref (w111 0), .int (0 : Int32)])), ((w111 0), .inl (xI G, 60, .inl (fun _ => (0 : Int32)))), (q13, .inr (1, [.ref (w113 0), .int (0 : Int32)])), ((w113 0), .inl (xI G, 60, .inl (fun _ => (0 : Int32))))]) (xRunI (mc := 1) (ms := 24) (As := [.int (24 : Int32)]) (rest := [.ref q15, .ref t]) hZ (c_X1_init_24 G q15 l H.size) m62 m63 m49 m64 1 rfl hdX1_init ⟨Nat.le_of_ble_eq_true rfl, Nat.le_of_ble_eq_true rfl⟩ ⟨rfl, rfl⟩ hP hD hS [15] rfl rfl rfl hl.1 rfl (Nat.le_of_ble_eq_true rfl) dX3_init_102 ⟨Nat.le_of_ble_eq_true rfl, Nat.le_of_ble_eq_true rfl⟩) hP hD hS hA [15] [0, 1, 2, 3, 4, 5, 6, 7, 8, 9, 10, 11, 12, 13, 14] rfl rfl (by decide +kernel) (by decide +kernel) (fun w115 H locs hP hD hS => ?_)
  have hP : va_P G.1 vwCl [(t, .inr (3, [.ref q1, .ref q3, .ref q5, .ref q7, .ref q9, .ref q11, .ref q13, .null, .int (0 : Int32), .int (0 : Int32), .int (0 : Int32), .int (0 : Int32)])), (q1, .inr (1, [.ref (w101 0), .int (0 : Int32)])), ((w101 0), .inl (xI G, 6, .inl (fun _ => (0 : Int32)))), (q3, .inr (1, [.ref (w103 0), .int (0 : Int32)])), ((w103 0), .inl (xI G, 6, .inl (fun _ => (0 : Int32)))), (q5, .inr (1, [.ref (w105 0), .int (0 : Int32)])), ((w105 0), .inl (xI G, 6, .inl (fun _ => (0 : Int32)))), (q7, .inr (1, [.ref (w107 0), .int (0 : Int32)])), ((w107 0), .inl (xI G, 24, .inl (fun _ => (0 : Int32)))), (q9, .inr (1, [.ref (w109 0), .int (0 : Int32)])), ((w109 0), .inl (xI G, 60, .inl (fun _ => (0 : Int32)))), (q11, .inr (1, [.ref (w111 0), .int (0 : Int32)])), ((w111 0), .inl (xI G, 60, .inl (fun _ => (0 : Int32)))), (q13, .inr (1, [.ref (w113 0), .int (0 : Int32)])), ((w113 0), .inl (xI G, 60, .inl (fun _ => (0 : Int32)))), (q15, .inr (1, [.ref (w115 0), .int (0 : Int32)])), ((w115 0), .inl (xI G, 24, .inl (fun _ => (0 : Int32))))] H := hP
  have hD : va_D A [(t, .inr (3, [.ref q1, .ref q3, .ref q5, .ref q7, .ref q9, .ref q11, .ref q13, .null, .int (0 : Int32), .int (0 : Int32), .int (0 : Int32), .int (0 : Int32)])), (q1, .inr (1, [.ref (w101 0), .int (0 : Int32)])), ((w101 0), .inl (xI G, 6, .inl (fun _ => (0 : Int32)))), (q3, .inr (1, [.ref (w103 0), .int (0 : Int32)])), ((w103 0), .inl (xI G, 6, .inl (fun _ => (0 : Int32)))), (q5, .inr (1, [.ref (w105 0), .int (0 : Int32)])), ((w105 0), .inl (xI G, 6, .inl (fun _ => (0 : Int32)))), (q7, .inr (1, [.ref (w107 0), .int (0 : Int32)])), ((w107 0), .inl (xI G, 24, .inl (fun _ => (0 : Int32)))), (q9, .inr (1, [.ref (w109 0), .int (0 : Int32)])), ((w109 0), .inl (xI G, 60, .inl (fun _ => (0 : Int32)))), (q11, .inr (1, [.ref (w111 0), .int (0 : Int32)])), ((w111 0), .inl (xI G, 60, .inl (fun _ => (0 : Int32)))), (q13, .inr (1, [.ref (w113 0), .int (0 : Int32)])), ((w113 0), .inl (xI G, 60, .inl (fun _ => (0 : Int32)))), (q15, .inr (1, [.ref (w115 0), .int (0 : Int32)])), ((w115 0), .inl (xI G, 24, .inl (fun _ => (0 : Int32))))] := hD
  refine W.widen (k := 16) (n := 262) (by omega) (by omega) ?_
  refine va_putF (ci := 3) (v := .ref q15) (ty := (.object "ParrotVow$Row")) (C := RX3) (T := TX3) (N := 12) hx hb hts (fun w h => tcons w (xin3 w h)) tyX3 tyX3_ok nmX3 hown hK hP hD hS 0 rfl rfl 7 (by decide) (hts _ (tcons _ m57)) (fun _ h9 => h9) rfl hin rfl (by decide +kernel) rfl rfl (Nat.le_of_ble_eq_true rfl) dX3_init_105 (fun H locs hP hD hS => ?_)
  have hP : va_P G.1 vwCl [(t, .inr (3, [.ref q1, .ref q3, .ref q5, .ref q7, .ref q9, .ref q11, .ref q13, .ref q15, .int (0 : Int32), .int (0 : Int32), .int (0 : Int32), .int (0 : Int32)])), (q1, .inr (1, [.ref (w101 0), .int (0 : Int32)])), ((w101 0), .inl (xI G, 6, .inl (fun _ => (0 : Int32)))), (q3, .inr (1, [.ref (w103 0), .int (0 : Int32)])), ((w103 0), .inl (xI G, 6, .inl (fun _ => (0 : Int32)))), (q5, .inr (1, [.ref (w105 0), .int (0 : Int32)])), ((w105 0), .inl (xI G, 6, .inl (fun _ => (0 : Int32)))), (q7, .inr (1, [.ref (w107 0), .int (0 : Int32)])), ((w107 0), .inl (xI G, 24, .inl (fun _ => (0 : Int32)))), (q9, .inr (1, [.ref (w109 0), .int (0 : Int32)])), ((w109 0), .inl (xI G, 60, .inl (fun _ => (0 : Int32)))), (q11, .inr (1, [.ref (w111 0), .int (0 : Int32)])), ((w111 0), .inl (xI G, 60, .inl (fun _ => (0 : Int32)))), (q13, .inr (1, [.ref (w113 0), .int (0 : Int32)])), ((w113 0), .inl (xI G, 60, .inl (fun _ => (0 : Int32)))), (q15, .inr (1, [.ref (w115 0), .int (0 : Int32)])), ((w115 0), .inl (xI G, 24, .inl (fun _ => (0 : Int32))))] H := hP
  have hD : va_D A [(t, .inr (3, [.ref q1, .ref q3, .ref q5, .ref q7, .ref q9, .ref q11, .ref q13, .ref q15, .int (0 : Int32), .int (0 : Int32), .int (0 : Int32), .int (0 : Int32)])), (q1, .inr (1, [.ref (w101 0), .int (0 : Int32)])), ((w101 0), .inl (xI G, 6, .inl (fun _ => (0 : Int32)))), (q3, .inr (1, [.ref (w103 0), .int (0 : Int32)])), ((w103 0), .inl (xI G, 6, .inl (fun _ => (0 : Int32)))), (q5, .inr (1, [.ref (w105 0), .int (0 : Int32)])), ((w105 0), .inl (xI G, 6, .inl (fun _ => (0 : Int32)))), (q7, .inr (1, [.ref (w107 0), .int (0 : Int32)])), ((w107 0), .inl (xI G, 24, .inl (fun _ => (0 : Int32)))), (q9, .inr (1, [.ref (w109 0), .int (0 : Int32)])), ((w109 0), .inl (xI G, 60, .inl (fun _ => (0 : Int32)))), (q11, .inr (1, [.ref (w111 0), .int (0 : Int32)])), ((w111 0), .inl (xI G, 60, .inl (fun _ => (0 : Int32)))), (q13, .inr (1, [.ref (w113 0), .int (0 : Int32)])), ((w113 0), .inl (xI G, 60, .inl (fun _ => (0 : Int32)))), (q15, .inr (1, [.ref (w115 0), .int (0 : Int32)])), ((w115 0), .inl (xI G, 24, .inl (fun _ => (0 : Int32))))] := hD
  refine lv_aload_n hx hb dX3_init_108 rfl (lv_at hl 0 rfl) ?_
  refine lv_sipush (v := 728) hx hb dX3_init_109 (by decide) ?_
  refine va_put (ci := 3) (v := .int (728 : Int32)) (ty := .int) (C := RX3) (T := TX3) (N := 12) hx hb hts (fun w h => tcons w (xin3 w h)) tyX3 tyX3_ok nmX3 hown hK hP hD hS 0 rfl rfl 8 (by decide) (hts _ (tcons _ m58)) (fun _ h9 => h9) rfl (by decide +kernel) rfl rfl (Nat.le_of_ble_eq_true rfl) dX3_init_112 (fun H locs hP hD hS => ?_)
  have hP : va_P G.1 vwCl [(t, .inr (3, [.ref q1, .ref q3, .ref q5, .ref q7, .ref q9, .ref q11, .ref q13, .ref q15, .int (728 : Int32), .int (0 : Int32), .int (0 : Int32), .int (0 : Int32)])), (q1, .inr (1, [.ref (w101 0), .int (0 : Int32)])), ((w101 0), .inl (xI G, 6, .inl (fun _ => (0 : Int32)))), (q3, .inr (1, [.ref (w103 0), .int (0 : Int32)])), ((w103 0), .inl (xI G, 6, .inl (fun _ => (0 : Int32)))), (q5, .inr (1, [.ref (w105 0), .int (0 : Int32)])), ((w105 0), .inl (xI G, 6, .inl (fun _ => (0 : Int32)))), (q7, .inr (1, [.ref (w107 0), .int (0 : Int32)])), ((w107 0), .inl (xI G, 24, .inl (fun _ => (0 : Int32)))), (q9, .inr (1, [.ref (w109 0), .int (0 : Int32)])), ((w109 0), .inl (xI G, 60, .inl (fun _ => (0 : Int32)))), (q11, .inr (1, [.ref (w111 0), .int (0 : Int32)])), ((w111 0), .inl (xI G, 60, .inl (fun _ => (0 : Int32)))), (q13, .inr (1, [.ref (w113 0), .int (0 : Int32)])), ((w113 0), .inl (xI G, 60, .inl (fun _ => (0 : Int32)))), (q15, .inr (1, [.ref (w115 0), .int (0 : Int32)])), ((w115 0), .inl (xI G, 24, .inl (fun _ => (0 : Int32))))] H := hP
  have hD : va_D A [(t, .inr (3, [.ref q1, .ref q3, .ref q5, .ref q7, .ref q9, .ref q11, .ref q13, .ref q15, .int (728 : Int32), .int (0 : Int32), .int (0 : Int32), .int (0 : Int32)])), (q1, .inr (1, [.ref (w101 0), .int (0 : Int32)])), ((w101 0), .inl (xI G, 6, .inl (fun _ => (0 : Int32)))), (q3, .inr (1, [.ref (w103 0), .int (0 : Int32)])), ((w103 0), .inl (xI G, 6, .inl (fun _ => (0 : Int32)))), (q5, .inr (1, [.ref (w105 0), .int (0 : Int32)])), ((w105 0), .inl (xI G, 6, .inl (fun _ => (0 : Int32)))), (q7, .inr (1, [.ref (w107 0), .int (0 : Int32)])), ((w107 0), .inl (xI G, 24, .inl (fun _ => (0 : Int32)))), (q9, .inr (1, [.ref (w109 0), .int (0 : Int32)])), ((w109 0), .inl (xI G, 60, .inl (fun _ => (0 : Int32)))), (q11, .inr (1, [.ref (w111 0), .int (0 : Int32)])), ((w111 0), .inl (xI G, 60, .inl (fun _ => (0 : Int32)))), (q13, .inr (1, [.ref (w113 0), .int (0 : Int32)])), ((w113 0), .inl (xI G, 60, .inl (fun _ => (0 : Int32)))), (q15, .inr (1, [.ref (w115 0), .int (0 : Int32)])), ((w115 0), .inl (xI G, 24, .inl (fun _ => (0 : Int32))))] := hD
  refine lv_aload_n hx hb dX3_init_115 rfl (lv_at hl 0 rfl) ?_
  refine lv_iconst (v := 0) hx hb dX3_init_116 (by decide) ?_
  refine va_put (ci := 3) (v := .int (0 : Int32)) (ty := .int) (C := RX3) (T := TX3) (N := 12) hx hb hts (fun w h => tcons w (xin3 w h)) tyX3 tyX3_ok nmX3 hown hK hP hD hS 0 rfl rfl 9 (by decide) (hts _ (tcons _ m59)) (fun _ h9 => h9) rfl (by decide +kernel) rfl rfl (Nat.le_of_ble_eq_true rfl) dX3_init_117 (fun H locs hP hD hS => ?_)
  have hP : va_P G.1 vwCl [(t, .inr (3, [.ref q1, .ref q3, .ref q5, .ref q7, .ref q9, .ref q11, .ref q13, .ref q15, .int (728 : Int32), .int (0 : Int32), .int (0 : Int32), .int (0 : Int32)])), (q1, .inr (1, [.ref (w101 0), .int (0 : Int32)])), ((w101 0), .inl (xI G, 6, .inl (fun _ => (0 : Int32)))), (q3, .inr (1, [.ref (w103 0), .int (0 : Int32)])), ((w103 0), .inl (xI G, 6, .inl (fun _ => (0 : Int32)))), (q5, .inr (1, [.ref (w105 0), .int (0 : Int32)])), ((w105 0), .inl (xI G, 6, .inl (fun _ => (0 : Int32)))), (q7, .inr (1, [.ref (w107 0), .int (0 : Int32)])), ((w107 0), .inl (xI G, 24, .inl (fun _ => (0 : Int32)))), (q9, .inr (1, [.ref (w109 0), .int (0 : Int32)])), ((w109 0), .inl (xI G, 60, .inl (fun _ => (0 : Int32)))), (q11, .inr (1, [.ref (w111 0), .int (0 : Int32)])), ((w111 0), .inl (xI G, 60, .inl (fun _ => (0 : Int32)))), (q13, .inr (1, [.ref (w113 0), .int (0 : Int32)])), ((w113 0), .inl (xI G, 60, .inl (fun _ => (0 : Int32)))), (q15, .inr (1, [.ref (w115 0), .int (0 : Int32)])), ((w115 0), .inl (xI G, 24, .inl (fun _ => (0 : Int32))))] H := hP
  have hD : va_D A [(t, .inr (3, [.ref q1, .ref q3, .ref q5, .ref q7, .ref q9, .ref q11, .ref q13, .ref q15, .int (728 : Int32), .int (0 : Int32), .int (0 : Int32), .int (0 : Int32)])), (q1, .inr (1, [.ref (w101 0), .int (0 : Int32)])), ((w101 0), .inl (xI G, 6, .inl (fun _ => (0 : Int32)))), (q3, .inr (1, [.ref (w103 0), .int (0 : Int32)])), ((w103 0), .inl (xI G, 6, .inl (fun _ => (0 : Int32)))), (q5, .inr (1, [.ref (w105 0), .int (0 : Int32)])), ((w105 0), .inl (xI G, 6, .inl (fun _ => (0 : Int32)))), (q7, .inr (1, [.ref (w107 0), .int (0 : Int32)])), ((w107 0), .inl (xI G, 24, .inl (fun _ => (0 : Int32)))), (q9, .inr (1, [.ref (w109 0), .int (0 : Int32)])), ((w109 0), .inl (xI G, 60, .inl (fun _ => (0 : Int32)))), (q11, .inr (1, [.ref (w111 0), .int (0 : Int32)])), ((w111 0), .inl (xI G, 60, .inl (fun _ => (0 : Int32)))), (q13, .inr (1, [.ref (w113 0), .int (0 : Int32)])), ((w113 0), .inl (xI G, 60, .inl (fun _ => (0 : Int32)))), (q15, .inr (1, [.ref (w115 0), .int (0 : Int32)])), ((w115 0), .inl (xI G, 24, .inl (fun _ => (0 : Int32))))] := hD
  refine lv_aload_n hx hb dX3_init_120 rfl (lv_at hl 0 rfl) ?_
  refine lv_iconst (v := 0) hx hb dX3_init_121 (by decide) ?_
  refine va_put (ci := 3) (v := .int (0 : Int32)) (ty := .int) (C := RX3) (T := TX3) (N := 12) hx hb hts (fun w h => tcons w (xin3 w h)) tyX3 tyX3_ok nmX3 hown hK hP hD hS 0 rfl rfl 10 (by decide) (hts _ (tcons _ m60)) (fun _ h9 => h9) rfl (by decide +kernel) rfl rfl (Nat.le_of_ble_eq_true rfl) dX3_init_122 (fun H locs hP hD hS => ?_)
  have hP : va_P G.1 vwCl [(t, .inr (3, [.ref q1, .ref q3, .ref q5, .ref q7, .ref q9, .ref q11, .ref q13, .ref q15, .int (728 : Int32), .int (0 : Int32), .int (0 : Int32), .int (0 : Int32)])), (q1, .inr (1, [.ref (w101 0), .int (0 : Int32)])), ((w101 0), .inl (xI G, 6, .inl (fun _ => (0 : Int32)))), (q3, .inr (1, [.ref (w103 0), .int (0 : Int32)])), ((w103 0), .inl (xI G, 6, .inl (fun _ => (0 : Int32)))), (q5, .inr (1, [.ref (w105 0), .int (0 : Int32)])), ((w105 0), .inl (xI G, 6, .inl (fun _ => (0 : Int32)))), (q7, .inr (1, [.ref (w107 0), .int (0 : Int32)])), ((w107 0), .inl (xI G, 24, .inl (fun _ => (0 : Int32)))), (q9, .inr (1, [.ref (w109 0), .int (0 : Int32)])), ((w109 0), .inl (xI G, 60, .inl (fun _ => (0 : Int32)))), (q11, .inr (1, [.ref (w111 0), .int (0 : Int32)])), ((w111 0), .inl (xI G, 60, .inl (fun _ => (0 : Int32)))), (q13, .inr (1, [.ref (w113 0), .int (0 : Int32)])), ((w113 0), .inl (xI G, 60, .inl (fun _ => (0 : Int32)))), (q15, .inr (1, [.ref (w115 0), .int (0 : Int32)])), ((w115 0), .inl (xI G, 24, .inl (fun _ => (0 : Int32))))] H := hP
  have hD : va_D A [(t, .inr (3, [.ref q1, .ref q3, .ref q5, .ref q7, .ref q9, .ref q11, .ref q13, .ref q15, .int (728 : Int32), .int (0 : Int32), .int (0 : Int32), .int (0 : Int32)])), (q1, .inr (1, [.ref (w101 0), .int (0 : Int32)])), ((w101 0), .inl (xI G, 6, .inl (fun _ => (0 : Int32)))), (q3, .inr (1, [.ref (w103 0), .int (0 : Int32)])), ((w103 0), .inl (xI G, 6, .inl (fun _ => (0 : Int32)))), (q5, .inr (1, [.ref (w105 0), .int (0 : Int32)])), ((w105 0), .inl (xI G, 6, .inl (fun _ => (0 : Int32)))), (q7, .inr (1, [.ref (w107 0), .int (0 : Int32)])), ((w107 0), .inl (xI G, 24, .inl (fun _ => (0 : Int32)))), (q9, .inr (1, [.ref (w109 0), .int (0 : Int32)])), ((w109 0), .inl (xI G, 60, .inl (fun _ => (0 : Int32)))), (q11, .inr (1, [.ref (w111 0), .int (0 : Int32)])), ((w111 0), .inl (xI G, 60, .inl (fun _ => (0 : Int32)))), (q13, .inr (1, [.ref (w113 0), .int (0 : Int32)])), ((w113 0), .inl (xI G, 60, .inl (fun _ => (0 : Int32)))), (q15, .inr (1, [.ref (w115 0), .int (0 : Int32)])), ((w115 0), .inl (xI G, 24, .inl (fun _ => (0 : Int32))))] := hD
  refine lv_aload_n hx hb dX3_init_125 rfl (lv_at hl 0 rfl) ?_
  refine lv_iconst (v := 1) hx hb dX3_init_126 (by decide) ?_
  refine va_put (ci := 3) (v := .int (1 : Int32)) (ty := .int) (C := RX3) (T := TX3) (N := 12) hx hb hts (fun w h => tcons w (xin3 w h)) tyX3 tyX3_ok nmX3 hown hK hP hD hS 0 rfl rfl 11 (by decide) (hts _ (tcons _ m61)) (fun _ h9 => h9) rfl (by decide +kernel) rfl rfl (Nat.le_of_ble_eq_true rfl) dX3_init_127 (fun H locs hP hD hS => ?_)
  have hP : va_P G.1 vwCl [(t, .inr (3, [.ref q1, .ref q3, .ref q5, .ref q7, .ref q9, .ref q11, .ref q13, .ref q15, .int (728 : Int32), .int (0 : Int32), .int (0 : Int32), .int (1 : Int32)])), (q1, .inr (1, [.ref (w101 0), .int (0 : Int32)])), ((w101 0), .inl (xI G, 6, .inl (fun _ => (0 : Int32)))), (q3, .inr (1, [.ref (w103 0), .int (0 : Int32)])), ((w103 0), .inl (xI G, 6, .inl (fun _ => (0 : Int32)))), (q5, .inr (1, [.ref (w105 0), .int (0 : Int32)])), ((w105 0), .inl (xI G, 6, .inl (fun _ => (0 : Int32)))), (q7, .inr (1, [.ref (w107 0), .int (0 : Int32)])), ((w107 0), .inl (xI G, 24, .inl (fun _ => (0 : Int32)))), (q9, .inr (1, [.ref (w109 0), .int (0 : Int32)])), ((w109 0), .inl (xI G, 60, .inl (fun _ => (0 : Int32)))), (q11, .inr (1, [.ref (w111 0), .int (0 : Int32)])), ((w111 0), .inl (xI G, 60, .inl (fun _ => (0 : Int32)))), (q13, .inr (1, [.ref (w113 0), .int (0 : Int32)])), ((w113 0), .inl (xI G, 60, .inl (fun _ => (0 : Int32)))), (q15, .inr (1, [.ref (w115 0), .int (0 : Int32)])), ((w115 0), .inl (xI G, 24, .inl (fun _ => (0 : Int32))))] H := hP
  have hD : va_D A [(t, .inr (3, [.ref q1, .ref q3, .ref q5, .ref q7, .ref q9, .ref q11, .ref q13, .ref q15, .int (728 : Int32), .int (0 : Int32), .int (0 : Int32), .int (1 : Int32)])), (q1, .inr (1, [.ref (w101 0), .int (0 : Int32)])), ((w101 0), .inl (xI G, 6, .inl (fun _ => (0 : Int32)))), (q3, .inr (1, [.ref (w103 0), .int (0 : Int32)])), ((w103 0), .inl (xI G, 6, .inl (fun _ => (0 : Int32)))), (q5, .inr (1, [.ref (w105 0), .int (0 : Int32)])), ((w105 0), .inl (xI G, 6, .inl (fun _ => (0 : Int32)))), (q7, .inr (1, [.ref (w107 0), .int (0 : Int32)])), ((w107 0), .inl (xI G, 24, .inl (fun _ => (0 : Int32)))), (q9, .inr (1, [.ref (w109 0), .int (0 : Int32)])), ((w109 0), .inl (xI G, 60, .inl (fun _ => (0 : Int32)))), (q11, .inr (1, [.ref (w111 0), .int (0 : Int32)])), ((w111 0), .inl (xI G, 60, .inl (fun _ => (0 : Int32)))), (q13, .inr (1, [.ref (w113 0), .int (0 : Int32)])), ((w113 0), .inl (xI G, 60, .inl (fun _ => (0 : Int32)))), (q15, .inr (1, [.ref (w115 0), .int (0 : Int32)])), ((w115 0), .inl (xI G, 24, .inl (fun _ => (0 : Int32))))] := hD
  rw [← hQ]
  refine W.widen (k := 16) (n := 262) (by omega) (by omega) ?_
  exact W.vret hx hb hr (fun t ht hW => ⟨⟨(fun k => ([q1, (w101 0), q3, (w103 0), q5, (w105 0), q7, (w107 0), q9, (w109 0), q11, (w111 0), q13, (w113 0), q15, (w115 0)] : List Nat).getD k 0), rfl, trivial, xLf hP ht, hD⟩, hS.F ht⟩) hS.2.2 dX3_init_130
theorem hdX0_init : yX0_init.cls ≠ "java/lang/invoke/MethodHandle" ∧ yX0_init.cls ≠ "java/lang/invoke/VarHandle" ∧ (parseMethodDescriptor yX0_init.desc).map (fun d => d.parameters.length) = some 1 := by decide +kernel
set_option maxHeartbeats 4000000 in
set_option maxRecDepth 100000 in
theorem c_X0_init (G : xG) (t : Nat) (tp : Nat) : Kn G yX0_init (Cond.code yX0_init cX0_init 2 none :: TBL) { frames := 2, cells := 2, slots := 62, locals := 61 } [.ref t, .ref tp] [(t, .inr (0, [.null, .null, .null, .int (0 : Int32), .int (0 : Int32)]))] (fun w => [(t, .inr (0, [.ref tp, .ref (w 0), .ref (xK G 5), .int (0 : Int32), .int (0 : Int32)])), ((w 0), .inr (1, [.ref (w 1), .int (0 : Int32)])), ((w 1), .inl (xI G, 60, .inl (fun _ => (0 : Int32))))]) 2 62 := by
  intro l sz
  refine Met.ofW (cc := cX0_init) (maxL := 2) (ret := none) (by decide) rfl ?_
  intro p e s m args below meth c s₁ B hml hv
  obtain ⟨rfl, hsz, hP, hD0, hm⟩ := hv
  have hx := B.exec
  have hb := B.bytes
  have hr := B.returns
  have hts := atoms_spec (ws := Cond.code yX0_init cX0_init 2 none :: TBL) B.pre
  have hown : s.vm.findClass RX0 = some m.cls := findClass_of_methodNamed B.named
  have hlocks := B.notSynchronized
  have hin : meth.name = "<init>" := (name_of_methodNamed B.named B.method).1
  subst hsz
  have hD := hD0.self (sz := s.heap.size)
  generalize hAe : va_A [(t, .inr (0, [.null, .null, .null, .int (0 : Int32), .int (0 : Int32)]))] s.heap.size = A at hD hm ⊢
  have hA : ∀ q : Nat, s.heap.size ≤ q → A q := fun q h => by rw [← hAe]; exact Or.inr h
  have hK := hm.1
  have hZ : xAnd p m c cX0_init 2 s _ (Cond.code yX0_init cX0_init 2 none :: TBL) RX0 G A := ⟨⟨hx, hb, hml, hown, hts⟩, tcons, hA, hm⟩
  have hP : va_P G.1 vwCl [(t, .inr (0, [.null, .null, .null, .int (0 : Int32), .int (0 : Int32)]))] s.heap := hP
  have hl := lv_entry ([.ref t, .ref tp]) (n := 2) (Nat.le_of_ble_eq_true rfl)
  rw [lg_entry_eq]
  generalize (lg_sl ([.ref t, .ref tp]) ++ List.replicate (2 - (lg_sl ([.ref t, .ref tp])).length) Slot.unset).toArray = ls at hl ⊢
  have hl : lv_has ls 2 [(0, .ref t), (1, .ref tp)] := hl
  generalize hQ : MQ below _ _ s _ _ _ = Q
  refine xGo (A := A) hP (fun H locs hP hS => ?_)
  refine lv_aload_n hx hb dX0_init_0 rfl (lv_at hl 0 rfl) ?_
  refine W.objInit hx hb hown (hts _ (tcons _ m90)) (hts _ (tcons _ m11)) (hts _ (tcons _ m12)) rfl (hl.1.trans hml.symm) rfl dX0_init_1 (Nat.le_of_ble_eq_true rfl) (Nat.le_of_ble_eq_true rfl) ?_
  refine W.eq (g2 := F0 m 4 ls []) rfl ?_
  refine lv_aload_n hx hb dX0_init_4 rfl (lv_at hl 0 rfl) ?_
  refine va_new (ci := 1) (fs := [.null, .int 0]) (C := RX1) (T := TX1) (N := 2) hx hb hts (fun w h => tcons w (xin1 w h)) tyX1 tyX1_ok hown (hts _ (tcons _ m91)) (hts _ (tcons _ m48)) (hts _ (tcons _ m49)) hK hP hD hS hA rfl (fun j hj => by rcases (show j = 0 ∨ j = 1 by omega) with rfl | rfl <;> rfl) (Nat.le_of_ble_eq_true rfl) (Nat.le_of_ble_eq_true rfl) dX0_init_5 (fun q1 H hP hD hS => ?_)
  have hP : va_P G.1 vwCl [(t, .inr (0, [.null, .null, .null, .int (0 : Int32), .int (0 : Int32)])), (q1, .inr (1, [.null, .int (0 : Int32)]))] H := hP
  have hD : va_D A [(t, .inr (0, [.null, .null, .null, .int (0 : Int32), .int (0 : Int32)])), (q1, .inr (1, [.null, .int (0 : Int32)]))] := hD
  refine W.widen (k := 1) (n := 2) (by omega) (by omega) ?_
  refine lv_dup hx hb dX0_init_8 rfl ?_
  refine lv_bipush (v := 60) hx hb dX0_init_9 (by decide) ?_
  refine xEndN (mc := 1) (ms := 60) (wr := [(t, .inr (0, [.null, .null, .null, .int (0 : Int32), .int (0 : Int32)]))]) (xRunI (mc := 1) (ms := 60) (As := [.int (60 : Int32)]) (rest := [.ref q1, .ref t]) hZ (c_X1_init_60 G q1 l H.size) m97 m63 m49 m64 1 rfl hdX1_init ⟨Nat.le_of_ble_eq_true rfl, Nat.le_of_ble_eq_true rfl⟩ ⟨rfl, rfl⟩ hP hD hS [1] rfl rfl rfl hl.1 rfl (Nat.le_of_ble_eq_true rfl) dX0_init_11 ⟨Nat.le_of_ble_eq_true rfl, Nat.le_of_ble_eq_true rfl⟩) hP hD hS hA [1] [0] rfl rfl (by decide +kernel) (by decide +kernel) (fun w101 H locs hP hD hS => ?_)
  have hP : va_P G.1 vwCl [(t, .inr (0, [.null, .null, .null, .int (0 : Int32), .int (0 : Int32)])), (q1, .inr (1, [.ref (w101 0), .int (0 : Int32)])), ((w101 0), .inl (xI G, 60, .inl (fun _ => (0 : Int32))))] H := hP
  have hD : va_D A [(t, .inr (0, [.null, .null, .null, .int (0 : Int32), .int (0 : Int32)])), (q1, .inr (1, [.ref (w101 0), .int (0 : Int32)])), ((w101 0), .inl (xI G, 60, .inl (fun _ => (0 : Int32))))] := hD
  refine W.widen (k := 2) (n := 62) (by omega) (by omega) ?_
  refine va_putF (ci := 0) (v := .ref q1) (ty := (.object "ParrotVow$Row")) (C := RX0) (T := TX0) (N := 5) hx hb hts (fun w h => tcons w (xin0 w h)) tyX0 tyX0_ok nmX0 hown hK hP hD hS 0 rfl rfl 1 (by decide) (hts _ (tcons _ m92)) (fun _ h9 => h9) rfl hin rfl (by decide +kernel) rfl rfl (Nat.le_of_ble_eq_true rfl) dX0_init_14 (fun H locs hP hD hS => ?_)
  have hP : va_P G.1 vwCl [(t, .inr (0, [.null, .ref q1, .null, .int (0 : Int32), .int (0 : Int32)])), (q1, .inr (1, [.ref (w101 0), .int (0 : Int32)])), ((w101 0), .inl (xI G, 60, .inl (fun _ => (0 : Int32))))] H := hP
  have hD : va_D A [(t, .inr (0, [.null, .ref q1, .null, .int (0 : Int32), .int (0 : Int32)])), (q1, .inr (1, [.ref (w101 0), .int (0 : Int32)])), ((w101 0), .inl (xI G, 60, .inl (fun _ => (0 : Int32))))] := hD
  refine lv_aload_n hx hb dX0_init_17 rfl (lv_at hl 0 rfl) ?_
  refine va_ldcS hx hb hown hm.2.2.1.2.2.2.2.2 dX0_init_18 ?_
  refine va_put (ci := 0) (v := .ref (xK G 5)) (ty := (.object "java/lang/String")) (C := RX0) (T := TX0) (N := 5) hx hb hts (fun w h => tcons w (xin0 w h)) tyX0 tyX0_ok nmX0 hown hK hP hD hS 0 rfl rfl 2 (by decide) (hts _ (tcons _ m93)) (fun _ h9 => h9) rfl (by decide +kernel) rfl rfl (Nat.le_of_ble_eq_true rfl) dX0_init_20 (fun H locs hP hD hS => ?_)
  have hP : va_P G.1 vwCl [(t, .inr (0, [.null, .ref q1, .ref (xK G 5), .int (0 : Int32), .int (0 : Int32)])), (q1, .inr (1, [.ref (w101 0), .int (0 : Int32)])), ((w101 0), .inl (xI G, 60, .inl (fun _ => (0 : Int32))))] H := hP
  have hD : va_D A [(t, .inr (0, [.null, .ref q1, .ref (xK G 5), .int (0 : Int32), .int (0 : Int32)])), (q1, .inr (1, [.ref (w101 0), .int (0 : Int32)])), ((w101 0), .inl (xI G, 60, .inl (fun _ => (0 : Int32))))] := hD
  refine lv_aload_n hx hb dX0_init_23 rfl (lv_at hl 0 rfl) ?_
  refine lv_iconst (v := 0) hx hb dX0_init_24 (by decide) ?_
  refine va_put (ci := 0) (v := .int (0 : Int32)) (ty := .int) (C := RX0) (T := TX0) (N := 5) hx hb hts (fun w h => tcons w (xin0 w h)) tyX0 tyX0_ok nmX0 hown hK hP hD hS 0 rfl rfl 3 (by decide) (hts _ (tcons _ m94)) (fun _ h9 => h9) rfl (by decide +kernel) rfl rfl (Nat.le_of_ble_eq_true rfl) dX0_init_25 (fun H locs hP hD hS => ?_)
  have hP : va_P G.1 vwCl [(t, .inr (0, [.null, .ref q1, .ref (xK G 5), .int (0 : Int32), .int (0 : Int32)])), (q1, .inr (1, [.ref (w101 0), .int (0 : Int32)])), ((w101 0), .inl (xI G, 60, .inl (fun _ => (0 : Int32))))] H := hP
  have hD : va_D A [(t, .inr (0, [.null, .ref q1, .ref (xK G 5), .int (0 : Int32), .int (0 : Int32)])), (q1, .inr (1, [.ref (w101 0), .int (0 : Int32)])), ((w101 0), .inl (xI G, 60, .inl (fun _ => (0 : Int32))))] := hD
  refine lv_aload_n hx hb dX0_init_28 rfl (lv_at hl 0 rfl) ?_
  refine lv_iconst (v := 0) hx hb dX0_init_29 (by decide) ?_
  refine va_put (ci := 0) (v := .int (0 : Int32)) (ty := .boolean) (C := RX0) (T := TX0) (N := 5) hx hb hts (fun w h => tcons w (xin0 w h)) tyX0 tyX0_ok nmX0 hown hK hP hD hS 0 rfl rfl 4 (by decide) (hts _ (tcons _ m95)) (fun _ h9 => h9) rfl (by decide +kernel) (by decide) (by decide) (Nat.le_of_ble_eq_true rfl) dX0_init_30 (fun H locs hP hD hS => ?_)
  have hP : va_P G.1 vwCl [(t, .inr (0, [.null, .ref q1, .ref (xK G 5), .int (0 : Int32), .int (0 : Int32)])), (q1, .inr (1, [.ref (w101 0), .int (0 : Int32)])), ((w101 0), .inl (xI G, 60, .inl (fun _ => (0 : Int32))))] H := hP
  have hD : va_D A [(t, .inr (0, [.null, .ref q1, .ref (xK G 5), .int (0 : Int32), .int (0 : Int32)])), (q1, .inr (1, [.ref (w101 0), .int (0 : Int32)])), ((w101 0), .inl (xI G, 60, .inl (fun _ => (0 : Int32))))] := hD
  refine lv_aload_n hx hb dX0_init_33 rfl (lv_at hl 0 rfl) ?_
  refine lv_aload_n hx hb dX0_init_34 rfl (lv_at hl 1 rfl) ?_
  refine va_putF (ci := 0) (v := .ref tp) (ty := (.object "ParrotVow$Row")) (C := RX0) (T := TX0) (N := 5) hx hb hts (fun w h => tcons w (xin0 w h)) tyX0 tyX0_ok nmX0 hown hK hP hD hS 0 rfl rfl 0 (by decide) (hts _ (tcons _ m96)) (fun _ h9 => h9) rfl hin rfl (by decide +kernel) rfl rfl (Nat.le_of_ble_eq_true rfl) dX0_init_35 (fun H locs hP hD hS => ?_)
  have hP : va_P G.1 vwCl [(t, .inr (0, [.ref tp, .ref q1, .ref (xK G 5), .int (0 : Int32), .int (0 : Int32)])), (q1, .inr (1, [.ref (w101 0), .int (0 : Int32)])), ((w101 0), .inl (xI G, 60, .inl (fun _ => (0 : Int32))))] H := hP
  have hD : va_D A [(t, .inr (0, [.ref tp, .ref q1, .ref (xK G 5), .int (0 : Int32), .int (0 : Int32)])), (q1, .inr (1, [.ref (w101 0), .int (0 : Int32)])), ((w101 0), .inl (xI G, 60, .inl (fun _ => (0 : Int32))))] := hD
  rw [← hQ]
  refine W.widen (k := 2) (n := 62) (by omega) (by omega) ?_
  exact W.vret hx hb hr (fun t ht hW => ⟨⟨(fun k => ([q1, (w101 0)] : List Nat).getD k 0), rfl, trivial, xLf hP ht, hD⟩, hS.F ht⟩) hS.2.2 dX0_init_38
theorem hdX6_init : yX6_init.cls ≠ "java/lang/invoke/MethodHandle" ∧ yX6_init.cls ≠ "java/lang/invoke/VarHandle" ∧ (parseMethodDescriptor yX6_init.desc).map (fun d => d.parameters.length) = some 0 := by decide +kernel
set_option maxHeartbeats 4000000 in
set_option maxRecDepth 100000 in
theorem c_X6_init (G : xG) (t : Nat) : Kn G yX6_init (Cond.code yX6_init cX6_init 1 none :: TBL) { frames := 2, cells := 2, slots := 62, locals := 61 } [.ref t] [(t, .inr (6, [.null]))] (fun w => [(t, .inr (6, [.ref (w 0)])), ((w 0), .inr (1, [.ref (w 1), .int (0 : Int32)])), ((w 1), .inl (xI G, 60, .inl (fun _ => (0 : Int32))))]) 2 62 := by
  intro l sz
  refine Met.ofW (cc := cX6_init) (maxL := 1) (ret := none) (by decide) rfl ?_
  intro p e s m args below meth c s₁ B hml hv
  obtain ⟨rfl, hsz, hP, hD0, hm⟩ := hv
  have hx := B.exec
  have hb := B.bytes
  have hr := B.returns
  have hts := atoms_spec (ws := Cond.code yX6_init cX6_init 1 none :: TBL) B.pre
  have hown : s.vm.findClass RX6 = some m.cls := findClass_of_methodNamed B.named
  have hlocks := B.notSynchronized
  have hin : meth.name = "<init>" := (name_of_methodNamed B.named B.method).1
  subst hsz
  have hD := hD0.self (sz := s.heap.size)
  generalize hAe : va_A [(t, .inr (6, [.null]))] s.heap.size = A at hD hm ⊢
  have hA : ∀ q : Nat, s.heap.size ≤ q → A q := fun q h => by rw [← hAe]; exact Or.inr h
  have hK := hm.1
  have hZ : xAnd p m c cX6_init 1 s _ (Cond.code yX6_init cX6_init 1 none :: TBL) RX6 G A := ⟨⟨hx, hb, hml, hown, hts⟩, tcons, hA, hm⟩
  have hP : va_P G.1 vwCl [(t, .inr (6, [.null]))] s.heap := hP
  have hl := lv_entry ([.ref t]) (n := 1) (Nat.le_of_ble_eq_true rfl)
  rw [lg_entry_eq]
  generalize (lg_sl ([.ref t]) ++ List.replicate (1 - (lg_sl ([.ref t])).length) Slot.unset).toArray = ls at hl ⊢
  have hl : lv_has ls 1 [(0, .ref t)] := hl
  generalize hQ : MQ below _ _ s _ _ _ = Q
  refine xGo (A := A) hP (fun H locs hP hS => ?_)
  refine lv_aload_n hx hb dX6_init_0 rfl (lv_at hl 0 rfl) ?_
  refine W.objInit hx hb hown (hts _ (tcons _ m100)) (hts _ (tcons _ m11)) (hts _ (tcons _ m12)) rfl (hl.1.trans hml.symm) rfl dX6_init_1 (Nat.le_of_ble_eq_true rfl) (Nat.le_of_ble_eq_true rfl) ?_
  refine W.eq (g2 := F0 m 4 ls []) rfl ?_
  refine lv_aload_n hx hb dX6_init_4 rfl (lv_at hl 0 rfl) ?_
  refine va_new (ci := 1) (fs := [.null, .int 0]) (C := RX1) (T := TX1) (N := 2) hx hb hts (fun w h => tcons w (xin1 w h)) tyX1 tyX1_ok hown (hts _ (tcons _ m101)) (hts _ (tcons _ m48)) (hts _ (tcons _ m49)) hK hP hD hS hA rfl (fun j hj => by rcases (show j = 0 ∨ j = 1 by omega) with rfl | rfl <;> rfl) (Nat.le_of_ble_eq_true rfl) (Nat.le_of_ble_eq_true rfl) dX6_init_5 (fun q1 H hP hD hS => ?_)
  have hP : va_P G.1 vwCl [(t, .inr (6, [.null])), (q1, .inr (1, [.null, .int (0 : Int32)]))] H := hP
  have hD : va_D A [(t, .inr (6, [.null])), (q1, .inr (1, [.null, .int (0 : Int32)]))] := hD
  refine W.widen (k := 1) (n := 2) (by omega) (by omega) ?_
  refine lv_dup hx hb dX6_init_8 rfl ?_
  refine lv_bipush (v := 60) hx hb dX6_init_9 (by decide) ?_
  refine xEndN (mc := 1) (ms := 60) (wr := [(t, .inr (6, [.null]))]) (xRunI (mc := 1) (ms := 60) (As := [.int (60 : Int32)]) (rest := [.ref q1, .ref t]) hZ (c_X1_init_60 G q1 l H.size) m103 m63 m49 m64 1 rfl hdX1_init ⟨Nat.le_of_ble_eq_true rfl, Nat.le_of_ble_eq_true rfl⟩ ⟨rfl, rfl⟩ hP hD hS [1] rfl rfl rfl hl.1 rfl (Nat.le_of_ble_eq_true rfl) dX6_init_11 ⟨Nat.le_of_ble_eq_true rfl, Nat.le_of_ble_eq_true rfl⟩) hP hD hS hA [1] [0] rfl rfl (by decide +kernel) (by decide +kernel) (fun w101 H locs hP hD hS => ?_)
  have hP : va_P G.1 vwCl [(t, .inr (6, [.null])), (q1, .inr (1, [.ref (w101 0), .int (0 : Int32)])), ((w101 0), .inl (xI G, 60, .inl (fun _ => (0 : Int32))))] H := hP
  have hD : va_D A [(t, .inr (6, [.null])), (q1, .inr (1, [.ref (w101 0), .int (0 : Int32)])), ((w101 0), .inl (xI G, 60, .inl (fun _ => (0 : Int32))))] := hD
  refine W.widen (k := 2) (n := 62) (by omega) (by omega) ?_
  refine va_putF (ci := 6) (v := .ref q1) (ty := (.object "ParrotVow$Row")) (C := RX6) (T := TX6) (N := 1) hx hb hts (fun w h => tcons w (xin6 w h)) tyX6 tyX6_ok nmX6 hown hK hP hD hS 0 rfl rfl 0 (by decide) (hts _ (tcons _ m102)) (fun _ h9 => h9) rfl hin rfl (by decide +kernel) rfl rfl (Nat.le_of_ble_eq_true rfl) dX6_init_14 (fun H locs hP hD hS => ?_)
  have hP : va_P G.1 vwCl [(t, .inr (6, [.ref q1])), (q1, .inr (1, [.ref (w101 0), .int (0 : Int32)])), ((w101 0), .inl (xI G, 60, .inl (fun _ => (0 : Int32))))] H := hP
  have hD : va_D A [(t, .inr (6, [.ref q1])), (q1, .inr (1, [.ref (w101 0), .int (0 : Int32)])), ((w101 0), .inl (xI G, 60, .inl (fun _ => (0 : Int32))))] := hD
  rw [← hQ]
  refine W.widen (k := 2) (n := 62) (by omega) (by omega) ?_
  exact W.vret hx hb hr (fun t ht hW => ⟨⟨(fun k => ([q1, (w101 0)] : List Nat).getD k 0), rfl, trivial, xLf hP ht, hD⟩, hS.F ht⟩) hS.2.2 dX6_init_17
theorem hdX4_init : yX4_init.cls ≠ "java/lang/invoke/MethodHandle" ∧ yX4_init.cls ≠ "java/lang/invoke/VarHandle" ∧ (parseMethodDescriptor yX4_init.desc).map (fun d => d.parameters.length) = some 0 := by decide +kernel
set_option maxHeartbeats 4000000 in
set_option maxRecDepth 100000 in
theorem c_X4_init (G : xG) (t : Nat) : Kn G yX4_init (Cond.code yX4_init cX4_init 1 none :: TBL) { frames := 2, cells := 2, slots := 32, locals := 61 } [.ref t] [(t, .inr (4, [.null, .int (0 : Int32), .int (0 : Int32), .int (0 : Int32), .int (0 : Int32)]))] (fun w => [(t, .inr (4, [.ref (w 0), .int (0 : Int32), .int (0 : Int32), .int (0 : Int32), .int (0 : Int32)])), ((w 0), .inr (1, [.ref (w 1), .int (0 : Int32)])), ((w 1), .inl (xI G, 30, .inl (fun _ => (0 : Int32))))]) 2 32 := by
  intro l sz
  refine Met.ofW (cc := cX4_init) (maxL := 1) (ret := none) (by decide) rfl ?_
  intro p e s m args below meth c s₁ B hml hv
  obtain ⟨rfl, hsz, hP, hD0, hm⟩ := hv
  have hx := B.exec
  have hb := B.bytes
  have hr := B.returns
  have hts := atoms_spec (ws := Cond.code yX4_init cX4_init 1 none :: TBL) B.pre
  have hown : s.vm.findClass RX4 = some m.cls := findClass_of_methodNamed B.named
  have hlocks := B.notSynchronized
  have hin : meth.name = "<init>" := (name_of_methodNamed B.named B.method).1
  subst hsz
  have hD := hD0.self (sz := s.heap.size)
  generalize hAe : va_A [(t, .inr (4, [.null, .int (0 : Int32), .int (0 : Int32), .int (0 : Int32), .int (0 : Int32)]))] s.heap.size = A at hD hm ⊢
  have hA : ∀ q : Nat, s.heap.size ≤ q → A q := fun q h => by rw [← hAe]; exact Or.inr h
  have hK := hm.1
  have hZ : xAnd p m c cX4_init 1 s _ (Cond.code yX4_init cX4_init 1 none :: TBL) RX4 G A := ⟨⟨hx, hb, hml, hown, hts⟩, tcons, hA, hm⟩
  have hP : va_P G.1 vwCl [(t, .inr (4, [.null, .int (0 : Int32), .int (0 : Int32), .int (0 : Int32), .int (0 : Int32)]))] s.heap := hP
  have hl := lv_entry ([.ref t]) (n := 1) (Nat.le_of_ble_eq_true rfl)
  rw [lg_entry_eq]
  generalize (lg_sl ([.ref t]) ++ List.replicate (1 - (lg_sl ([.ref t])).length) Slot.unset).toArray = ls at hl ⊢
  have hl : lv_has ls 1 [(0, .ref t)] := hl
  generalize hQ : MQ below _ _ s _ _ _ = Q
  refine xGo (A := A) hP (fun H locs hP hS => ?_)
  refine lv_aload_n hx hb dX4_init_0 rfl (lv_at hl 0 rfl) ?_
  refine W.objInit hx hb hown (hts _ (tcons _ m106)) (hts _ (tcons _ m11)) (hts _ (tcons _ m12)) rfl (hl.1.trans hml.symm) rfl dX4_init_1 (Nat.le_of_ble_eq_true rfl) (Nat.le_of_ble_eq_true rfl) ?_
  refine W.eq (g2 := F0 m 4 ls []) rfl ?_
  refine lv_aload_n hx hb dX4_init_4 rfl (lv_at hl 0 rfl) ?_
  refine va_new (ci := 1) (fs := [.null, .int 0]) (C := RX1) (T := TX1) (N := 2) hx hb hts (fun w h => tcons w (xin1 w h)) tyX1 tyX1_ok hown (hts _ (tcons _ m107)) (hts _ (tcons _ m48)) (hts _ (tcons _ m49)) hK hP hD hS hA rfl (fun j hj => by rcases (show j = 0 ∨ j = 1 by omega) with rfl | rfl <;> rfl) (Nat.le_of_ble_eq_true rfl) (Nat.le_of_ble_eq_true rfl) dX4_init_5 (fun q1 H hP hD hS => ?_)
  have hP : va_P G.1 vwCl [(t, .inr (4, [.null, .int (0 : Int32), .int (0 : Int32), .int (0 : Int32), .int (0 : Int32)])), (q1, .inr (1, [.null, .int (0 : Int32)]))] H := hP
  have hD : va_D A [(t, .inr (4, [.null, .int (0 : Int32), .int (0 : Int32), .int (0 : Int32), .int (0 : Int32)])), (q1, .inr (1, [.null, .int (0 : Int32)]))] := hD
  refine W.widen (k := 1) (n := 2) (by omega) (by omega) ?_
  refine lv_dup hx hb dX4_init_8 rfl ?_
  refine lv_bipush (v := 30) hx hb dX4_init_9 (by decide) ?_
  refine xEndN (mc := 1) (ms := 30) (wr := [(t, .inr (4, [.null, .int (0 : Int32), .int (0 : Int32), .int (0 : Int32), .int (0 : Int32)]))]) (xRunI (mc := 1) (ms := 30) (As := [.int (30 : Int32)]) (rest := [.ref q1, .ref t]) hZ (c_X1_init_30 G q1 l H.size) m113 m63 m49 m64 1 rfl hdX1_init ⟨Nat.le_of_ble_eq_true rfl, Nat.le_of_ble_eq_true rfl⟩ ⟨rfl, rfl⟩ hP hD hS [1] rfl rfl rfl hl.1 rfl (Nat.le_of_ble_eq_true rfl) dX4_init_11 ⟨Nat.le_of_ble_eq_true rfl, Nat.le_of_ble_eq_true rfl⟩) hP hD hS hA [1] [0] rfl rfl (by decide +kernel) (by decide +kernel) (fun w101 H locs hP hD hS => ?_)
  have hP : va_P G.1 vwCl [(t, .inr (4, [.null, .int (0 : Int32), .int (0 : Int32), .int (0 : Int32), .int (0 : Int32)])), (q1, .inr (1, [.ref (w101 0), .int (0 : Int32)])), ((w101 0), .inl (xI G, 30, .inl (fun _ => (0 : Int32))))] H := hP
  have hD : va_D A [(t, .inr (4, [.null, .int (0 : Int32), .int (0 : Int32), .int (0 : Int32), .int (0 : Int32)])), (q1, .inr (1, [.ref (w101 0), .int (0 : Int32)])), ((w101 0), .inl (xI G, 30, .inl (fun _ => (0 : Int32))))] := hD
  refine W.widen (k := 2) (n := 32) (by omega) (by omega) ?_
  refine va_putF (ci := 4) (v := .ref q1) (ty := (.object "ParrotVow$Row")) (C := RX4) (T := TX4) (N := 5) hx hb hts (fun w h => tcons w (xin4 w h)) tyX4 tyX4_ok nmX4 hown hK hP hD hS 0 rfl rfl 0 (by decide) (hts _ (tcons _ m108)) (fun _ h9 => h9) rfl hin rfl (by decide +kernel) rfl rfl (Nat.le_of_ble_eq_true rfl) dX4_init_14 (fun H locs hP hD hS => ?_)
  have hP : va_P G.1 vwCl [(t, .inr (4, [.ref q1, .int (0 : Int32), .int (0 : Int32), .int (0 : Int32), .int (0 : Int32)])), (q1, .inr (1, [.ref (w101 0), .int (0 : Int32)])), ((w101 0), .inl (xI G, 30, .inl (fun _ => (0 : Int32))))] H := hP
  have hD : va_D A [(t, .inr (4, [.ref q1, .int (0 : Int32), .int (0 : Int32), .int (0 : Int32), .int (0 : Int32)])), (q1, .inr (1, [.ref (w101 0), .int (0 : Int32)])), ((w101 0), .inl (xI G, 30, .inl (fun _ => (0 : Int32))))] := hD
  refine lv_aload_n hx hb dX4_init_17 rfl (lv_at hl 0 rfl) ?_
  refine lv_iconst (v := 0) hx hb dX4_init_18 (by decide) ?_
  refine va_put (ci := 4) (v := .int (0 : Int32)) (ty := .boolean) (C := RX4) (T := TX4) (N := 5) hx hb hts (fun w h => tcons w (xin4 w h)) tyX4 tyX4_ok nmX4 hown hK hP hD hS 0 rfl rfl 1 (by decide) (hts _ (tcons _ m109)) (fun _ h9 => h9) rfl (by decide +kernel) (by decide) (by decide) (Nat.le_of_ble_eq_true rfl) dX4_init_19 (fun H locs hP hD hS => ?_)
  have hP : va_P G.1 vwCl [(t, .inr (4, [.ref q1, .int (0 : Int32), .int (0 : Int32), .int (0 : Int32), .int (0 : Int32)])), (q1, .inr (1, [.ref (w101 0), .int (0 : Int32)])), ((w101 0), .inl (xI G, 30, .inl (fun _ => (0 : Int32))))] H := hP
  have hD : va_D A [(t, .inr (4, [.ref q1, .int (0 : Int32), .int (0 : Int32), .int (0 : Int32), .int (0 : Int32)])), (q1, .inr (1, [.ref (w101 0), .int (0 : Int32)])), ((w101 0), .inl (xI G, 30, .inl (fun _ => (0 : Int32))))] := hD
  refine lv_aload_n hx hb dX4_init_22 rfl (lv_at hl 0 rfl) ?_
  refine lv_iconst (v := 0) hx hb dX4_init_23 (by decide) ?_
  refine va_put (ci := 4) (v := .int (0 : Int32)) (ty := .int) (C := RX4) (T := TX4) (N := 5) hx hb hts (fun w h => tcons w (xin4 w h)) tyX4 tyX4_ok nmX4 hown hK hP hD hS 0 rfl rfl 2 (by decide) (hts _ (tcons _ m110)) (fun _ h9 => h9) rfl (by decide +kernel) rfl rfl (Nat.le_of_ble_eq_true rfl) dX4_init_24 (fun H locs hP hD hS => ?_)
  have hP : va_P G.1 vwCl [(t, .inr (4, [.ref q1, .int (0 : Int32), .int (0 : Int32), .int (0 : Int32), .int (0 : Int32)])), (q1, .inr (1, [.ref (w101 0), .int (0 : Int32)])), ((w101 0), .inl (xI G, 30, .inl (fun _ => (0 : Int32))))] H := hP
  have hD : va_D A [(t, .inr (4, [.ref q1, .int (0 : Int32), .int (0 : Int32), .int (0 : Int32), .int (0 : Int32)])), (q1, .inr (1, [.ref (w101 0), .int (0 : Int32)])), ((w101 0), .inl (xI G, 30, .inl (fun _ => (0 : Int32))))] := hD
  refine lv_aload_n hx hb dX4_init_27 rfl (lv_at hl 0 rfl) ?_
  refine lv_iconst (v := 0) hx hb dX4_init_28 (by decide) ?_
  refine va_put (ci := 4) (v := .int (0 : Int32)) (ty := .int) (C := RX4) (T := TX4) (N := 5) hx hb hts (fun w h => tcons w (xin4 w h)) tyX4 tyX4_ok nmX4 hown hK hP hD hS 0 rfl rfl 3 (by decide) (hts _ (tcons _ m111)) (fun _ h9 => h9) rfl (by decide +kernel) rfl rfl (Nat.le_of_ble_eq_true rfl) dX4_init_29 (fun H locs hP hD hS => ?_)
  have hP : va_P G.1 vwCl [(t, .inr (4, [.ref q1, .int (0 : Int32), .int (0 : Int32), .int (0 : Int32), .int (0 : Int32)])), (q1, .inr (1, [.ref (w101 0), .int (0 : Int32)])), ((w101 0), .inl (xI G, 30, .inl (fun _ => (0 : Int32))))] H := hP
  have hD : va_D A [(t, .inr (4, [.ref q1, .int (0 : Int32), .int (0 : Int32), .int (0 : Int32), .int (0 : Int32)])), (q1, .inr (1, [.ref (w101 0), .int (0 : Int32)])), ((w101 0), .inl (xI G, 30, .inl (fun _ => (0 : Int32))))] := hD
  refine lv_aload_n hx hb dX4_init_32 rfl (lv_at hl 0 rfl) ?_
  refine lv_iconst (v := 0) hx hb dX4_init_33 (by decide) ?_
  refine va_put (ci := 4) (v := .int (0 : Int32)) (ty := .int) (C := RX4) (T := TX4) (N := 5) hx hb hts (fun w h => tcons w (xin4 w h)) tyX4 tyX4_ok nmX4 hown hK hP hD hS 0 rfl rfl 4 (by decide) (hts _ (tcons _ m112)) (fun _ h9 => h9) rfl (by decide +kernel) rfl rfl (Nat.le_of_ble_eq_true rfl) dX4_init_34 (fun H locs hP hD hS => ?_)
  have hP : va_P G.1 vwCl [(t, .inr (4, [.ref q1, .int (0 : Int32), .int (0 : Int32), .int (0 : Int32), .int (0 : Int32)])), (q1, .inr (1, [.ref (w101 0), .int (0 : Int32)])), ((w101 0), .inl (xI G, 30, .inl (fun _ => (0 : Int32))))] H := hP
  have hD : va_D A [(t, .inr (4, [.ref q1, .int (0 : Int32), .int (0 : Int32), .int (0 : Int32), .int (0 : Int32)])), (q1, .inr (1, [.ref (w101 0), .int (0 : Int32)])), ((w101 0), .inl (xI G, 30, .inl (fun _ => (0 : Int32))))] := hD
  rw [← hQ]
  refine W.widen (k := 2) (n := 32) (by omega) (by omega) ?_
  exact W.vret hx hb hr (fun t ht hW => ⟨⟨(fun k => ([q1, (w101 0)] : List Nat).getD k 0), rfl, trivial, xLf hP ht, hD⟩, hS.F ht⟩) hS.2.2 dX4_init_37
theorem hdX2_init : yX2_init.cls ≠ "java/lang/invoke/MethodHandle" ∧ yX2_init.cls ≠ "java/lang/invoke/VarHandle" ∧ (parseMethodDescriptor yX2_init.desc).map (fun d => d.parameters.length) = some 0 := by decide +kernel
set_option maxHeartbeats 4000000 in
set_option maxRecDepth 100000 in
theorem c_X2_init (G : xG) (t : Nat) : Kn G yX2_init (Cond.code yX2_init cX2_init 1 none :: TBL) { frames := 2, cells := 2, slots := 26, locals := 61 } [.ref t] [(t, .inr (2, [.null, .int (0 : Int32)]))] (fun w => [(t, .inr (2, [.ref (w 0), .int (0 : Int32)])), ((w 0), .inr (1, [.ref (w 1), .int (0 : Int32)])), ((w 1), .inl (xI G, 24, .inl (fun _ => (0 : Int32))))]) 2 26 := by
  intro l sz
  refine Met.ofW (cc := cX2_init) (maxL := 1) (ret := none) (by decide) rfl ?_
  intro p e s m args below meth c s₁ B hml hv
  obtain ⟨rfl, hsz, hP, hD0, hm⟩ := hv
  have hx := B.exec
  have hb := B.bytes
  have hr := B.returns
  have hts := atoms_spec (ws := Cond.code yX2_init cX2_init 1 none :: TBL) B.pre
  have hown : s.vm.findClass RX2 = some m.cls := findClass_of_methodNamed B.named
  have hlocks := B.notSynchronized
  have hin : meth.name = "<init>" := (name_of_methodNamed B.named B.method).1
  subst hsz
  have hD := hD0.self (sz := s.heap.size)
  generalize hAe : va_A [(t, .inr (2, [.null, .int (0 : Int32)]))] s.heap.size = A at hD hm ⊢
  have hA : ∀ q : Nat, s.heap.size ≤ q → A q := fun q h => by rw [← hAe]; exact Or.inr h
  have hK := hm.1
  have hZ : xAnd p m c cX2_init 1 s _ (Cond.code yX2_init cX2_init 1 none :: TBL) RX2 G A := ⟨⟨hx, hb, hml, hown, hts⟩, tcons, hA, hm⟩
  have hP : va_P G.1 vwCl [(t, .inr (2, [.null, .int (0 : Int32)]))] s.heap := hP
  have hl := lv_entry ([.ref t]) (n := 1) (Nat.le_of_ble_eq_true rfl)
  rw [lg_entry_eq]
  generalize (lg_sl ([.ref t]) ++ List.replicate (1 - (lg_sl ([.ref t])).length) Slot.unset).toArray = ls at hl ⊢
  have hl : lv_has ls 1 [(0, .ref t)] := hl
  generalize hQ : MQ below _ _ s _ _ _ = Q
  refine xGo (A := A) hP (fun H locs hP hS => ?_)
  refine lv_aload_n hx hb dX2_init_0 rfl (lv_at hl 0 rfl) ?_
  refine W.objInit hx hb hown (hts _ (tcons _ m116)) (hts _ (tcons _ m11)) (hts _ (tcons _ m12)) rfl (hl.1.trans hml.symm) rfl dX2_init_1 (Nat.le_of_ble_eq_true rfl) (Nat.le_of_ble_eq_true rfl) ?_
  refine W.eq (g2 := F0 m 4 ls []) rfl ?_
  refine lv_aload_n hx hb dX2_init_4 rfl (lv_at hl 0 rfl) ?_
  refine va_new (ci := 1) (fs := [.null, .int 0]) (C := RX1) (T := TX1) (N := 2) hx hb hts (fun w h => tcons w (xin1 w h)) tyX1 tyX1_ok hown (hts _ (tcons _ m117)) (hts _ (tcons _ m48)) (hts _ (tcons _ m49)) hK hP hD hS hA rfl (fun j hj => by rcases (show j = 0 ∨ j = 1 by omega) with rfl | rfl <;> rfl) (Nat.le_of_ble_eq_true rfl) (Nat.le_of_ble_eq_true rfl) dX2_init_5 (fun q1 H hP hD hS => ?_)
  have hP : va_P G.1 vwCl [(t, .inr (2, [.null, .int (0 : Int32)])), (q1, .inr (1, [.null, .int (0 : Int32)]))] H := hP
  have hD : va_D A [(t, .inr (2, [.null, .int (0 : Int32)])), (q1, .inr (1, [.null, .int (0 : Int32)]))] := hD
  refine W.widen (k := 1) (n := 2) (by omega) (by omega) ?_
  refine lv_dup hx hb dX2_init_8 rfl ?_
  refine lv_bipush (v := 24) hx hb dX2_init_9 (by decide) ?_
  refine xEndN (mc := 1) (ms := 24) (wr := [(t, .inr (2, [.null, .int (0 : Int32)]))]) (xRunI (mc := 1) (ms := 24) (As := [.int (24 : Int32)]) (rest := [.ref q1, .ref t]) hZ (c_X1_init_24 G q1 l H.size) m120 m63 m49 m64 1 rfl hdX1_init ⟨Nat.le_of_ble_eq_true rfl, Nat.le_of_ble_eq_true rfl⟩ ⟨rfl, rfl⟩ hP hD hS [1] rfl rfl rfl hl.1 rfl (Nat.le_of_ble_eq_true rfl) dX2_init_11 ⟨Nat.le_of_ble_eq_true rfl, Nat.le_of_ble_eq_true rfl⟩) hP hD hS hA [1] [0] rfl rfl (by decide +kernel) (by decide +kernel) (fun w101 H locs hP hD hS => ?_)
  have hP : va_P G.1 vwCl [(t, .inr (2, [.null, .int (0 : Int32)])), (q1, .inr (1, [.ref (w101 0), .int (0 : Int32)])), ((w101 0), .inl (xI G, 24, .inl (fun _ => (0 : Int32))))] H := hP
  have hD : va_D A [(t, .inr (2, [.null, .int (0 : Int32)])), (q1, .inr (1, [.ref (w101 0), .int (0 : Int32)])), ((w101 0), .inl (xI G, 24, .inl (fun _ => (0 : Int32))))] := hD
  refine W.widen (k := 2) (n := 26) (by omega) (by omega) ?_
  refine va_putF (ci := 2) (v := .ref q1) (ty := (.object "ParrotVow$Row")) (C := RX2) (T := TX2) (N := 2) hx hb hts (fun w h => tcons w (xin2 w h)) tyX2 tyX2_ok nmX2 hown hK hP hD hS 0 rfl rfl 0 (by decide) (hts _ (tcons _ m118)) (fun _ h9 => h9) rfl hin rfl (by decide +kernel) rfl rfl (Nat.le_of_ble_eq_true rfl) dX2_init_14 (fun H locs hP hD hS => ?_)
  have hP : va_P G.1 vwCl [(t, .inr (2, [.ref q1, .int (0 : Int32)])), (q1, .inr (1, [.ref (w101 0), .int (0 : Int32)])), ((w101 0), .inl (xI G, 24, .inl (fun _ => (0 : Int32))))] H := hP
  have hD : va_D A [(t, .inr (2, [.ref q1, .int (0 : Int32)])), (q1, .inr (1, [.ref (w101 0), .int (0 : Int32)])), ((w101 0), .inl (xI G, 24, .inl (fun _ => (0 : Int32))))] := hD
  refine lv_aload_n hx hb dX2_init_17 rfl (lv_at hl 0 rfl) ?_
  refine lv_iconst (v := 0) hx hb dX2_init_18 (by decide) ?_
  refine va_put (ci := 2) (v := .int (0 : Int32)) (ty := .int) (C := RX2) (T := TX2) (N := 2) hx hb hts (fun w h => tcons w (xin2 w h)) tyX2 tyX2_ok nmX2 hown hK hP hD hS 0 rfl rfl 1 (by decide) (hts _ (tcons _ m119)) (fun _ h9 => h9) rfl (by decide +kernel) rfl rfl (Nat.le_of_ble_eq_true rfl) dX2_init_19 (fun H locs hP hD hS => ?_)
  have hP : va_P G.1 vwCl [(t, .inr (2, [.ref q1, .int (0 : Int32)])), (q1, .inr (1, [.ref (w101 0), .int (0 : Int32)])), ((w101 0), .inl (xI G, 24, .inl (fun _ => (0 : Int32))))] H := hP
  have hD : va_D A [(t, .inr (2, [.ref q1, .int (0 : Int32)])), (q1, .inr (1, [.ref (w101 0), .int (0 : Int32)])), ((w101 0), .inl (xI G, 24, .inl (fun _ => (0 : Int32))))] := hD
  rw [← hQ]
  refine W.widen (k := 2) (n := 26) (by omega) (by omega) ?_
  exact W.vret hx hb hr (fun t ht hW => ⟨⟨(fun k => ([q1, (w101 0)] : List Nat).getD k 0), rfl, trivial, xLf hP ht, hD⟩, hS.F ht⟩) hS.2.2 dX2_init_22
def B_X5_init_103 (v45_1 : Nat → Int32) (k95 : (Int32 × (Nat → Int64)) → Option ((Nat → Int32) × (Nat → Int64))) (v95_0 : Int32) (k103 : (Int32 × (Nat → Int64)) → Option ((Nat → Int32) × (Nat → Int64))) (v103 : (Int32 × (Nat → Int64))) : Option ((Nat → Int32) × (Nat → Int64)) := if (64 : Int32) ≤ v103.1 then (k95 ((v95_0 + (1 : Int32)), v103.2)) else (bd (F_X5_vowOf v45_1 v95_0 v103.1) (fun (u1 : Int32) => if u1 < 0 then (k103 ((v103.1 + (1 : Int32)), v103.2)) else (if (729 : Int32) ≤ u1 then (k103 ((v103.1 + (1 : Int32)), v103.2)) else (if (u1 < 0 ∨ 729 ≤ u1.toNatClampNeg) then none else (if (u1 < 0 ∨ 729 ≤ u1.toNatClampNeg) then none else (k103 ((v103.1 + (1 : Int32)), (vp_updL v103.2 u1.toNatClampNeg ((v103.2 u1.toNatClampNeg) ||| ((1 : Int64) <<< (v95_0.toInt64 &&& 63)))))))))))
def B_X5_init_95 (v45_1 : Nat → Int32) (k95 : (Int32 × (Nat → Int64)) → Option ((Nat → Int32) × (Nat → Int64))) (v95 : (Int32 × (Nat → Int64))) : Option ((Nat → Int32) × (Nat → Int64)) := if (64 : Int32) ≤ v95.1 then (some (v45_1, v95.2)) else (lp (B_X5_init_103 v45_1 k95 v95.1) fuelC ((0 : Int32), v95.2))
def B_X5_init_55 (k45 : (Int32 × (Nat → Int32)) → Option ((Nat → Int32) × (Nat → Int64))) (v45_0 : Int32) (k55 : (Int32 × Int32 × (Nat → Int32)) → Option ((Nat → Int32) × (Nat → Int64))) (v55 : (Int32 × Int32 × (Nat → Int32))) : Option ((Nat → Int32) × (Nat → Int64)) := if (6 : Int32) ≤ v55.2.1 then (k45 ((v45_0 + (1 : Int32)), v55.2.2)) else (if (v45_0 < 0 ∨ 64 ≤ v45_0.toNatClampNeg) then none else (if (v45_0 < 0 ∨ 64 ≤ v45_0.toNatClampNeg) then none else (k55 ((v55.1 * (3 : Int32)), (v55.2.1 + (1 : Int32)), (upd v55.2.2 v45_0.toNatClampNeg ((v55.2.2 v45_0.toNatClampNeg) + ((((v45_0.toUInt32 >>> (v55.2.1.toUInt32 &&& Int32.toUInt32 31)).toInt32) &&& (1 : Int32)) * v55.1)))))))
def B_X5_init_45 (k45 : (Int32 × (Nat → Int32)) → Option ((Nat → Int32) × (Nat → Int64))) (v45 : (Int32 × (Nat → Int32))) : Option ((Nat → Int32) × (Nat → Int64)) := if (64 : Int32) ≤ v45.1 then (lp (B_X5_init_95 v45.2) fuelC ((0 : Int32), (fun _ => (0 : Int64)))) else (lp (B_X5_init_55 k45 v45.1) fuelC ((1 : Int32), (0 : Int32), v45.2))
def F_X5_init : Option ((Nat → Int32) × (Nat → Int64)) := lp B_X5_init_45 fuelC ((0 : Int32), (fun _ => (0 : Int32)))
theorem hdX5_init : yX5_init.cls ≠ "java/lang/invoke/MethodHandle" ∧ yX5_init.cls ≠ "java/lang/invoke/VarHandle" ∧ (parseMethodDescriptor yX5_init.desc).map (fun d => d.parameters.length) = some 0 := by decide +kernel
set_option maxHeartbeats 4000000 in
set_option maxRecDepth 100000 in
theorem c_X5_init (G : xG) (t : Nat) (u : ((Nat → Int32) × (Nat → Int64))) (hF : F_X5_init = some u) : Kn G yX5_init (Cond.code yX5_init cX5_init 4 none :: TBL) { frames := 1, cells := 4, slots := 1586, locals := 40 } [.ref t] [(t, .inr (5, [.null, .null, .null, .int (0 : Int32), .null]))] (fun w => [(t, .inr (5, [.ref (w 0), .ref (w 1), .ref (w 2), .int (0 : Int32), .ref (w 3)])), ((w 0), .inl (xI G, 64, .inl u.1)), ((w 1), .inl (xJ G, 729, .inr (.inl u.2))), ((w 2), .inl (xZ G, 729, .inl (fun _ => (0 : Int32)))), ((w 3), .inl (xI G, 64, .inl (fun _ => (0 : Int32))))]) 4 1586 := by
  intro l sz
  refine Met.ofW (cc := cX5_init) (maxL := 4) (ret := none) (by decide) rfl ?_
  intro p e s m args below meth c s₁ B hml hv
  obtain ⟨rfl, hsz, hP, hD0, hm⟩ := hv
  have hx := B.exec
  have hb := B.bytes
  have hr := B.returns
  have hts := atoms_spec (ws := Cond.code yX5_init cX5_init 4 none :: TBL) B.pre
  have hown : s.vm.findClass RX5 = some m.cls := findClass_of_methodNamed B.named
  have hlocks := B.notSynchronized
  have hin : meth.name = "<init>" := (name_of_methodNamed B.named B.method).1
  subst hsz
  have hD := hD0.self (sz := s.heap.size)
  generalize hAe : va_A [(t, .inr (5, [.null, .null, .null, .int (0 : Int32), .null]))] s.heap.size = A at hD hm ⊢
  have hA : ∀ q : Nat, s.heap.size ≤ q → A q := fun q h => by rw [← hAe]; exact Or.inr h
  have hK := hm.1
  have hZ : xAnd p m c cX5_init 4 s _ (Cond.code yX5_init cX5_init 4 none :: TBL) RX5 G A := ⟨⟨hx, hb, hml, hown, hts⟩, tcons, hA, hm⟩
  have hP : va_P G.1 vwCl [(t, .inr (5, [.null, .null, .null, .int (0 : Int32), .null]))] s.heap := hP
  have hl := lv_entry ([.ref t]) (n := 4) (Nat.le_of_ble_eq_true rfl)
  rw [lg_entry_eq]
  generalize (lg_sl ([.ref t]) ++ List.replicate (4 - (lg_sl ([.ref t])).length) Slot.unset).toArray = ls at hl ⊢
  have hl : lv_has ls 4 [(0, .ref t)] := hl
  generalize hQ : MQ below _ _ s _ _ _ = Q
  refine xGo (A := A) hP (fun H locs hP hS => ?_)
  unfold F_X5_init at hF
  refine lv_aload_n hx hb dX5_init_0 rfl (lv_at hl 0 rfl) ?_
  refine W.objInit hx hb hown (hts _ (tcons _ m75)) (hts _ (tcons _ m11)) (hts _ (tcons _ m12)) rfl (hl.1.trans hml.symm) rfl dX5_init_1 (Nat.le_of_ble_eq_true rfl) (Nat.le_of_ble_eq_true rfl) ?_
  refine W.eq (g2 := F0 m 4 ls []) rfl ?_
  refine lv_aload_n hx hb dX5_init_4 rfl (lv_at hl 0 rfl) ?_
  refine lv_bipush (v := 64) hx hb dX5_init_5 (by decide) ?_
  refine xNewa (atype := .int) (a0 := (64, .inl (fun _ => (0 : Int32)))) (N' := 64) (cI := xI G) (ty := .int) hx hb (hts _ (tcons _ m39)) rfl 0 rfl (fun C h => by cases h) hK hP hD hS hA (fun cA => rfl) (by decide) (by decide) (Nat.le_of_ble_eq_true rfl) (Nat.le_of_ble_eq_true rfl) (Nat.le_of_ble_eq_true rfl) dX5_init_7 (fun q1 H hP hD hS => ?_)
  have hP : va_P G.1 vwCl [(t, .inr (5, [.null, .null, .null, .int (0 : Int32), .null])), (q1, .inl (xI G, 64, .inl (fun _ => (0 : Int32))))] H := hP
  have hD : va_D A [(t, .inr (5, [.null, .null, .null, .int (0 : Int32), .null])), (q1, .inl (xI G, 64, .inl (fun _ => (0 : Int32))))] := hD
  refine W.widen (k := 1) (n := 64) (by omega) (by omega) ?_
  refine va_putF (ci := 5) (v := .ref q1) (ty := (.array .int)) (C := RX5) (T := TX5) (N := 5) hx hb hts (fun w h => tcons w (xin5 w h)) tyX5 tyX5_ok nmX5 hown hK hP hD hS 0 rfl rfl 0 (by decide) (hts _ (tcons _ m76)) (fun _ h9 => h9) rfl hin rfl (by decide +kernel) rfl rfl (Nat.le_of_ble_eq_true rfl) dX5_init_9 (fun H locs hP hD hS => ?_)
  have hP : va_P G.1 vwCl [(t, .inr (5, [.ref q1, .null, .null, .int (0 : Int32), .null])), (q1, .inl (xI G, 64, .inl (fun _ => (0 : Int32))))] H := hP
  have hD : va_D A [(t, .inr (5, [.ref q1, .null, .null, .int (0 : Int32), .null])), (q1, .inl (xI G, 64, .inl (fun _ => (0 : Int32))))] := hD
  refine lv_aload_n hx hb dX5_init_12 rfl (lv_at hl 0 rfl) ?_
  refine lv_sipush (v := 729) hx hb dX5_init_13 (by decide) ?_
  refine xNewa (atype := .long) (a0 := (729, .inr (.inl (fun _ => (0 : Int64))))) (N' := 729) (cI := xJ G) (ty := .long) hx hb (hts _ (tcons _ m77)) rfl 1 rfl (fun C h => by cases h) hK hP hD hS hA (fun cA => rfl) (by decide) (by decide) (Nat.le_of_ble_eq_true rfl) (Nat.le_of_ble_eq_true rfl) (Nat.le_of_ble_eq_true rfl) dX5_init_16 (fun q2 H hP hD hS => ?_)
  have hP : va_P G.1 vwCl [(t, .inr (5, [.ref q1, .null, .null, .int (0 : Int32), .null])), (q1, .inl (xI G, 64, .inl (fun _ => (0 : Int32)))), (q2, .inl (xJ G, 729, .inr (.inl (fun _ => (0 : Int64)))))] H := hP
  have hD : va_D A [(t, .inr (5, [.ref q1, .null, .null, .int (0 : Int32), .null])), (q1, .inl (xI G, 64, .inl (fun _ => (0 : Int32)))), (q2, .inl (xJ G, 729, .inr (.inl (fun _ => (0 : Int64)))))] := hD
  refine W.widen (k := 2) (n := 793) (by omega) (by omega) ?_
  refine va_putF (ci := 5) (v := .ref q2) (ty := (.array .long)) (C := RX5) (T := TX5) (N := 5) hx hb hts (fun w h => tcons w (xin5 w h)) tyX5 tyX5_ok nmX5 hown hK hP hD hS 0 rfl rfl 1 (by decide) (hts _ (tcons _ m78)) (fun _ h9 => h9) rfl hin rfl (by decide +kernel) rfl rfl (Nat.le_of_ble_eq_true rfl) dX5_init_18 (fun H locs hP hD hS => ?_)
  have hP : va_P G.1 vwCl [(t, .inr (5, [.ref q1, .ref q2, .null, .int (0 : Int32), .null])), (q1, .inl (xI G, 64, .inl (fun _ => (0 : Int32)))), (q2, .inl (xJ G, 729, .inr (.inl (fun _ => (0 : Int64)))))] H := hP
  have hD : va_D A [(t, .inr (5, [.ref q1, .ref q2, .null, .int (0 : Int32), .null])), (q1, .inl (xI G, 64, .inl (fun _ => (0 : Int32)))), (q2, .inl (xJ G, 729, .inr (.inl (fun _ => (0 : Int64)))))] := hD
  refine lv_aload_n hx hb dX5_init_21 rfl (lv_at hl 0 rfl) ?_
  refine lv_sipush (v := 729) hx hb dX5_init_22 (by decide) ?_
  refine xNewa (atype := .boolean) (a0 := (729, .inl (fun _ => (0 : Int32)))) (N' := 729) (cI := xZ G) (ty := .boolean) hx hb (hts _ (tcons _ m79)) rfl 2 rfl (fun C h => by cases h) hK hP hD hS hA (fun cA => rfl) (by decide) (by decide) (Nat.le_of_ble_eq_true rfl) (Nat.le_of_ble_eq_true rfl) (Nat.le_of_ble_eq_true rfl) dX5_init_25 (fun q3 H hP hD hS => ?_)
  have hP : va_P G.1 vwCl [(t, .inr (5, [.ref q1, .ref q2, .null, .int (0 : Int32), .null])), (q1, .inl (xI G, 64, .inl (fun _ => (0 : Int32)))), (q2, .inl (xJ G, 729, .inr (.inl (fun _ => (0 : Int64))))), (q3, .inl (xZ G, 729, .inl (fun _ => (0 : Int32))))] H := hP
  have hD : va_D A [(t, .inr (5, [.ref q1, .ref q2, .null, .int (0 : Int32), .null])), (q1, .inl (xI G, 64, .inl (fun _ => (0 : Int32)))), (q2, .inl (xJ G, 729, .inr (.inl (fun _ => (0 : Int64))))), (q3, .inl (xZ G, 729, .inl (fun _ => (0 : Int32))))] := hD
  refine W.widen (k := 3) (n := 1522) (by omega) (by omega) ?_
  refine va_putF (ci := 5) (v := .ref q3) (ty := (.array .boolean)) (C := RX5) (T := TX5) (N := 5) hx hb hts (fun w h => tcons w (xin5 w h)) tyX5 tyX5_ok nmX5 hown hK hP hD hS 0 rfl rfl 2 (by decide) (hts _ (tcons _ m80)) (fun _ h9 => h9) rfl hin rfl (by decide +kernel) rfl rfl (Nat.le_of_ble_eq_true rfl) dX5_init_27 (fun H locs hP hD hS => ?_)
  have hP : va_P G.1 vwCl [(t, .inr (5, [.ref q1, .ref q2, .ref q3, .int (0 : Int32), .null])), (q1, .inl (xI G, 64, .inl (fun _ => (0 : Int32)))), (q2, .inl (xJ G, 729, .inr (.inl (fun _ => (0 : Int64))))), (q3, .inl (xZ G, 729, .inl (fun _ => (0 : Int32))))] H := hP
  have hD : va_D A [(t, .inr (5, [.ref q1, .ref q2, .ref q3, .int (0 : Int32), .null])), (q1, .inl (xI G, 64, .inl (fun _ => (0 : Int32)))), (q2, .inl (xJ G, 729, .inr (.inl (fun _ => (0 : Int64))))), (q3, .inl (xZ G, 729, .inl (fun _ => (0 : Int32))))] := hD
  refine lv_aload_n hx hb dX5_init_30 rfl (lv_at hl 0 rfl) ?_
  refine lv_iconst (v := 0) hx hb dX5_init_31 (by decide) ?_
  refine va_put (ci := 5) (v := .int (0 : Int32)) (ty := .int) (C := RX5) (T := TX5) (N := 5) hx hb hts (fun w h => tcons w (xin5 w h)) tyX5 tyX5_ok nmX5 hown hK hP hD hS 0 rfl rfl 3 (by decide) (hts _ (tcons _ m81)) (fun _ h9 => h9) rfl (by decide +kernel) rfl rfl (Nat.le_of_ble_eq_true rfl) dX5_init_32 (fun H locs hP hD hS => ?_)
  have hP : va_P G.1 vwCl [(t, .inr (5, [.ref q1, .ref q2, .ref q3, .int (0 : Int32), .null])), (q1, .inl (xI G, 64, .inl (fun _ => (0 : Int32)))), (q2, .inl (xJ G, 729, .inr (.inl (fun _ => (0 : Int64))))), (q3, .inl (xZ G, 729, .inl (fun _ => (0 : Int32))))] H := hP
  have hD : va_D A [(t, .inr (5, [.ref q1, .ref q2, .ref q3, .int (0 : Int32), .null])), (q1, .inl (xI G, 64, .inl (fun _ => (0 : Int32)))), (q2, .inl (xJ G, 729, .inr (.inl (fun _ => (0 : Int64))))), (q3, .inl (xZ G, 729, .inl (fun _ => (0 : Int32))))] := hD
  refine lv_aload_n hx hb dX5_init_35 rfl (lv_at hl 0 rfl) ?_
  refine lv_bipush (v := 64) hx hb dX5_init_36 (by decide) ?_
  refine xNewa (atype := .int) (a0 := (64, .inl (fun _ => (0 : Int32)))) (N' := 64) (cI := xI G) (ty := .int) hx hb (hts _ (tcons _ m39)) rfl 0 rfl (fun C h => by cases h) hK hP hD hS hA (fun cA => rfl) (by decide) (by decide) (Nat.le_of_ble_eq_true rfl) (Nat.le_of_ble_eq_true rfl) (Nat.le_of_ble_eq_true rfl) dX5_init_38 (fun q4 H hP hD hS => ?_)
  have hP : va_P G.1 vwCl [(t, .inr (5, [.ref q1, .ref q2, .ref q3, .int (0 : Int32), .null])), (q1, .inl (xI G, 64, .inl (fun _ => (0 : Int32)))), (q2, .inl (xJ G, 729, .inr (.inl (fun _ => (0 : Int64))))), (q3, .inl (xZ G, 729, .inl (fun _ => (0 : Int32)))), (q4, .inl (xI G, 64, .inl (fun _ => (0 : Int32))))] H := hP
  have hD : va_D A [(t, .inr (5, [.ref q1, .ref q2, .ref q3, .int (0 : Int32), .null])), (q1, .inl (xI G, 64, .inl (fun _ => (0 : Int32)))), (q2, .inl (xJ G, 729, .inr (.inl (fun _ => (0 : Int64))))), (q3, .inl (xZ G, 729, .inl (fun _ => (0 : Int32)))), (q4, .inl (xI G, 64, .inl (fun _ => (0 : Int32))))] := hD
  refine W.widen (k := 4) (n := 1586) (by omega) (by omega) ?_
  refine va_putF (ci := 5) (v := .ref q4) (ty := (.array .int)) (C := RX5) (T := TX5) (N := 5) hx hb hts (fun w h => tcons w (xin5 w h)) tyX5 tyX5_ok nmX5 hown hK hP hD hS 0 rfl rfl 4 (by decide) (hts _ (tcons _ m82)) (fun _ h9 => h9) rfl hin rfl (by decide +kernel) rfl rfl (Nat.le_of_ble_eq_true rfl) dX5_init_40 (fun H locs hP hD hS => ?_)
  have hP : va_P G.1 vwCl [(t, .inr (5, [.ref q1, .ref q2, .ref q3, .int (0 : Int32), .ref q4])), (q1, .inl (xI G, 64, .inl (fun _ => (0 : Int32)))), (q2, .inl (xJ G, 729, .inr (.inl (fun _ => (0 : Int64))))), (q3, .inl (xZ G, 729, .inl (fun _ => (0 : Int32)))), (q4, .inl (xI G, 64, .inl (fun _ => (0 : Int32))))] H := hP
  have hD : va_D A [(t, .inr (5, [.ref q1, .ref q2, .ref q3, .int (0 : Int32), .ref q4])), (q1, .inl (xI G, 64, .inl (fun _ => (0 : Int32)))), (q2, .inl (xJ G, 729, .inr (.inl (fun _ => (0 : Int64))))), (q3, .inl (xZ G, 729, .inl (fun _ => (0 : Int32)))), (q4, .inl (xI G, 64, .inl (fun _ => (0 : Int32))))] := hD
  refine lv_iconst (v := 0) hx hb dX5_init_43 (by decide) ?_
  refine lv_istore_n (lv' := [(1, .int (0 : Int32)), (0, .ref t)]) hx hb dX5_init_44 rfl hl (by decide) rfl (fun ls hl => ?_)
  refine xLoop2 (body := B_X5_init_45) (fun (v45_0 : Int32) (v45_1 : Nat → Int32) H locs ls => va_P G.1 vwCl [(t, .inr (5, [.ref q1, .ref q2, .ref q3, .int (0 : Int32), .ref q4])), (q1, .inl (xI G, 64, .inl v45_1)), (q2, .inl (xJ G, 729, .inr (.inl (fun _ => (0 : Int64))))), (q3, .inl (xZ G, 729, .inl (fun _ => (0 : Int32)))), (q4, .inl (xI G, 64, .inl (fun _ => (0 : Int32))))] H ∧ va_D A [(t, .inr (5, [.ref q1, .ref q2, .ref q3, .int (0 : Int32), .ref q4])), (q1, .inl (xI G, 64, .inl v45_1)), (q2, .inl (xJ G, 729, .inr (.inl (fun _ => (0 : Int64))))), (q3, .inl (xZ G, 729, .inl (fun _ => (0 : Int32)))), (q4, .inl (xI G, 64, .inl (fun _ => (0 : Int32))))] ∧ va_S A s.heap H locs ∧ lv_has ls 4 [(0, .ref t), (1, .int v45_0)]) (fun N45 v45_0 v45_1 ih45 H locs ls hI hF => ?_) fuelC (0 : Int32) (fun _ => (0 : Int32)) H locs ls ⟨hP, hD, hS, lv_sub hl [1, 0] rfl⟩ hF
  obtain ⟨hP, hD, hS, hl⟩ := hI
  unfold B_X5_init_45 at hF
  refine lv_iload_n hx hb dX5_init_45 rfl (lv_at hl 1 rfl) ?_
  refine lv_bipush (v := 64) hx hb dX5_init_46 (by decide) ?_
  refine lv_icmp_ge (tgt := 93) hx hb dX5_init_48 (by decide) (fun c48 => ?_) (fun c48 => ?_)
  · have hF := itP c48 hF
    refine lv_iconst (v := 0) hx hb dX5_init_93 (by decide) ?_
    refine lv_istore_n (lv' := [(1, .int (0 : Int32)), (0, .ref t)]) hx hb dX5_init_94 rfl hl (by decide) rfl (fun ls hl => ?_)
    refine xLoop2 (body := (B_X5_init_95 v45_1)) (fun (v95_0 : Int32) (v95_1 : Nat → Int64) H locs ls => va_P G.1 vwCl [(t, .inr (5, [.ref q1, .ref q2, .ref q3, .int (0 : Int32), .ref q4])), (q1, .inl (xI G, 64, .inl v45_1)), (q2, .inl (xJ G, 729, .inr (.inl v95_1))), (q3, .inl (xZ G, 729, .inl (fun _ => (0 : Int32)))), (q4, .inl (xI G, 64, .inl (fun _ => (0 : Int32))))] H ∧ va_D A [(t, .inr (5, [.ref q1, .ref q2, .ref q3, .int (0 : Int32), .ref q4])), (q1, .inl (xI G, 64, .inl v45_1)), (q2, .inl (xJ G, 729, .inr (.inl v95_1))), (q3, .inl (xZ G, 729, .inl (fun _ => (0 : Int32)))), (q4, .inl (xI G, 64, .inl (fun _ => (0 : Int32))))] ∧ va_S A s.heap H locs ∧ lv_has ls 4 [(0, .ref t), (1, .int v95_0)]) (fun N95 v95_0 v95_1 ih95 H locs ls hI hF => ?_) fuelC (0 : Int32) (fun _ => (0 : Int64)) H locs ls ⟨hP, hD, hS, lv_sub hl [1, 0] rfl⟩ hF
    obtain ⟨hP, hD, hS, hl⟩ := hI
    unfold B_X5_init_95 at hF
    refine lv_iload_n hx hb dX5_init_95 rfl (lv_at hl 1 rfl) ?_
    refine lv_bipush (v := 64) hx hb dX5_init_96 (by decide) ?_
    refine lv_icmp_ge (tgt := 151) hx hb dX5_init_98 (by decide) (fun c98 => ?_) (fun c98 => ?_)
    · have hF := itP c98 hF
      obtain rfl := Option.some.inj hF
      rw [← hQ]
      refine W.widen (k := 4) (n := 1586) (by omega) (by omega) ?_
      exact W.vret hx hb hr (fun t ht hW => ⟨⟨(fun k => ([q1, q2, q3, q4] : List Nat).getD k 0), rfl, trivial, xLf hP ht, hD⟩, hS.F ht⟩) hS.2.2 dX5_init_151
    · have hF := itN c98 hF
      refine lv_iconst (v := 0) hx hb dX5_init_101 (by decide) ?_
      refine lv_istore_n (lv' := [(2, .int (0 : Int32)), (0, .ref t), (1, .int v95_0)]) hx hb dX5_init_102 rfl hl (by decide) rfl (fun ls hl => ?_)
      refine xLoop2 (body := (B_X5_init_103 v45_1 (lp (B_X5_init_95 v45_1) N95) v95_0)) (fun (v103_0 : Int32) (v103_1 : Nat → Int64) H locs ls => va_P G.1 vwCl [(t, .inr (5, [.ref q1, .ref q2, .ref q3, .int (0 : Int32), .ref q4])), (q1, .inl (xI G, 64, .inl v45_1)), (q2, .inl (xJ G, 729, .inr (.inl v103_1))), (q3, .inl (xZ G, 729, .inl (fun _ => (0 : Int32)))), (q4, .inl (xI G, 64, .inl (fun _ => (0 : Int32))))] H ∧ va_D A [(t, .inr (5, [.ref q1, .ref q2, .ref q3, .int (0 : Int32), .ref q4])), (q1, .inl (xI G, 64, .inl v45_1)), (q2, .inl (xJ G, 729, .inr (.inl v103_1))), (q3, .inl (xZ G, 729, .inl (fun _ => (0 : Int32)))), (q4, .inl (xI G, 64, .inl (fun _ => (0 : Int32))))] ∧ va_S A s.heap H locs ∧ lv_has ls 4 [(0, .ref t), (1, .int v95_0), (2, .int v103_0)]) (fun N103 v103_0 v103_1 ih103 H locs ls hI hF => ?_) fuelC (0 : Int32) v95_1 H locs ls ⟨hP, hD, hS, lv_sub hl [1, 2, 0] rfl⟩ hF
      obtain ⟨hP, hD, hS, hl⟩ := hI
      unfold B_X5_init_103 at hF
      refine lv_iload_n hx hb dX5_init_103 rfl (lv_at hl 2 rfl) ?_
      refine lv_bipush (v := 64) hx hb dX5_init_104 (by decide) ?_
      refine lv_icmp_ge (tgt := 145) hx hb dX5_init_106 (by decide) (fun c106 => ?_) (fun c106 => ?_)
      · have hF := itP c106 hF
        refine lv_iinc (v := (v95_0 + (1 : Int32))) (lv' := [(1, .int (v95_0 + (1 : Int32))), (0, .ref t), (2, .int v103_0)]) hx hb dX5_init_145 hl (k := 1) rfl (xInc_1 _) (by decide) rfl (fun ls hl => ?_)
        refine lv_goto (tgt := 95) hx hb dX5_init_148 (by decide) ?_
        exact ih95 (v95_0 + (1 : Int32)) v103_1 H locs ls ⟨hP, hD, hS, lv_sub hl [1, 0] rfl⟩ hF
      · have hF := itN c106 hF
        refine lv_aload_n hx hb dX5_init_109 rfl (lv_at hl 0 rfl) ?_
        refine lv_iload_n hx hb dX5_init_110 rfl (lv_at hl 1 rfl) ?_
        refine lv_iload_n hx hb dX5_init_111 rfl (lv_at hl 2 rfl) ?_
        obtain ⟨u1, e1, hF⟩ := bdS hF
        refine xEndI (xRunV (As := [.int v95_0, .int v103_0]) (rest := []) hZ (c_X5_vowOf G t q1 q2 q3 q4 (0 : Int32) v45_1 v95_0 v103_0 u1 e1 l H.size) m83 m84 m85 m22 m86 2 ⟨rfl, hdX5_vowOf⟩ ⟨Nat.le_of_ble_eq_true rfl, Nat.le_of_ble_eq_true rfl⟩ ⟨rfl, rfl⟩ hP hD hS 0 5 rfl rfl rfl [0, 1] rfl rfl rfl hl.1 rfl (Nat.le_of_ble_eq_true rfl) dX5_init_112 ⟨Nat.le_of_ble_eq_true rfl, Nat.le_of_ble_eq_true rfl⟩) hP hD hS hA [0, 1] rfl rfl rfl (fun H locs n1 hP hD hS => ?_)
        have hP : va_P G.1 vwCl [(t, .inr (5, [.ref q1, .ref q2, .ref q3, .int (0 : Int32), .ref q4])), (q1, .inl (xI G, 64, .inl v45_1)), (q2, .inl (xJ G, 729, .inr (.inl v103_1))), (q3, .inl (xZ G, 729, .inl (fun _ => (0 : Int32)))), (q4, .inl (xI G, 64, .inl (fun _ => (0 : Int32))))] H := hP
        have hD : va_D A [(t, .inr (5, [.ref q1, .ref q2, .ref q3, .int (0 : Int32), .ref q4])), (q1, .inl (xI G, 64, .inl v45_1)), (q2, .inl (xJ G, 729, .inr (.inl v103_1))), (q3, .inl (xZ G, 729, .inl (fun _ => (0 : Int32)))), (q4, .inl (xI G, 64, .inl (fun _ => (0 : Int32))))] := hD
        refine lv_istore_n (lv' := [(3, .int u1), (0, .ref t), (1, .int v95_0), (2, .int v103_0)]) hx hb dX5_init_115 rfl hl (by decide) rfl (fun ls hl => ?_)
        refine lv_iload_n hx hb dX5_init_116 rfl (lv_at hl 0 rfl) ?_
        refine lv_if_lt (tgt := 139) hx hb dX5_init_117 (by decide) (fun c117 => ?_) (fun c117 => ?_)
        · have hF := itP c117 hF
          refine lv_iinc (v := (v103_0 + (1 : Int32))) (lv' := [(2, .int (v103_0 + (1 : Int32))), (3, .int u1), (0, .ref t), (1, .int v95_0)]) hx hb dX5_init_139 hl (k := 3) rfl (xInc_1 _) (by decide) rfl (fun ls hl => ?_)
          refine lv_goto (tgt := 103) hx hb dX5_init_142 (by decide) ?_
          exact ih103 (v103_0 + (1 : Int32)) v103_1 H locs ls ⟨hP, hD, hS, lv_sub hl [2, 3, 0] rfl⟩ hF
        · have hF := itN c117 hF
          refine lv_iload_n hx hb dX5_init_120 rfl (lv_at hl 0 rfl) ?_
          refine lv_sipush (v := 729) hx hb dX5_init_121 (by decide) ?_
          refine lv_icmp_ge (tgt := 139) hx hb dX5_init_124 (by decide) (fun c124 => ?_) (fun c124 => ?_)
          · have hF := itP c124 hF
            refine lv_iinc (v := (v103_0 + (1 : Int32))) (lv' := [(2, .int (v103_0 + (1 : Int32))), (3, .int u1), (0, .ref t), (1, .int v95_0)]) hx hb dX5_init_139 hl (k := 3) rfl (xInc_1 _) (by decide) rfl (fun ls hl => ?_)
            refine lv_goto (tgt := 103) hx hb dX5_init_142 (by decide) ?_
            exact ih103 (v103_0 + (1 : Int32)) v103_1 H locs ls ⟨hP, hD, hS, lv_sub hl [2, 3, 0] rfl⟩ hF
          · have hF := itN c124 hF
            refine lv_aload_n hx hb dX5_init_127 rfl (lv_at hl 1 rfl) ?_
            refine va_get (ci := 5) (v := .ref q2) (C := RX5) (T := TX5) (N := 5) hx hb hts (fun w h => tcons w (xin5 w h)) hown hK hP 0 rfl rfl 1 (by decide) (hts _ (tcons _ m78)) (fun _ h9 => h9) rfl dX5_init_128 ?_
            refine lv_iload_n hx hb dX5_init_131 rfl (lv_at hl 0 rfl) ?_
            refine lv_dup2_11 hx hb dX5_init_132 rfl rfl ?_
            obtain ⟨g133, hF⟩ := gdS hF
            refine va_lald hx hb hK hP 2 1 rfl rfl g133 dX5_init_133 ?_
            refine lv_lconst (v := 1) hx hb dX5_init_134 (by decide) ?_
            refine lv_iload_n hx hb dX5_init_135 rfl (lv_at hl 2 rfl) ?_
            refine lv_lshl hx hb dX5_init_136 rfl ?_
            refine lv_lor hx hb dX5_init_137 ?_
            obtain ⟨g138, hF⟩ := gdS hF
            refine va_last hx hb hK hP hD hS 2 1 rfl rfl g138 dX5_init_138 (fun H locs hP hD hS => ?_)
            have hP : va_P G.1 vwCl [(t, .inr (5, [.ref q1, .ref q2, .ref q3, .int (0 : Int32), .ref q4])), (q1, .inl (xI G, 64, .inl v45_1)), (q2, .inl (xJ G, 729, .inr (.inl (vp_updL v103_1 u1.toNatClampNeg ((v103_1 u1.toNatClampNeg) ||| ((1 : Int64) <<< (v95_0.toInt64 &&& 63))))))), (q3, .inl (xZ G, 729, .inl (fun _ => (0 : Int32)))), (q4, .inl (xI G, 64, .inl (fun _ => (0 : Int32))))] H := hP
            have hD : va_D A [(t, .inr (5, [.ref q1, .ref q2, .ref q3, .int (0 : Int32), .ref q4])), (q1, .inl (xI G, 64, .inl v45_1)), (q2, .inl (xJ G, 729, .inr (.inl (vp_updL v103_1 u1.toNatClampNeg ((v103_1 u1.toNatClampNeg) ||| ((1 : Int64) <<< (v95_0.toInt64 &&& 63))))))), (q3, .inl (xZ G, 729, .inl (fun _ => (0 : Int32)))), (q4, .inl (xI G, 64, .inl (fun _ => (0 : Int32))))] := hD
            refine lv_iinc (v := (v103_0 + (1 : Int32))) (lv' := [(2, .int (v103_0 + (1 : Int32))), (3, .int u1), (0, .ref t), (1, .int v95_0)]) hx hb dX5_init_139 hl (k := 3) rfl (xInc_1 _) (by decide) rfl (fun ls hl => ?_)
            refine lv_goto (tgt := 103) hx hb dX5_init_142 (by decide) ?_
            exact ih103 (v103_0 + (1 : Int32)) (vp_updL v103_1 u1.toNatClampNeg ((v103_1 u1.toNatClampNeg) ||| ((1 : Int64) <<< (v95_0.toInt64 &&& 63)))) H locs ls ⟨hP, hD, hS, lv_sub hl [2, 3, 0] rfl⟩ hF
  · have hF := itN c48 hF
    refine lv_iconst (v := 1) hx hb dX5_init_51 (by decide) ?_
    refine lv_istore_n (lv' := [(2, .int (1 : Int32)), (0, .ref t), (1, .int v45_0)]) hx hb dX5_init_52 rfl hl (by decide) rfl (fun ls hl => ?_)
    refine lv_iconst (v := 0) hx hb dX5_init_53 (by decide) ?_
    refine lv_istore_n (lv' := [(3, .int (0 : Int32)), (2, .int (1 : Int32)), (0, .ref t), (1, .int v45_0)]) hx hb dX5_init_54 rfl hl (by decide) rfl (fun ls hl => ?_)
    refine xLoop3 (body := (B_X5_init_55 (lp B_X5_init_45 N45) v45_0)) (fun (v55_0 : Int32) (v55_1 : Int32) (v55_2 : Nat → Int32) H locs ls => va_P G.1 vwCl [(t, .inr (5, [.ref q1, .ref q2, .ref q3, .int (0 : Int32), .ref q4])), (q1, .inl (xI G, 64, .inl v55_2)), (q2, .inl (xJ G, 729, .inr (.inl (fun _ => (0 : Int64))))), (q3, .inl (xZ G, 729, .inl (fun _ => (0 : Int32)))), (q4, .inl (xI G, 64, .inl (fun _ => (0 : Int32))))] H ∧ va_D A [(t, .inr (5, [.ref q1, .ref q2, .ref q3, .int (0 : Int32), .ref q4])), (q1, .inl (xI G, 64, .inl v55_2)), (q2, .inl (xJ G, 729, .inr (.inl (fun _ => (0 : Int64))))), (q3, .inl (xZ G, 729, .inl (fun _ => (0 : Int32)))), (q4, .inl (xI G, 64, .inl (fun _ => (0 : Int32))))] ∧ va_S A s.heap H locs ∧ lv_has ls 4 [(0, .ref t), (1, .int v45_0), (2, .int v55_0), (3, .int v55_1)]) (fun N55 v55_0 v55_1 v55_2 ih55 H locs ls hI hF => ?_) fuelC (1 : Int32) (0 : Int32) v45_1 H locs ls ⟨hP, hD, hS, lv_sub hl [2, 3, 1, 0] rfl⟩ hF
    obtain ⟨hP, hD, hS, hl⟩ := hI
    unfold B_X5_init_55 at hF
    refine lv_iload_n hx hb dX5_init_55 rfl (lv_at hl 3 rfl) ?_
    refine lv_bipush (v := 6) hx hb dX5_init_56 (by decide) ?_
    refine lv_icmp_ge (tgt := 87) hx hb dX5_init_58 (by decide) (fun c58 => ?_) (fun c58 => ?_)
    · have hF := itP c58 hF
      refine lv_iinc (v := (v45_0 + (1 : Int32))) (lv' := [(1, .int (v45_0 + (1 : Int32))), (0, .ref t), (2, .int v55_0), (3, .int v55_1)]) hx hb dX5_init_87 hl (k := 1) rfl (xInc_1 _) (by decide) rfl (fun ls hl => ?_)
      refine lv_goto (tgt := 45) hx hb dX5_init_90 (by decide) ?_
      exact ih45 (v45_0 + (1 : Int32)) v55_2 H locs ls ⟨hP, hD, hS, lv_sub hl [1, 0] rfl⟩ hF
    · have hF := itN c58 hF
      refine lv_aload_n hx hb dX5_init_61 rfl (lv_at hl 0 rfl) ?_
      refine va_get (ci := 5) (v := .ref q1) (C := RX5) (T := TX5) (N := 5) hx hb hts (fun w h => tcons w (xin5 w h)) hown hK hP 0 rfl rfl 0 (by decide) (hts _ (tcons _ m76)) (fun _ h9 => h9) rfl dX5_init_62 ?_
      refine lv_iload_n hx hb dX5_init_65 rfl (lv_at hl 1 rfl) ?_
      refine lv_dup2_11 hx hb dX5_init_66 rfl rfl ?_
      obtain ⟨g67, hF⟩ := gdS hF
      refine va_iald hx hb hK hP 1 0 rfl rfl g67 dX5_init_67 ?_
      refine lv_iload_n hx hb dX5_init_68 rfl (lv_at hl 1 rfl) ?_
      refine lv_iload_n hx hb dX5_init_69 rfl (lv_at hl 3 rfl) ?_
      refine lv_iushr hx hb dX5_init_70 rfl ?_
      refine lv_iconst (v := 1) hx hb dX5_init_71 (by decide) ?_
      refine lv_iand hx hb dX5_init_72 ?_
      refine lv_iload_n hx hb dX5_init_73 rfl (lv_at hl 2 rfl) ?_
      refine lv_imul hx hb dX5_init_74 ?_
      refine lv_iadd hx hb dX5_init_75 ?_
      obtain ⟨g76, hF⟩ := gdS hF
      refine va_iast hx hb hK hP hD hS 1 0 rfl rfl g76 dX5_init_76 (fun H locs hP hD hS => ?_)
      have hP : va_P G.1 vwCl [(t, .inr (5, [.ref q1, .ref q2, .ref q3, .int (0 : Int32), .ref q4])), (q1, .inl (xI G, 64, .inl (upd v55_2 v45_0.toNatClampNeg ((v55_2 v45_0.toNatClampNeg) + ((((v45_0.toUInt32 >>> (v55_1.toUInt32 &&& Int32.toUInt32 31)).toInt32) &&& (1 : Int32)) * v55_0))))), (q2, .inl (xJ G, 729, .inr (.inl (fun _ => (0 : Int64))))), (q3, .inl (xZ G, 729, .inl (fun _ => (0 : Int32)))), (q4, .inl (xI G, 64, .inl (fun _ => (0 : Int32))))] H := hP
      have hD : va_D A [(t, .inr (5, [.ref q1, .ref q2, .ref q3, .int (0 : Int32), .ref q4])), (q1, .inl (xI G, 64, .inl (upd v55_2 v45_0.toNatClampNeg ((v55_2 v45_0.toNatClampNeg) + ((((v45_0.toUInt32 >>> (v55_1.toUInt32 &&& Int32.toUInt32 31)).toInt32) &&& (1 : Int32)) * v55_0))))), (q2, .inl (xJ G, 729, .inr (.inl (fun _ => (0 : Int64))))), (q3, .inl (xZ G, 729, .inl (fun _ => (0 : Int32)))), (q4, .inl (xI G, 64, .inl (fun _ => (0 : Int32))))] := hD
      refine lv_iload_n hx hb dX5_init_77 rfl (lv_at hl 2 rfl) ?_
      refine lv_iconst (v := 3) hx hb dX5_init_78 (by decide) ?_
      refine lv_imul hx hb dX5_init_79 ?_
      refine lv_istore_n (lv' := [(2, .int (v55_0 * (3 : Int32))), (0, .ref t), (1, .int v45_0), (3, .int v55_1)]) hx hb dX5_init_80 rfl hl (by decide) rfl (fun ls hl => ?_)
      refine lv_iinc (v := (v55_1 + (1 : Int32))) (lv' := [(3, .int (v55_1 + (1 : Int32))), (2, .int (v55_0 * (3 : Int32))), (0, .ref t), (1, .int v45_0)]) hx hb dX5_init_81 hl (k := 3) rfl (xInc_1 _) (by decide) rfl (fun ls hl => ?_)
      refine lv_goto (tgt := 55) hx hb dX5_init_84 (by decide) ?_
      exact ih55 (v55_0 * (3 : Int32)) (v55_1 + (1 : Int32)) (upd v55_2 v45_0.toNatClampNeg ((v55_2 v45_0.toNatClampNeg) + ((((v45_0.toUInt32 >>> (v55_1.toUInt32 &&& Int32.toUInt32 31)).toInt32) &&& (1 : Int32)) * v55_0))) H locs ls ⟨hP, hD, hS, lv_sub hl [2, 3, 1, 0] rfl⟩ hF
