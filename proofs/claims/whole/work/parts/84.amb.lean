def xTm : Nat → Term := fun i => match i with
  | 0 => .string "ParrotVow" 166
  | 1 => .string "ParrotVow" 168
  | 2 => .string "ParrotVow$Reader" 79
  | 3 => .string "ParrotVow$Reader" 88
  | 4 => .string "ParrotVow$Reader" 93
  | _ => .string "ParrotVow$Reader" 20
theorem xf1 : ∀ i, i < 6 → Cond.exactly (xTm i) "java/lang/String" ∈ flatC (Jvm.Cond.and given_1 narrow_1) := by decide +kernel
theorem xf2 : ∀ i, i < 6 → Cond.eq (.field (xTm i) "java/lang/String" "coder" "B") (.int 0) ∈ flatC (Jvm.Cond.and given_1 narrow_1) := by decide +kernel
theorem xf3 : ∀ i, i < 6 → Cond.arrayOf (.field (xTm i) "java/lang/String" "value" "[B") .byte ∈ flatC (Jvm.Cond.and given_1 narrow_1) := by decide +kernel
theorem xf4 : ∀ i, i < 6 → Cond.eq (.length (.field (xTm i) "java/lang/String" "value" "[B")) (.int (Int32.ofNat (xLen.getD i 0))) ∈ flatC (Jvm.Cond.and given_1 narrow_1) := by decide +kernel
theorem xf5 : ∀ i, i < 6 → ∀ j, j < xLen.getD i 0 → Cond.eq (.elem (.field (xTm i) "java/lang/String" "value" "[B") (.int (Int32.ofNat j))) (.int ((xByt.getD i []).getD j 0)) ∈ flatC (Jvm.Cond.and given_1 narrow_1) := by decide +kernel
theorem xf6 : ∀ i, i < 6 → ∀ j, j < 6 → i ≠ j → Cond.not (Cond.eq (xTm i) (xTm j)) ∈ flatC (Jvm.Cond.and given_1 narrow_1) ∨ Cond.not (Cond.eq (xTm j) (xTm i)) ∈ flatC (Jvm.Cond.and given_1 narrow_1) := by decide +kernel
theorem xf7 : ∀ j, j < 7 → Cond.eq (.elem (.static "ParrotVow" "ABOVE" "[I") (.int (Int32.ofNat j))) (.int (xAbove j)) ∈ flatC (Jvm.Cond.and given_1 narrow_1) := by decide +kernel
theorem xf8 : ∀ j, j < 28 → Cond.eq (.elem (.static "ParrotVow" "BODIES" "[I") (.int (Int32.ofNat j))) (.int (xBodies j)) ∈ flatC (Jvm.Cond.and given_1 narrow_1) := by decide +kernel
theorem xArr {s : State} {args : Array Value} {ty : FieldType} (h : (Cond.arrayClass ty).before args s = true) (hno : ∀ C, ty ≠ .object C) : ∃ cA, ArrOfT s cA ty ∧ va_RA s cA ty := by
  obtain ⟨cA, kA, comp, h1, h2, h3⟩ := Cond.arrayClass_spec h
  refine ⟨cA, fun n z => ⟨(fun k h => by cases h), kA, h2, comp, h3⟩, ?_⟩
  cases ty with
  | object C => exact absurd rfl (hno C)
  | _ => exact h1
set_option maxHeartbeats 4000000 in
set_option maxRecDepth 100000 in
/-- what the law's start gives of classes, statics and String constants -/
theorem amb_start {p : Program} {s : State} {m : MethodId} {meth : Method} {c : Code} {b L : Nat} {xs : Nat → Int32} (C0 : lw_At p s m meth c b L xs) : ∃ G : xG, Amb G (fun q : Nat => s.heap.size ≤ q) s s.heap := by
  obtain ⟨hx, hb, hr, hml, hown, hts, hX, hbl, hlocks, hgv⟩ := id C0
  have hf := flat_of_before _ hgv
  have hA : ∀ a : Nat, a < s.heap.size → ¬ (fun q : Nat => s.heap.size ≤ q) a := fun a h => Nat.not_le.mpr h
  obtain ⟨c0, i0, k0⟩ := u_known (C := RX0) (T := TX0) (N := 5) (n := 5) hts xu0 (hts _ xm25)
  obtain ⟨c1, i1, k1⟩ := u_known (C := RX1) (T := TX1) (N := 2) (n := 2) hts xu1 (hts _ xm48)
  obtain ⟨c2, i2, k2⟩ := u_known (C := RX2) (T := TX2) (N := 2) (n := 2) hts xu2 (hts _ xm41)
  obtain ⟨c3, i3, k3⟩ := u_known (C := RX3) (T := TX3) (N := 12) (n := 12) hts xu3 (hts _ xm14)
  obtain ⟨c4, i4, k4⟩ := u_known (C := RX4) (T := TX4) (N := 5) (n := 5) hts xu4 (hts _ xm34)
  obtain ⟨c5, i5, k5⟩ := u_known (C := RX5) (T := TX5) (N := 5) (n := 5) hts xu5 (hts _ xm21)
  obtain ⟨c6, i6, k6⟩ := u_known (C := RX6) (T := TX6) (N := 1) (n := 1) hts xu6 (hts _ xm30)
  obtain ⟨c7, i7, k7⟩ := u_known (C := RX7) (T := TX7) (N := 10) (n := 10) hts xu7 (hts _ xm1)
  obtain ⟨c8, i8, k8⟩ := u_known (C := RX8) (T := TX8) (N := 24) (n := 24) hts xu8 (hts _ xm4)
  obtain ⟨aI, aI1, aI2⟩ := xArr (hts _ xm39) (fun C h => by cases h)
  obtain ⟨aJ, aJ1, aJ2⟩ := xArr (hts _ xm77) (fun C h => by cases h)
  obtain ⟨aZ, aZ1, aZ2⟩ := xArr (hts _ xm79) (fun C h => by cases h)
  have hAO : va_AO "ParrotVow$Sheet" s := va_AO.of (A := #[Value.ref b]) (hts _ (xt1 _ (List.mem_of_getElem? (i := 191) rfl)))
  obtain ⟨comp, aY, kY, y1, y2, y3, y4, y5⟩ := Cond.arrayOver_spec (args := #[]) hAO
  obtain ⟨tA, tA1, tA2⟩ := va_Tof (tm := .static "ParrotVow" "ABOVE" "[I") (ty := .int) (N := 7) (f := fun j => .int (xAbove j)) (by decide) (hf _ (by decide +kernel)) (va_eqt (hf _ (by decide +kernel))) (fun j hj => va_eqt (hf _ (xf7 j hj))) hA
  obtain ⟨tB, tB1, tB2⟩ := va_Tof (tm := .static "ParrotVow" "BODIES" "[I") (ty := .int) (N := 28) (f := fun j => .int (xBodies j)) (by decide) (hf _ (by decide +kernel)) (va_eqt (hf _ (by decide +kernel))) (fun j hj => va_eqt (hf _ (xf8 j hj))) hA
  obtain ⟨adK, adV, hV, hK6⟩ := vk_Sof (N := 6) (tm := xTm) (len := xLen) (byt := xByt) (by decide) (fun i hi => hf _ (xf1 i hi)) (fun i hi => hf _ (xf2 i hi)) (fun i hi => hf _ (xf3 i hi)) (fun i hi => hf _ (xf4 i hi)) (fun i hi j hj => hf _ (xf5 i hi j hj)) (fun i j hi hj hij => (xf6 i hi j hj hij).elim (fun h => Or.inl (hf _ h)) (fun h => Or.inr (hf _ h))) hA
  refine ⟨((fun k => if k = 0 then c0 else if k = 1 then c1 else if k = 2 then c2 else if k = 3 then c3 else if k = 4 then c4 else if k = 5 then c5 else if k = 6 then c6 else if k = 7 then c7 else c8, fun k => if k = 0 then i0 else if k = 1 then i1 else if k = 2 then i2 else if k = 3 then i3 else if k = 4 then i4 else if k = 5 then i5 else if k = 6 then i6 else if k = 7 then i7 else i8), (aI, aJ, aZ, aY), (tA, tB), adK, adV), ⟨fun c q hq => ?_, fun k q hk => ?_⟩, ?_, ?_, ?_⟩
  · match c, hq with
    | 0, hq => cases hq; exact k0
    | 1, hq => cases hq; exact k1
    | 2, hq => cases hq; exact k2
    | 3, hq => cases hq; exact k3
    | 4, hq => cases hq; exact k4
    | 5, hq => cases hq; exact k5
    | 6, hq => cases hq; exact k6
    | 7, hq => cases hq; exact k7
    | 8, hq => cases hq; exact k8
    | c + 9, hq => simp [vwCl] at hq
  · match k, hk with
    | 0, hk => cases hk; exact ⟨aI1, aI2⟩
    | 1, hk => cases hk; exact ⟨aJ1, aJ2⟩
    | 2, hk => cases hk; exact ⟨aZ1, aZ2⟩
    | 3, hk => cases hk; exact ⟨fun n z => ⟨(fun k h => by cases h), kY, y3, comp, y4⟩, kY, comp, y3, y4, y1, y5⟩
    | k + 4, hk => simp at hk
  · exact ⟨va_Nw.of rfl (hts _ (xt1 _ (List.mem_of_getElem? (i := 29) rfl))), va_Nw.of rfl (hts _ (xt1 _ (List.mem_of_getElem? (i := 154) rfl))), va_Nw.of rfl (hts _ (xt1 _ (List.mem_of_getElem? (i := 166) rfl))), va_Nw.of rfl (hts _ (xt1 _ (List.mem_of_getElem? (i := 193) rfl))), va_Nw.of rfl (hts _ (xt4 _ (List.mem_of_getElem? (i := 53) rfl))), va_Nw.of rfl (hts _ (xt4 _ (List.mem_of_getElem? (i := 24) rfl))), va_Nw.of rfl (hts _ (xt4 _ (List.mem_of_getElem? (i := 21) rfl))), va_Nw.of rfl (hts _ (xt2 _ (List.mem_of_getElem? (i := 64) rfl))), va_Nw.of rfl (hts _ (xt2 _ (List.mem_of_getElem? (i := 196) rfl))), va_Nw.of rfl (hts _ (xt4 _ (List.mem_of_getElem? (i := 22) rfl))), hAO⟩
  · exact ⟨vk_R.of (hts _ (xt2 _ (List.mem_of_getElem? (i := 205) rfl))) (hK6 0 (by decide)), vk_R.of (hts _ (xt2 _ (List.mem_of_getElem? (i := 206) rfl))) (hK6 1 (by decide)), vk_R.of (hts _ (xt3 _ (List.mem_of_getElem? (i := 123) rfl))) (hK6 2 (by decide)), vk_R.of (hts _ (xt3 _ (List.mem_of_getElem? (i := 122) rfl))) (hK6 3 (by decide)), vk_R.of (hts _ (xt3 _ (List.mem_of_getElem? (i := 96) rfl))) (hK6 4 (by decide)), vk_R.of (hts _ (xt1 _ (List.mem_of_getElem? (i := 133) rfl))) (hK6 5 (by decide))⟩
  · exact ⟨va_Zref (hts _ (xt2 _ (List.mem_of_getElem? (i := 138) rfl))) (hts _ (xt1 _ (List.mem_of_getElem? (i := 1) rfl))) tA1 hA, tA2, va_Zref (hts _ (xt4 _ (List.mem_of_getElem? (i := 23) rfl))) (hts _ (xt1 _ (List.mem_of_getElem? (i := 1) rfl))) tB1 hA, tB2, va_Zof (hts _ (xt3 _ (List.mem_of_getElem? (i := 14) rfl))) (hts _ (xt1 _ (List.mem_of_getElem? (i := 13) rfl))) (va_eqt (hf _ (by decide +kernel))) hA, hV, va_Zqof (hts _ (xt3 _ (List.mem_of_getElem? (i := 53) rfl))) (hts _ (xt1 _ (List.mem_of_getElem? (i := 16) rfl))) (hf _ (by decide +kernel)) hA⟩
