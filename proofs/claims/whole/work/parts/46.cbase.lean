/-! constructors: new cells -/
def Kn (G : xG) (y : MethodName) (ws : List Cond) (rm : Room) (av : List Value) (W : va_W) (Wn : (Nat → Nat) → va_W) (mc ms : Nat) : Prop := ∀ (l : Launch) (sz : Nat), Met l y ws rm (va_Pc av (PB G W sz)) (va_Qv (fun (_ : Nat → Nat) => True) (fun u t => va_P G.1 vwCl (Wn u) t.heap ∧ va_D (va_A W sz) (Wn u)) (va_A W sz)) mc ms (va_A W sz)
section XN
variable {p : Program} {l : Launch} {e : Env} {R : Room} {s : State} {m : MethodId} {args : Array Value} {below : List Frame} {meth : Method} {c : Code} {H : Heap} {locs : List Loc} {cells slots mc ms : Nat} {Q : State → Prop}
variable {Ts wsC wsC' : List Cond} {cc bytes : ByteArray} {nL maxL index n pc : Nat} {own C host : String} {y : MethodName} {ret : Option FieldType} {rm : Room} {G : xG} {A : Nat → Prop} {b : Addr} {As rest : List Value} {ls : Array Slot} {X X1 ws wr : va_W} {ty : FieldType}
theorem xRunI {Qc : Array Value → State → Outcome → State → Prop} {st0 : List Value} (Z : xAnd p m c cc nL s args Ts own G A) (hM : Met l y (.code y bytes maxL none :: TBL) rm (va_Pc (.ref b :: As) (PB G X H.size)) Qc mc ms (va_A X H.size)) (h1 : Cond.methodLink own index y ∈ TBL) (h2 : Cond.instanceMethod y ∈ TBL) (h4 : Cond.initialized y.cls ∈ TBL) (h5 : Cond.code y bytes maxL none ∈ TBL) (n : Nat) (hy1 : y.name = "<init>")
    (hd : y.cls ≠ "java/lang/invoke/MethodHandle" ∧ y.cls ≠ "java/lang/invoke/VarHandle" ∧ (parseMethodDescriptor y.desc).map (fun d => d.parameters.length) = some n) (hR : rm.frames + 1 ≤ R.frames ∧ 8 + (maxL + 11) + rm.locals ≤ R.locals) (hz : rm.cells = mc ∧ rm.slots = ms) (hP : va_P G.1 vwCl ws H) (hD : va_D A ws) (hS : va_S A s.heap H locs)
    (isC : List Nat) (hC : isC.map (fun i => ws[i]?) = X.map some) (hn : va_nd isC = true) (hlen : As.length = n) (hsize : ls.size = nL) (hstack : st0 = As.reverse ++ .ref b :: rest) (hW : (rest.map fun v => v.category).sum ≤ 8) (hdg : decode cc pc = .ok (.invokespecial index, 3)) (hf : cells + mc ≤ R.cells ∧ slots + ms ≤ R.slots) :
    va_Run p l e R s m args below meth c H locs cells slots mc ms (F0 m pc ls st0) rest (Qc (Value.ref b :: As).toArray) (va_A X H.size) := by
  obtain ⟨S, hs, hA, hm⟩ := Z
  have hts := S.2.2.2.2
  exact va_runI S hM (cwI n hts (gT hs h5) rfl hz.1 hz.2 (hts _ (hs _ h4)) (hts _ (hs _ h1)) (hts _ (hs _ h2)) hy1 hd hR) ⟨PB.blind, xPre hP hD hS hA hm isC hC hn⟩ rfl hlen hsize hstack (lv_room hW) hdg hf
theorem xRunIN {Qc : Array Value → State → Outcome → State → Prop} {st0 : List Value} (Z : xAnd p m c cc nL s args Ts own G A) (hM : Met l y (.code y bytes maxL none :: TBL) rm (va_Pc (.ref b :: As) (PB G X H.size)) Qc mc ms (va_A X H.size)) (h1 : va_Nw (.methodLinkNest own index y host) s) (h2 : Cond.instanceMethod y ∈ TBL) (h4 : Cond.initialized y.cls ∈ TBL) (h5 : Cond.code y bytes maxL none ∈ TBL) (n : Nat) (hy1 : y.name = "<init>")
    (hd : y.cls ≠ "java/lang/invoke/MethodHandle" ∧ y.cls ≠ "java/lang/invoke/VarHandle" ∧ (parseMethodDescriptor y.desc).map (fun d => d.parameters.length) = some n) (hR : rm.frames + 1 ≤ R.frames ∧ 8 + (maxL + 11) + rm.locals ≤ R.locals) (hz : rm.cells = mc ∧ rm.slots = ms) (hP : va_P G.1 vwCl ws H) (hD : va_D A ws) (hS : va_S A s.heap H locs)
    (isC : List Nat) (hC : isC.map (fun i => ws[i]?) = X.map some) (hn : va_nd isC = true) (hlen : As.length = n) (hsize : ls.size = nL) (hstack : st0 = As.reverse ++ .ref b :: rest) (hW : (rest.map fun v => v.category).sum ≤ 8) (hdg : decode cc pc = .ok (.invokespecial index, 3)) (hf : cells + mc ≤ R.cells ∧ slots + ms ≤ R.slots) :
    va_Run p l e R s m args below meth c H locs cells slots mc ms (F0 m pc ls st0) rest (Qc (Value.ref b :: As).toArray) (va_A X H.size) := by
  obtain ⟨S, hs, hA, hm⟩ := Z
  have hts := S.2.2.2.2
  exact va_runIN S hM ⟨va_cnB n hts (gT hs h5) rfl hz.1 hz.2 h1 (hts _ (hs _ h4)) hd hR, hy1, hts _ (hs _ h2)⟩ ⟨PB.blind, xPre hP hD hS hA hm isC hC hn⟩ rfl hlen hsize hstack (lv_room hW) hdg hf
theorem xEndN {Wn : (Nat → Nat) → va_W} {a : Array Value} {st0 : List Value} (hr : va_Run p l e R s m args below meth c H locs cells slots mc ms (F0 m pc ls st0) rest (va_Qv (fun (_ : Nat → Nat) => True) (fun u t => va_P G.1 vwCl (Wn u) t.heap ∧ va_D (va_A X H.size) (Wn u)) (va_A X H.size) a) (va_A X H.size))
    (hP : va_P G.1 vwCl ws H) (hD : va_D A ws) (hS : va_S A s.heap H locs) (hA : ∀ q, s.heap.size ≤ q → A q) (isC isR : List Nat) (hC : isC.map (fun i => ws[i]?) = X.map some) (hR : isR.map (fun i => ws[i]?) = wr.map some) (hn : va_nd isR = true) (hdis : ∀ i ∈ isR, i ∉ isC)
    (kk : ∀ (u : Nat → Nat) (H1 : Heap) (locs1 : List Loc), va_P G.1 vwCl (wr ++ Wn u) H1 → va_D A (wr ++ Wn u) → va_S A s.heap H1 locs1 → W p l e R s m args below meth c H1 locs1 (cells + mc) (slots + ms) Q (F0 m (pc + 3) ls rest)) : W p l e R s m args below meth c H locs cells slots Q (F0 m pc ls st0) := by
  have hF := va_free hD hS hA isC hC
  refine va_callv hr hS (fun q _ h => hF q h) hF (fun u t H1 locs1 ht hvm hw hB hz hk hS1 => ?_)
  rw [ht] at hB
  obtain ⟨hP1, hD1⟩ := va_join hP hD isC isR hC hR hn hdis hk hF hB.1 hB.2
  exact kk u H1 locs1 hP1 hD1 hS1
/-- a new row of a kind whose class the tables have already: its class is that one -/
theorem xNewa {cl : List vw_C} {D : va_G} {tys : List (ClassId × FieldType)} {H0 : Heap} (hexec : p.tables.exec = Jvm.exec) (hb : c.code = cc) {atype : ArrayType} (harr : (Cond.arrayClass (newarray.typeOf atype)).before args s = true) (hty : newarray.typeOf atype = ty) (t0 : Nat) {cI : ClassId} (ht0 : tys[t0]? = some (cI, ty)) (hno : ∀ C, ty ≠ .object C) (hK : va_K D cl tys s) (hP : va_P D cl ws H) (hD : va_D A ws) (hS : va_S A H0 H locs) (hA : ∀ q, H0.size ≤ q → A q)
    {n : Int32} {N' : Nat} {a0 : vp_A} (ha : ∀ cA : ClassId, vp_cell cA a0 = arrV cA N' (fun _ => defaultValue ty)) (hn : ¬ n < 0) (hN : n.toNatClampNeg = N') (hbytes : N' * componentBytes ty ≤ 536870912) (hcells : cells + 1 ≤ R.cells) (hslots : slots + N' ≤ R.slots) (hdg : decode cc pc = .ok (.newarray atype, 2))
    (kk : ∀ (q : Nat) (H1 : Heap), va_P D cl (ws ++ [(q, .inl (cI, a0))]) H1 → va_D A (ws ++ [(q, .inl (cI, a0))]) → va_S A H0 H1 locs → W p l e R s m args below meth c H1 locs (cells + 1) (slots + N') Q (F0 m (pc + 2) ls (.ref q :: rest))) : W p l e R s m args below meth c H locs cells slots Q (F0 m pc ls (.int n :: rest)) := by
  refine va_newa hexec hb harr hty hK hP hD hS hA ha hn hN hbytes hcells hslots hdg (fun q cA H1 hK1 hP1 hD1 hS1 => ?_)
  have h1 : va_RA s cI ty := (hK.2 t0 _ ht0).2
  have h2 : va_RA s cA ty := (hK1.2 tys.length (cA, ty) (by rw [List.getElem?_append_right (Nat.le_refl _), Nat.sub_self]; rfl)).2
  have he : cA = cI := by
    cases ty with
    | object C => exact absurd rfl (hno C)
    | _ => exact Option.some.inj (Eq.trans (Eq.symm h2) h1)
  subst he
  exact kk q H1 hP1 hD1 hS1
end XN
section XNQ
variable {p : Program} {l : Launch} {e : Env} {R : Room} {s : State} {m : MethodId} {args : Array Value} {below : List Frame} {meth : Method} {c : Code} {H : Heap} {locs : List Loc} {cells slots mc ms : Nat} {Q : State → Prop} {cc : ByteArray} {pc index : Nat} {own C : String} {A : Nat → Prop} {rest : List Value} {ls : Array Slot} {ws : va_W}
theorem xNewq {cl : List vw_C} {D : va_G} {tys : List (ClassId × FieldType)} {H0 : Heap} (hexec : p.tables.exec = Jvm.exec) (hb : c.code = cc) (hown : s.vm.findClass own = some m.cls) (hclink : (Cond.classLink own index C).before args s = true) (hover : va_AO C s) (t0 : Nat) {cI : ClassId} (ht0 : tys[t0]? = some (cI, .object C)) (hK : va_K D cl tys s) (hP : va_P D cl ws H) (hD : va_D A ws) (hS : va_S A H0 H locs) (hA : ∀ q, H0.size ≤ q → A q)
    {n : Int32} {N' : Nat} (hn : ¬ n < 0) (hN : n.toNatClampNeg = N') (hbytes : N' * 4 ≤ 536870912) (hcells : cells + 1 ≤ R.cells) (hslots : slots + N' ≤ R.slots) (hdg : decode cc pc = .ok (.anewarray index, 3))
    (kk : ∀ (q : Nat) (H1 : Heap), va_P D cl (ws ++ [(q, .inl (cI, N', .inr (.inr (.inr (.inr (fun _ => none))))))]) H1 → va_D A (ws ++ [(q, .inl (cI, N', .inr (.inr (.inr (.inr (fun _ => none))))))]) → va_S A H0 H1 locs → W p l e R s m args below meth c H1 locs (cells + 1) (slots + N') Q (F0 m (pc + 3) ls (.ref q :: rest))) : W p l e R s m args below meth c H locs cells slots Q (F0 m pc ls (.int n :: rest)) := by
  refine va_newq hexec hb hown hclink hover hK hP hD hS hA hn hN hbytes hcells hslots hdg (fun q cA H1 hK1 hP1 hD1 hS1 => ?_)
  have h1 : va_RA s cI (.object C) := (hK.2 t0 _ ht0).2
  have h2 : va_RA s cA (.object C) := (hK1.2 tys.length (cA, .object C) (by rw [List.getElem?_append_right (Nat.le_refl _), Nat.sub_self]; rfl)).2
  obtain ⟨_, _, _, _, _, h3⟩ := h1
  obtain ⟨_, _, _, _, _, h4⟩ := h2
  have he : cA = cI := Option.some.inj (h4.symm.trans h3)
  subst he
  exact kk q H1 hP1 hD1 hS1
end XNQ
