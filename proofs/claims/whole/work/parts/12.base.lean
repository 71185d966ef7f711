/-! THE BASE: ambient facts, the contracts' one shape, calls by one row each -/
abbrev xG : Type := va_G × (ClassId × ClassId × ClassId × ClassId) × (Nat × Nat) × (Nat → Nat) × (Nat → Nat)
abbrev xI (G : xG) : ClassId := G.2.1.1
abbrev xJ (G : xG) : ClassId := G.2.1.2.1
abbrev xZ (G : xG) : ClassId := G.2.1.2.2.1
abbrev xY (G : xG) : ClassId := G.2.1.2.2.2
abbrev xTA (G : xG) : Nat := G.2.2.1.1
abbrev xTB (G : xG) : Nat := G.2.2.1.2
abbrev xK (G : xG) : Nat → Nat := G.2.2.2.1
abbrev xV (G : xG) : Nat → Nat := G.2.2.2.2
abbrev xTys (G : xG) : List (ClassId × FieldType) := [(xI G, .int), (xJ G, .long), (xZ G, .boolean), (xY G, .object "ParrotVow$Sheet")]
def xLen : List Nat := [3, 3, 3, 2, 3, 0]
def xByt : List (List Int32) := [[97, 98, 102], [116, 115, 100], [60, 61, 62], [43, 45], [42, 47, 37], []]
def xAbove : Nat → Int32 := fun j => ([-1, 0, 0, 0, 1, 2, 0] : List Int32).getD j 0
def xBodies : Nat → Int32 := fun j => ([10, 11, 12, 13, 20, 0, 0, 21, 0, 30, 0, 0, 0, 0, 40, 0, 50, 0, 51, 0, 0, 60, 0, 0, 70, 71, 0, 0] : List Int32).getD j 0
/-- the words of private members of nest mates -/
def xNest (U : State) : Prop := va_Nw (.methodLinkNest RX7 9 yX3_init RX7) U ∧ va_Nw (.methodLinkNest RX7 49 yX6_init RX7) U ∧ va_Nw (.methodLinkNest RX7 56 yX4_init RX7) U ∧ va_Nw (.methodLinkNest RX7 71 yX2_init RX7) U ∧ va_Nw (.methodLinkNest RX1 27 yX7_held RX7) U ∧ va_Nw (.methodLinkNest RX4 45 yX7_kindAbove RX7) U ∧ va_Nw (.methodLinkNest RX4 59 yX7_within RX7) U ∧ va_Nw (.methodLinkNest RX5 34 yX7_isSaying RX7) U ∧ va_Nw (.methodLinkNest RX5 38 yX7_within RX7) U ∧ va_Nw (.fieldLinkNest RX4 63 RX7 "BODIES" "[I" RX7) U ∧ va_AO "ParrotVow$Sheet" U
theorem xNest.same {u U : State} (h : u.vm = U.vm) (hN : xNest u) : xNest U := by
  obtain ⟨h1, h2, h3, h4, h5, h6, h7, h8, h9, h10, h11⟩ := hN
  exact ⟨h1.same rfl h, h2.same rfl h, h3.same rfl h, h4.same rfl h, h5.same rfl h, h6.same rfl h, h7.same rfl h, h8.same rfl h, h9.same rfl h, h10.same rfl h, h11.moved (by rw [h]; exact Vm.Alike.refl U.vm)⟩
theorem xNest.warm {s U : State} (hW : s.WarmedH U.vm) (hN : xNest s) : xNest U := by
  obtain ⟨h1, h2, h3, h4, h5, h6, h7, h8, h9, h10, h11⟩ := hN
  exact ⟨.warmM hW h1, .warmM hW h2, .warmM hW h3, .warmM hW h4, .warmM hW h5, .warmM hW h6, .warmM hW h7, .warmM hW h8, .warmM hW h9, .warmF hW h10, h11.moved hW.alike⟩
def xStr (G : xG) (U : State) : Prop := vk_R RX7 166 "abf" (xK G 0) U ∧ vk_R RX7 168 "tsd" (xK G 1) U ∧ vk_R RX0 79 "<=>" (xK G 2) U ∧ vk_R RX0 88 "+-" (xK G 3) U ∧ vk_R RX0 93 "*/%" (xK G 4) U ∧ vk_R RX0 20 "" (xK G 5) U
theorem xStr.same {G : xG} {u U : State} (h : u.vm = U.vm) (hN : xStr G u) : xStr G U := by
  obtain ⟨h1, h2, h3, h4, h5, h6⟩ := hN
  exact ⟨h1.same h.symm, h2.same h.symm, h3.same h.symm, h4.same h.symm, h5.same h.symm, h6.same h.symm⟩
theorem xStr.warm {G : xG} {s U : State} (hW : s.WarmedH U.vm) (hN : xStr G s) : xStr G U := by
  obtain ⟨h1, h2, h3, h4, h5, h6⟩ := hN
  exact ⟨h1.warm hW, h2.warm hW, h3.warm hW, h4.warm hW, h5.warm hW, h6.warm hW⟩
/-- statics and String constants, none of them in A -/
def xStat (G : xG) (A : Nat → Prop) (U : State) (H : Heap) : Prop :=
  va_Z "ParrotVow" "ABOVE" "[I" (.ref (xTA G)) A U H ∧ va_T .int (xTA G) 7 (fun j => .int (xAbove j)) A U H ∧ va_Z "ParrotVow" "BODIES" "[I" (.ref (xTB G)) A U H ∧ va_T .int (xTB G) 28 (fun j => .int (xBodies j)) A U H ∧ va_Z "java/lang/String" "COMPACT_STRINGS" "Z" (.int 1) A U H ∧ vk_S 6 xLen xByt (xK G) (xV G) A U H ∧ va_Zq "jdk/internal/util/Preconditions" "SIOOBE_FORMATTER" "Ljava/util/function/BiFunction;" A U H
theorem xStat.moved {G : xG} {A : Nat → Prop} {u U : State} {H : Heap} (hvm : u.vm.Alike U.vm) (h : xStat G A u H) : xStat G A U H := by
  obtain ⟨h1, h2, h3, h4, h5, h6, h7⟩ := h
  exact ⟨h1.moved hvm, h2.moved hvm, h3.moved hvm, h4.moved hvm, h5.moved hvm, h6.moved hvm, h7.moved hvm⟩
theorem xStat.kept {G : xG} {A : Nat → Prop} {U : State} {H H1 : Heap} (h : xStat G A U H) (hq : ∀ a : Nat, a < H.size → ¬ A a → H1[a]? = H[a]?) : xStat G A U H1 := by
  obtain ⟨h1, h2, h3, h4, h5, h6, h7⟩ := h
  exact ⟨h1.kept hq, h2.kept hq, h3.kept hq, h4.kept hq, h5.kept hq, h6.kept hq, h7.kept hq⟩
theorem xStat.narrow {G : xG} {A B : Nat → Prop} {U : State} {H : Heap} (h : xStat G A U H) (hAB : ∀ q, B q → A q) : xStat G B U H := by
  obtain ⟨h1, h2, h3, h4, h5, h6, h7⟩ := h
  exact ⟨h1.narrow hAB, h2.narrow hAB, h3.narrow hAB, h4.narrow hAB, h5.narrow hAB, h6.narrow hAB, h7.narrow hAB⟩
def Amb (G : xG) (A : Nat → Prop) (U : State) (H : Heap) : Prop := va_K G.1 vwCl (xTys G) U ∧ xNest U ∧ xStr G U ∧ xStat G A U H
theorem Amb.same {G : xG} {A : Nat → Prop} {u U : State} {H : Heap} (h : u.vm = U.vm) (hA : Amb G A u H) : Amb G A U H :=
  ⟨va_K.moved (by rw [h]; exact Vm.Alike.refl U.vm) hA.1, hA.2.1.same h, hA.2.2.1.same h, hA.2.2.2.moved (by rw [h]; exact Vm.Alike.refl U.vm)⟩
theorem Amb.go {G : xG} {A B : Nat → Prop} {s U : State} {H : Heap} {locs : List Loc} (hA : Amb G A s s.heap) (hS : va_S A s.heap H locs) (hB : ∀ q, B q → A q) (hU : U.heap = H) (hW : s.WarmedH U.vm) : Amb G B U U.heap := by
  rw [hU]
  exact ⟨va_K.moved hW.alike hA.1, hA.2.1.warm hW, hA.2.2.1.warm hW, ((hA.2.2.2.kept hS.2.1).narrow hB).moved hW.alike⟩
/-- places of ws taken by others, at the same addresses -/
def xLk (k : Nat) : List Nat → va_W → (Nat × va_E) → (Nat × va_E)
  | i :: is, q :: w, c => bif Nat.beq i k then q else xLk k is w c
  | [], _, c => c
  | _ :: _, [], c => c
def xMix (is : List Nat) (w : va_W) : Nat → va_W → va_W
  | _, [] => []
  | k, c :: ws => xLk k is w c :: xMix is w (k + 1) ws
abbrev xPut (ws : va_W) (is : List Nat) (w : va_W) : va_W := xMix is w 0 ws
theorem xLk_spec (k : Nat) : ∀ (is : List Nat) (w : va_W) (c : Nat × va_E), is.length = w.length → (∃ (j : Nat) (q : Nat × va_E), is[j]? = some k ∧ w[j]? = some q ∧ xLk k is w c = q) ∨ (k ∉ is ∧ xLk k is w c = c)
  | [], _, c, _ => Or.inr ⟨List.not_mem_nil, by simp [xLk]⟩
  | _ :: _, [], c, h => by simp at h
  | i :: is, q :: w, c, h => by
    by_cases hi : i = k
    · subst hi
      exact Or.inl ⟨0, q, rfl, rfl, by simp [xLk]⟩
    · have hb : Nat.beq i k = false := by
        cases hq : Nat.beq i k with
        | false => rfl
        | true => exact absurd (Nat.eq_of_beq_eq_true hq) hi
      have he : xLk k (i :: is) (q :: w) c = xLk k is w c := by rw [xLk, hb]; rfl
      rcases xLk_spec k is w c (by simpa using h) with ⟨j, q1, h1, h2, h3⟩ | ⟨h1, h2⟩
      · exact Or.inl ⟨j + 1, q1, by rw [List.getElem?_cons_succ]; exact h1, by rw [List.getElem?_cons_succ]; exact h2, by rw [he]; exact h3⟩
      · exact Or.inr ⟨fun z => (List.mem_cons.mp z).elim (fun e => hi e.symm) h1, by rw [he]; exact h2⟩
theorem xMix_at (is : List Nat) (w : va_W) : ∀ (b : Nat) (ws : va_W) (k : Nat), (xMix is w b ws)[k]? = ws[k]?.map (fun c => xLk (b + k) is w c)
  | b, [], k => by simp [xMix]
  | b, c :: ws, 0 => by simp [xMix]
  | b, c :: ws, k + 1 => by
    rw [xMix, List.getElem?_cons_succ, List.getElem?_cons_succ, xMix_at is w (b + 1) ws k, Nat.add_right_comm, Nat.add_assoc]
theorem xAt {is : List Nat} {ws w : va_W} (hs : is.map (fun i => ws[i]?) = w.map some) : ∀ (k : Nat) (q : Nat × va_E), w[k]? = some q → ∃ i, is[k]? = some i ∧ ws[i]? = some q := by
  intro k q hq
  have h1 : (is.map (fun i => ws[i]?))[k]? = some (some q) := by rw [hs, List.getElem?_map, hq]; rfl
  rw [List.getElem?_map] at h1
  cases hi : is[k]? with
  | none => rw [hi] at h1; cases h1
  | some i => rw [hi] at h1; exact ⟨i, rfl, Option.some.inj h1⟩
/-- behind a call whose world keeps its addresses -/
theorem xJoin {A0 : Nat → Prop} {D : va_G} {cl : List vw_C} {ws wc w1 : va_W} {H H1 : Heap} (hP : va_P D cl ws H) (hD : va_D A0 ws) (isC : List Nat) (hC : isC.map (fun i => ws[i]?) = wc.map some) (hn : va_nd isC = true) (he : w1.map Prod.fst = wc.map Prod.fst)
    (hk : ∀ q : Nat, q < H.size → ¬ va_A wc H.size q → H1[q]? = H[q]?) (hP1 : va_P D cl w1 H1) : va_P D cl (xPut ws isC w1) H1 ∧ va_D A0 (xPut ws isC w1) := by
  have hlc : isC.length = wc.length := by have := congrArg List.length hC; simpa using this
  have hl1 : w1.length = wc.length := by have := congrArg List.length he; simpa using this
  have key : ∀ (k : Nat) (q : Nat × va_E), (xPut ws isC w1)[k]? = some q → (∃ (j : Nat) (q0 : Nat × va_E), isC[j]? = some k ∧ w1[j]? = some q ∧ wc[j]? = some q0 ∧ ws[k]? = some q0 ∧ q0.1 = q.1) ∨ (k ∉ isC ∧ ws[k]? = some q) := by
    intro k q hq
    rw [xPut, xMix_at] at hq
    cases hc : ws[k]? with
    | none => rw [hc] at hq; cases hq
    | some c0 =>
      rw [hc, Nat.zero_add] at hq
      have hq2 : xLk k isC w1 c0 = q := Option.some.inj hq
      rcases xLk_spec k isC w1 c0 (by omega) with ⟨j, q1, h1, h2, h3⟩ | ⟨h1, h2⟩
      · have hj1 : j < w1.length := (List.getElem?_eq_some_iff.mp h2).1
        have hjc : j < wc.length := by omega
        obtain ⟨i', h4, h5⟩ := xAt hC j wc[j] (List.getElem?_eq_getElem hjc)
        rw [h1] at h4
        cases h4
        have h6 : (w1.map Prod.fst)[j]? = (wc.map Prod.fst)[j]? := by rw [he]
        rw [List.getElem?_map, List.getElem?_map, h2, List.getElem?_eq_getElem hjc] at h6
        have h7 : q1 = q := h3.symm.trans hq2
        subst h7
        exact Or.inl ⟨j, wc[j], h1, h2, List.getElem?_eq_getElem hjc, hc.symm.trans h5, (Option.some.inj h6).symm⟩
      · exact Or.inr ⟨h1, congrArg some (h2.symm.trans hq2)⟩
  refine ⟨fun k q hq => ?_, fun i j x y hi hj hxy => ?_, fun k q hq => ?_⟩
  · rcases key k q hq with ⟨j, q0, -, h1, -⟩ | ⟨h1, h2⟩
    · exact hP1 j q h1
    · refine (hP k q h2).kept (hk q.1 (hP k q h2).lt (fun h => ?_))
      rcases h with ⟨k2, e, h⟩ | h
      · obtain ⟨j, h3, h4⟩ := xAt hC k2 (q.1, e) h
        have hij := hD.1 k j q (q.1, e) h2 h4 rfl
        subst hij
        exact h1 (List.mem_of_getElem? h3)
      · exact Nat.lt_irrefl _ (Nat.lt_of_lt_of_le (hP k q h2).lt h)
  · rcases key i x hi with ⟨_, x0, -, -, -, h3, h4⟩ | ⟨-, h3⟩ <;> rcases key j y hj with ⟨_, y0, -, -, -, g3, g4⟩ | ⟨-, g3⟩
    · exact hD.1 i j x0 y0 h3 g3 (h4.trans (hxy.trans g4.symm))
    · exact hD.1 i j x0 y h3 g3 (h4.trans hxy)
    · exact hD.1 i j x y0 h3 g3 (hxy.trans g4.symm)
    · exact hD.1 i j x y h3 g3 hxy
  · rcases key k q hq with ⟨_, q0, -, -, -, h3, h4⟩ | ⟨-, h3⟩
    · rw [← h4]; exact hD.2 k q0 h3
    · exact hD.2 k q h3
/-- what a method of ours is given -/
def PB (G : xG) (W : va_W) (sz : Nat) (U : State) : Prop := U.heap.size = sz ∧ va_P G.1 vwCl W U.heap ∧ va_D (fun _ => True) W ∧ Amb G (va_A W sz) U U.heap
/-- contracts: an int of a type, a long, nothing, a reference or null -/
def Ki (G : xG) (ty : FieldType) (y : MethodName) (ws : List Cond) (rm : Room) (av : List Value) (W W1 : va_W) (r : Int32) : Prop := ∀ (l : Launch) (sz : Nat), Met l y ws rm (va_Pc av (PB G W sz)) (va_Qi (fun (r1 : Int32) (_ : Unit) => r1 = r ∧ narrow ty (.int r) = .int r) (fun _ t => va_P G.1 vwCl W1 t.heap) (va_A W sz)) 0 0 (va_A W sz)
def Kl (G : xG) (y : MethodName) (ws : List Cond) (rm : Room) (av : List Value) (W W1 : va_W) (r : Int64) : Prop := ∀ (l : Launch) (sz : Nat), Met l y ws rm (va_Pc av (PB G W sz)) (va_Ql (fun (r1 : Int64) (_ : Unit) => r1 = r) (fun _ t => va_P G.1 vwCl W1 t.heap) (va_A W sz)) 0 0 (va_A W sz)
def Kv (G : xG) (y : MethodName) (ws : List Cond) (rm : Room) (av : List Value) (W W1 : va_W) : Prop := ∀ (l : Launch) (sz : Nat), Met l y ws rm (va_Pc av (PB G W sz)) (va_Qv (fun (_ : Unit) => True) (fun _ t => va_P G.1 vwCl W1 t.heap) (va_A W sz)) 0 0 (va_A W sz)
def Kq (G : xG) (y : MethodName) (ws : List Cond) (rm : Room) (av : List Value) (W W1 : va_W) (r : Option Nat) : Prop := ∀ (l : Launch) (sz : Nat), Met l y ws rm (va_Pc av (PB G W sz)) (va_Qq (fun (r1 : Option Nat) (_ : Unit) => r1 = r) (fun _ t => va_P G.1 vwCl W1 t.heap) (va_A W sz)) 0 0 (va_A W sz)
theorem PB.blind {G : xG} {av : List Value} {W : va_W} {sz : Nat} : FrameBlind (va_Pc av (PB G W sz)) := fun _ U g mk q => ⟨q.1, q.2.1, q.2.2.1, q.2.2.2.1, Amb.same (u := U) (U := U.calling g mk _) rfl q.2.2.2.2⟩
section XC
variable {p : Program} {l : Launch} {e : Env} {R : Room} {s : State} {m : MethodId} {args : Array Value} {below : List Frame} {meth : Method} {c : Code} {H : Heap} {locs : List Loc} {cells slots : Nat} {Q : State → Prop}
variable {Ts wsC wsC' : List Cond} {cc bytes : ByteArray} {nL maxL index n pc : Nat} {own C host : String} {y : MethodName} {ret : Option FieldType} {rm : Room} {G : xG} {A : Nat → Prop} {b : Addr} {As rest : List Value} {ls : Array Slot} {X X1 ws : va_W} {ty : FieldType}
theorem xPre (hP : va_P G.1 vwCl ws H) (hD : va_D A ws) (hS : va_S A s.heap H locs) (hA : ∀ q, s.heap.size ≤ q → A q) (hm : Amb G A s s.heap) {av : List Value} (isC : List Nat) (hC : isC.map (fun i => ws[i]?) = X.map some) (hn : va_nd isC = true) : ∀ U : State, U.heap = H → s.WarmedH U.vm → va_Pc av (PB G X H.size) av.toArray U := by
  intro U hU hW
  have h1 : va_P G.1 vwCl X H := fun k q hq => by
    obtain ⟨i, -, hi⟩ := xAt hC k q hq
    exact hP i q hi
  exact ⟨rfl, by rw [hU], by rw [hU]; exact h1, (hD.sub isC hn hC).weaken (fun _ _ _ _ => trivial), hm.go hS (va_free hD hS hA isC hC) hU hW⟩
/-- the run of a call, however it was found, and what comes behind it -/
theorem xEndI {r : Int32} {a : Array Value} {st0 : List Value} (hr : va_Run p l e R s m args below meth c H locs cells slots 0 0 (F0 m pc ls st0) rest (va_Qi (fun (r1 : Int32) (_ : Unit) => r1 = r ∧ narrow ty (.int r) = .int r) (fun _ t => va_P G.1 vwCl X1 t.heap) (va_A X H.size) a) (va_A X H.size))
    (hP : va_P G.1 vwCl ws H) (hD : va_D A ws) (hS : va_S A s.heap H locs) (hA : ∀ q, s.heap.size ≤ q → A q) (isC : List Nat) (hC : isC.map (fun i => ws[i]?) = X.map some) (hn : va_nd isC = true) (he : X1.map Prod.fst = X.map Prod.fst)
    (kk : ∀ (H1 : Heap) (locs1 : List Loc), narrow ty (.int r) = .int r → va_P G.1 vwCl (xPut ws isC X1) H1 → va_D A (xPut ws isC X1) → va_S A s.heap H1 locs1 → W p l e R s m args below meth c H1 locs1 cells slots Q (F0 m (pc + 3) ls (.int r :: rest))) : W p l e R s m args below meth c H locs cells slots Q (F0 m pc ls st0) := by
  have hF := va_free hD hS hA isC hC
  refine va_calli hr hS (fun q _ h => hF q h) hF (fun r1 u t H1 locs1 ht hvm hw hB hz hk hS1 => ?_)
  obtain ⟨rfl, hw⟩ := hw
  rw [ht] at hB
  obtain ⟨hP1, hD1⟩ := xJoin hP hD isC hC hn he hk hB
  exact kk H1 locs1 hw hP1 hD1 hS1
theorem xEndL {r : Int64} {a : Array Value} {st0 : List Value} (hr : va_Run p l e R s m args below meth c H locs cells slots 0 0 (F0 m pc ls st0) rest (va_Ql (fun (r1 : Int64) (_ : Unit) => r1 = r) (fun _ t => va_P G.1 vwCl X1 t.heap) (va_A X H.size) a) (va_A X H.size))
    (hP : va_P G.1 vwCl ws H) (hD : va_D A ws) (hS : va_S A s.heap H locs) (hA : ∀ q, s.heap.size ≤ q → A q) (isC : List Nat) (hC : isC.map (fun i => ws[i]?) = X.map some) (hn : va_nd isC = true) (he : X1.map Prod.fst = X.map Prod.fst)
    (kk : ∀ (H1 : Heap) (locs1 : List Loc), va_P G.1 vwCl (xPut ws isC X1) H1 → va_D A (xPut ws isC X1) → va_S A s.heap H1 locs1 → W p l e R s m args below meth c H1 locs1 cells slots Q (F0 m (pc + 3) ls (.long r :: rest))) : W p l e R s m args below meth c H locs cells slots Q (F0 m pc ls st0) := by
  have hF := va_free hD hS hA isC hC
  refine va_calll hr hS (fun q _ h => hF q h) hF (fun r1 u t H1 locs1 ht hvm hw hB hz hk hS1 => ?_)
  subst hw
  rw [ht] at hB
  obtain ⟨hP1, hD1⟩ := xJoin hP hD isC hC hn he hk hB
  exact kk H1 locs1 hP1 hD1 hS1
theorem xEndV {a : Array Value} {st0 : List Value} (hr : va_Run p l e R s m args below meth c H locs cells slots 0 0 (F0 m pc ls st0) rest (va_Qv (fun (_ : Unit) => True) (fun _ t => va_P G.1 vwCl X1 t.heap) (va_A X H.size) a) (va_A X H.size))
    (hP : va_P G.1 vwCl ws H) (hD : va_D A ws) (hS : va_S A s.heap H locs) (hA : ∀ q, s.heap.size ≤ q → A q) (isC : List Nat) (hC : isC.map (fun i => ws[i]?) = X.map some) (hn : va_nd isC = true) (he : X1.map Prod.fst = X.map Prod.fst)
    (kk : ∀ (H1 : Heap) (locs1 : List Loc), va_P G.1 vwCl (xPut ws isC X1) H1 → va_D A (xPut ws isC X1) → va_S A s.heap H1 locs1 → W p l e R s m args below meth c H1 locs1 cells slots Q (F0 m (pc + 3) ls rest)) : W p l e R s m args below meth c H locs cells slots Q (F0 m pc ls st0) := by
  have hF := va_free hD hS hA isC hC
  refine va_callv hr hS (fun q _ h => hF q h) hF (fun u t H1 locs1 ht hvm hw hB hz hk hS1 => ?_)
  rw [ht] at hB
  obtain ⟨hP1, hD1⟩ := xJoin hP hD isC hC hn he hk hB
  exact kk H1 locs1 hP1 hD1 hS1
theorem xEndQ {r : Option Nat} {a : Array Value} {st0 : List Value} (hr : va_Run p l e R s m args below meth c H locs cells slots 0 0 (F0 m pc ls st0) rest (va_Qq (fun (r1 : Option Nat) (_ : Unit) => r1 = r) (fun _ t => va_P G.1 vwCl X1 t.heap) (va_A X H.size) a) (va_A X H.size))
    (hP : va_P G.1 vwCl ws H) (hD : va_D A ws) (hS : va_S A s.heap H locs) (hA : ∀ q, s.heap.size ≤ q → A q) (isC : List Nat) (hC : isC.map (fun i => ws[i]?) = X.map some) (hn : va_nd isC = true) (he : X1.map Prod.fst = X.map Prod.fst)
    (kk : ∀ (H1 : Heap) (locs1 : List Loc), va_P G.1 vwCl (xPut ws isC X1) H1 → va_D A (xPut ws isC X1) → va_S A s.heap H1 locs1 → W p l e R s m args below meth c H1 locs1 cells slots Q (F0 m (pc + 3) ls (va_rf r :: rest))) : W p l e R s m args below meth c H locs cells slots Q (F0 m pc ls st0) := by
  have hF := va_free hD hS hA isC hC
  refine va_callq hr hS (fun q _ h => hF q h) hF (fun r1 u t H1 locs1 ht hvm hw hB hz hk hS1 => ?_)
  subst hw
  rw [ht] at hB
  obtain ⟨hP1, hD1⟩ := xJoin hP hD isC hC hn he hk hB
  exact kk H1 locs1 hP1 hD1 hS1
theorem gT (hs : ∀ w ∈ TBL, w ∈ Ts) {cdy : Cond} (h : cdy ∈ TBL) : GoodIn Ts (cdy :: TBL) := fun w hw => by
  have h1 : w ∈ TBL := (List.mem_cons.mp hw).elim (fun z => by rw [z]; exact h) id
  exact ⟨hs w h1, good_of_word (List.all_eq_true.mp TBL_good w h1)⟩
theorem gTs (hs : ∀ w ∈ TBL, w ∈ Ts) {l0 : List Cond} (h0 : ∀ w ∈ l0, w ∈ TBL) {cdy : Cond} (h : cdy ∈ TBL) : GoodIn Ts (l0 ++ (cdy :: TBL)) := fun w hw => by
  have h1 : w ∈ TBL := (List.mem_append.mp hw).elim (h0 w) (fun hw => (List.mem_cons.mp hw).elim (fun z => by rw [z]; exact h) id)
  exact ⟨hs w h1, good_of_word (List.all_eq_true.mp TBL_good w h1)⟩
theorem tcons {cd : Cond} : ∀ w ∈ TBL, w ∈ cd :: TBL := fun _ h => List.mem_cons_of_mem _ h
/-- what a run wants beside the contract and the words -/
abbrev xAnd (p : Program) (m : MethodId) (c : Code) (cc : ByteArray) (nL : Nat) (s : State) (args : Array Value) (Ts : List Cond) (own : String) (G : xG) (A : Nat → Prop) : Prop := CallFix p m c cc nL s args Ts own ∧ (∀ w ∈ TBL, w ∈ Ts) ∧ (∀ q, s.heap.size ≤ q → A q) ∧ Amb G A s s.heap
theorem xRunV {fs : List Value} {qq : vw_C} {Qc : Array Value → State → Outcome → State → Prop} {st0 : List Value} (Z : xAnd p m c cc nL s args Ts own G A) (hM : Met l y (.code y bytes maxL ret :: TBL) rm (va_Pc (.ref b :: As) (PB G X H.size)) Qc 0 0 (va_A X H.size)) (h1 : Cond.methodLink own index y ∈ TBL) (h2 : Cond.instanceMethod y ∈ TBL) (h3 : Cond.selects C y y ∈ TBL) (h4 : Cond.initialized C ∈ TBL) (h5 : Cond.code y bytes maxL ret ∈ TBL)
    (n : Nat) (hd : y.cls = C ∧ y.cls ≠ "java/lang/invoke/MethodHandle" ∧ y.cls ≠ "java/lang/invoke/VarHandle" ∧ (parseMethodDescriptor y.desc).map (fun d => d.parameters.length) = some n) (hR : rm.frames + 1 ≤ R.frames ∧ 8 + (maxL + 11) + rm.locals ≤ R.locals) (hz : rm.cells = 0 ∧ rm.slots = 0) (hP : va_P G.1 vwCl ws H) (hD : va_D A ws) (hS : va_S A s.heap H locs)
    (q0 ci : Nat) (hc : vwCl[ci]? = some qq) (hqq : qq.1 = C) (hq : ws[q0]? = some (b, .inr (ci, fs))) (isC : List Nat) (hC : isC.map (fun i => ws[i]?) = X.map some) (hn : va_nd isC = true) (hlen : As.length = n) (hsize : ls.size = nL) (hstack : st0 = As.reverse ++ .ref b :: rest) (hW : (rest.map fun v => v.category).sum ≤ 8) (hdg : decode cc pc = .ok (.invokevirtual index, 3)) (hf : cells ≤ R.cells ∧ slots ≤ R.slots) :
    va_Run p l e R s m args below meth c H locs cells slots 0 0 (F0 m pc ls st0) rest (Qc (Value.ref b :: As).toArray) (va_A X H.size) := by
  obtain ⟨S, hs, hA, hm⟩ := Z
  have hts := S.2.2.2.2
  refine va_runV S hM (cwV n hts (gTs hs (l0 := [.methodLink own index y, .instanceMethod y, .selects C y y, .initialized C]) (fun w hw => ?_) h5) rfl hz.1 hz.2 hd hR) ⟨PB.blind, ?_, xPre hP hD hS hA hm isC hC hn⟩ rfl hlen hsize hstack (lv_room hW) hdg hf
  · simp only [List.mem_cons, List.not_mem_nil, or_false] at hw
    rcases hw with rfl | rfl | rfl | rfl
    · exact h1
    · exact h2
    · exact h3
    · exact h4
  · have h := va_recv hm.1 hP hc hq
    rw [hqq] at h
    exact h
theorem xRunS {Qc : Array Value → State → Outcome → State → Prop} {st0 : List Value} (Z : xAnd p m c cc nL s args Ts own G A) (hM : Met l y (.code y bytes maxL ret :: TBL) rm (va_Pc As (PB G X H.size)) Qc 0 0 (va_A X H.size)) (h1 : Cond.methodLink own index y ∈ TBL) (h2 : Cond.static y ∈ TBL) (h4 : Cond.initialized y.cls ∈ TBL) (h5 : Cond.code y bytes maxL ret ∈ TBL)
    (n : Nat) (hd : y.cls ≠ "java/lang/invoke/MethodHandle" ∧ y.cls ≠ "java/lang/invoke/VarHandle" ∧ (parseMethodDescriptor y.desc).map (fun d => d.parameters.length) = some n) (hR : rm.frames + 1 ≤ R.frames ∧ 8 + (maxL + 11) + rm.locals ≤ R.locals) (hz : rm.cells = 0 ∧ rm.slots = 0) (hP : va_P G.1 vwCl ws H) (hD : va_D A ws) (hS : va_S A s.heap H locs)
    (isC : List Nat) (hC : isC.map (fun i => ws[i]?) = X.map some) (hn : va_nd isC = true) (hlen : As.length = n) (hsize : ls.size = nL) (hstack : st0 = As.reverse ++ rest) (hW : (rest.map fun v => v.category).sum ≤ 8) (hdg : decode cc pc = .ok (.invokestatic index, 3)) (hf : cells ≤ R.cells ∧ slots ≤ R.slots) :
    va_Run p l e R s m args below meth c H locs cells slots 0 0 (F0 m pc ls st0) rest (Qc As.toArray) (va_A X H.size) := by
  obtain ⟨S, hs, hA, hm⟩ := Z
  have hts := S.2.2.2.2
  refine va_runS S hM (va_cwS n hts (gTs hs (l0 := [.methodLink own index y, .static y, .initialized y.cls]) (fun w hw => ?_) h5) rfl hz.1 hz.2 hd hR) ⟨PB.blind, xPre hP hD hS hA hm isC hC hn⟩ rfl hlen hsize hstack (lv_room hW) hdg hf
  simp only [List.mem_cons, List.not_mem_nil, or_false] at hw
  rcases hw with rfl | rfl | rfl
  · exact h1
  · exact h2
  · exact h4
theorem xRunN {Qc : Array Value → State → Outcome → State → Prop} {st0 : List Value} (Z : xAnd p m c cc nL s args Ts own G A) (hM : Met l y (.code y bytes maxL ret :: TBL) rm (va_Pc As (PB G X H.size)) Qc 0 0 (va_A X H.size)) (h1 : va_Nw (.methodLinkNest own index y host) s) (h2 : Cond.static y ∈ TBL) (h4 : Cond.initialized y.cls ∈ TBL) (h5 : Cond.code y bytes maxL ret ∈ TBL)
    (n : Nat) (hd : y.cls ≠ "java/lang/invoke/MethodHandle" ∧ y.cls ≠ "java/lang/invoke/VarHandle" ∧ (parseMethodDescriptor y.desc).map (fun d => d.parameters.length) = some n) (hR : rm.frames + 1 ≤ R.frames ∧ 8 + (maxL + 11) + rm.locals ≤ R.locals) (hz : rm.cells = 0 ∧ rm.slots = 0) (hP : va_P G.1 vwCl ws H) (hD : va_D A ws) (hS : va_S A s.heap H locs)
    (isC : List Nat) (hC : isC.map (fun i => ws[i]?) = X.map some) (hn : va_nd isC = true) (hlen : As.length = n) (hsize : ls.size = nL) (hstack : st0 = As.reverse ++ rest) (hW : (rest.map fun v => v.category).sum ≤ 8) (hdg : decode cc pc = .ok (.invokestatic index, 3)) (hf : cells ≤ R.cells ∧ slots ≤ R.slots) :
    va_Run p l e R s m args below meth c H locs cells slots 0 0 (F0 m pc ls st0) rest (Qc As.toArray) (va_A X H.size) := by
  obtain ⟨S, hs, hA, hm⟩ := Z
  have hts := S.2.2.2.2
  exact va_runSN S hM ⟨va_cnB n hts (gT hs h5) rfl hz.1 hz.2 h1 (hts _ (hs _ h4)) hd hR, hts _ (hs _ h2), trivial⟩ ⟨PB.blind, xPre hP hD hS hA hm isC hC hn⟩ rfl hlen hsize hstack (lv_room hW) hdg hf
/-- a row of references, at a place of which it is known what stands there -/
theorem xAldq {cl : List vw_C} {D : va_G} {tys : List (ClassId × FieldType)} {a q : Nat} (hexec : p.tables.exec = Jvm.exec) (hb : c.code = cc) (hK : va_K D cl tys s) (hP : va_P D cl ws H) (q0 t0 : Nat) {cA : ClassId} {C : String} {n : Nat} {f : Nat → Option Nat} (ha : ws[q0]? = some (a, .inl (cA, n, .inr (.inr (.inr (.inr f)))))) (ht : tys[t0]? = some (cA, .object C)) {i : Int32} (hin : vp_in i n) (hv : f i.toNatClampNeg = some q) (hdg : decode cc pc = .ok (.aaload, 1))
    (kk : W p l e R s m args below meth c H locs cells slots Q (F0 m (pc + 1) ls (.ref q :: rest))) : W p l e R s m args below meth c H locs cells slots Q (F0 m pc ls (.int i :: .ref a :: rest)) := by
  refine va_aldq hexec hb hK hP q0 t0 ha ht hin hdg ?_
  rw [hv]
  exact kk
end XC
/-! what a method computes, as a term: none where the machine would throw, or where the fuel ends -/
def bd {α β : Type} (o : Option α) (f : α → Option β) : Option β := match o with
  | none => none
  | some a => f a
theorem bdS {α β : Type} {o : Option α} {f : α → Option β} {y : β} (h : bd o f = some y) : ∃ a, o = some a ∧ f a = some y := by
  cases o with
  | none => cases h
  | some a => exact ⟨a, rfl, h⟩
theorem bd_some {α β : Type} (a : α) (f : α → Option β) : bd (some a) f = f a := rfl
def lp {σ ρ : Type} (body : (σ → Option ρ) → σ → Option ρ) : Nat → σ → Option ρ
  | 0, _ => none
  | n + 1, v => body (lp body n) v
theorem lpS {σ ρ : Type} {body : (σ → Option ρ) → σ → Option ρ} {n : Nat} {v : σ} {y : ρ} (h : lp body (n + 1) v = some y) : body (lp body n) v = some y := h
theorem lp0 {σ ρ : Type} {body : (σ → Option ρ) → σ → Option ρ} {v : σ} {y : ρ} {P : Prop} (h : lp body 0 v = some y) : P := by cases h
theorem itP {c : Prop} [Decidable c] {α : Type} {a b : Option α} {y : α} (hc : c) (h : (if c then a else b) = some y) : a = some y := by rwa [if_pos hc] at h
theorem itN {c : Prop} [Decidable c] {α : Type} {a b : Option α} {y : α} (hc : ¬ c) (h : (if c then a else b) = some y) : b = some y := by rwa [if_neg hc] at h
theorem gdS {c : Prop} [Decidable c] {α : Type} {a : Option α} {y : α} (h : (if c then none else a) = some y) : ¬ c ∧ a = some y := by
  by_cases hc : c
  · rw [if_pos hc] at h; cases h
  · rw [if_neg hc] at h; exact ⟨hc, h⟩
theorem xNe {x k : Int32} (h : ¬ x = k) : x.toInt ≠ k.toInt := fun e => h (Int32.toInt_inj.mp e)
def fuelC : Nat := 1000
theorem xFitZ {x : Int32} (h : narrow .boolean (.int x) = .int x) : fits .boolean (.int x) = true := by
  have h1 : x &&& 1 = x := by
    have h2 : narrow .boolean (.int x) = Value.int (x &&& 1) := rfl
    rw [h2] at h
    exact Value.int.inj h
  have h3 : x = 0 ∨ x = 1 := by
    have h4 : (x &&& 1).toBitVec = x.toBitVec := by rw [h1]
    have h5 : x.toBitVec &&& 1#32 = x.toBitVec := h4
    have h6 : x.toBitVec = 0#32 ∨ x.toBitVec = 1#32 := by
      have h7 : x.toBitVec.toNat &&& 1 = x.toBitVec.toNat := by
        have := congrArg BitVec.toNat h5
        simpa using this
      rw [Nat.and_one_is_mod] at h7
      have h8 : x.toBitVec.toNat = 0 ∨ x.toBitVec.toNat = 1 := by omega
      rcases h8 with h8 | h8
      · left; exact BitVec.eq_of_toNat_eq (by rw [h8]; rfl)
      · right; exact BitVec.eq_of_toNat_eq (by rw [h8]; rfl)
    rcases h6 with h6 | h6
    · left; exact Int32.toBitVec_inj.mp h6
    · right; exact Int32.toBitVec_inj.mp h6
  rcases h3 with rfl | rfl <;> rfl
theorem xLf {D : va_G} {cl : List vw_C} {ws : va_W} {H : Heap} {t : State} (hP : va_P D cl ws H) (ht : t.heap = H) : va_P D cl ws t.heap := by rw [ht]; exact hP
theorem xGo {p : Program} {l : Launch} {e : Env} {R : Room} {s : State} {m : MethodId} {args : Array Value} {below : List Frame} {meth : Method} {c : Code} {cells slots : Nat} {Q : State → Prop} {D : va_G} {cl : List vw_C} {ws : va_W} {A : Nat → Prop} {g : JFrame} (hP : va_P D cl ws s.heap) (kk : ∀ (H : Heap) (locs : List Loc), va_P D cl ws H → va_S A s.heap H locs → W p l e R s m args below meth c H locs cells slots Q g) : W p l e R s m args below meth c s.heap [] cells slots Q g := kk _ _ hP va_S.rf
theorem xLoop1 {p : Program} {l : Launch} {e : Env} {R : Room} {s : State} {m : MethodId} {args : Array Value} {below : List Frame} {meth : Method} {c : Code} {cells slots : Nat} {Q : State → Prop} {pc : Nat} {α0 ρ : Type} {body : (α0 → Option ρ) → α0 → Option ρ} {u : ρ} (I : α0 → Heap → List Loc → Array Slot → Prop)
    (step : ∀ (N : Nat) (a0 : α0), (∀ (b0 : α0) (H : Heap) (locs : List Loc) (ls : Array Slot), I b0 H locs ls → lp body N b0 = some u → W p l e R s m args below meth c H locs cells slots Q (F0 m pc ls [])) → ∀ (H : Heap) (locs : List Loc) (ls : Array Slot), I a0 H locs ls → body (lp body N) a0 = some u → W p l e R s m args below meth c H locs cells slots Q (F0 m pc ls [])) :
    ∀ (N : Nat) (a0 : α0) (H : Heap) (locs : List Loc) (ls : Array Slot), I a0 H locs ls → lp body N a0 = some u → W p l e R s m args below meth c H locs cells slots Q (F0 m pc ls []) := by
  intro N
  induction N with
  | zero => intro a0 H locs ls _ hF; cases hF
  | succ N ih => intro a0 H locs ls hI hF; exact step N a0 ih H locs ls hI hF
theorem xLoop2 {p : Program} {l : Launch} {e : Env} {R : Room} {s : State} {m : MethodId} {args : Array Value} {below : List Frame} {meth : Method} {c : Code} {cells slots : Nat} {Q : State → Prop} {pc : Nat} {α0 α1 ρ : Type} {body : ((α0 × α1) → Option ρ) → (α0 × α1) → Option ρ} {u : ρ} (I : α0 → α1 → Heap → List Loc → Array Slot → Prop)
    (step : ∀ (N : Nat) (a0 : α0) (a1 : α1), (∀ (b0 : α0) (b1 : α1) (H : Heap) (locs : List Loc) (ls : Array Slot), I b0 b1 H locs ls → lp body N (b0, b1) = some u → W p l e R s m args below meth c H locs cells slots Q (F0 m pc ls [])) → ∀ (H : Heap) (locs : List Loc) (ls : Array Slot), I a0 a1 H locs ls → body (lp body N) (a0, a1) = some u → W p l e R s m args below meth c H locs cells slots Q (F0 m pc ls [])) :
    ∀ (N : Nat) (a0 : α0) (a1 : α1) (H : Heap) (locs : List Loc) (ls : Array Slot), I a0 a1 H locs ls → lp body N (a0, a1) = some u → W p l e R s m args below meth c H locs cells slots Q (F0 m pc ls []) := by
  intro N
  induction N with
  | zero => intro a0 a1 H locs ls _ hF; cases hF
  | succ N ih => intro a0 a1 H locs ls hI hF; exact step N a0 a1 ih H locs ls hI hF
theorem xLoop3 {p : Program} {l : Launch} {e : Env} {R : Room} {s : State} {m : MethodId} {args : Array Value} {below : List Frame} {meth : Method} {c : Code} {cells slots : Nat} {Q : State → Prop} {pc : Nat} {α0 α1 α2 ρ : Type} {body : ((α0 × α1 × α2) → Option ρ) → (α0 × α1 × α2) → Option ρ} {u : ρ} (I : α0 → α1 → α2 → Heap → List Loc → Array Slot → Prop)
    (step : ∀ (N : Nat) (a0 : α0) (a1 : α1) (a2 : α2), (∀ (b0 : α0) (b1 : α1) (b2 : α2) (H : Heap) (locs : List Loc) (ls : Array Slot), I b0 b1 b2 H locs ls → lp body N (b0, b1, b2) = some u → W p l e R s m args below meth c H locs cells slots Q (F0 m pc ls [])) → ∀ (H : Heap) (locs : List Loc) (ls : Array Slot), I a0 a1 a2 H locs ls → body (lp body N) (a0, a1, a2) = some u → W p l e R s m args below meth c H locs cells slots Q (F0 m pc ls [])) :
    ∀ (N : Nat) (a0 : α0) (a1 : α1) (a2 : α2) (H : Heap) (locs : List Loc) (ls : Array Slot), I a0 a1 a2 H locs ls → lp body N (a0, a1, a2) = some u → W p l e R s m args below meth c H locs cells slots Q (F0 m pc ls []) := by
  intro N
  induction N with
  | zero => intro a0 a1 a2 H locs ls _ hF; cases hF
  | succ N ih => intro a0 a1 a2 H locs ls hI hF; exact step N a0 a1 a2 ih H locs ls hI hF
theorem xLoop4 {p : Program} {l : Launch} {e : Env} {R : Room} {s : State} {m : MethodId} {args : Array Value} {below : List Frame} {meth : Method} {c : Code} {cells slots : Nat} {Q : State → Prop} {pc : Nat} {α0 α1 α2 α3 ρ : Type} {body : ((α0 × α1 × α2 × α3) → Option ρ) → (α0 × α1 × α2 × α3) → Option ρ} {u : ρ} (I : α0 → α1 → α2 → α3 → Heap → List Loc → Array Slot → Prop)
    (step : ∀ (N : Nat) (a0 : α0) (a1 : α1) (a2 : α2) (a3 : α3), (∀ (b0 : α0) (b1 : α1) (b2 : α2) (b3 : α3) (H : Heap) (locs : List Loc) (ls : Array Slot), I b0 b1 b2 b3 H locs ls → lp body N (b0, b1, b2, b3) = some u → W p l e R s m args below meth c H locs cells slots Q (F0 m pc ls [])) → ∀ (H : Heap) (locs : List Loc) (ls : Array Slot), I a0 a1 a2 a3 H locs ls → body (lp body N) (a0, a1, a2, a3) = some u → W p l e R s m args below meth c H locs cells slots Q (F0 m pc ls [])) :
    ∀ (N : Nat) (a0 : α0) (a1 : α1) (a2 : α2) (a3 : α3) (H : Heap) (locs : List Loc) (ls : Array Slot), I a0 a1 a2 a3 H locs ls → lp body N (a0, a1, a2, a3) = some u → W p l e R s m args below meth c H locs cells slots Q (F0 m pc ls []) := by
  intro N
  induction N with
  | zero => intro a0 a1 a2 a3 H locs ls _ hF; cases hF
  | succ N ih => intro a0 a1 a2 a3 H locs ls hI hF; exact step N a0 a1 a2 a3 ih H locs ls hI hF
theorem xLoop5 {p : Program} {l : Launch} {e : Env} {R : Room} {s : State} {m : MethodId} {args : Array Value} {below : List Frame} {meth : Method} {c : Code} {cells slots : Nat} {Q : State → Prop} {pc : Nat} {α0 α1 α2 α3 α4 ρ : Type} {body : ((α0 × α1 × α2 × α3 × α4) → Option ρ) → (α0 × α1 × α2 × α3 × α4) → Option ρ} {u : ρ} (I : α0 → α1 → α2 → α3 → α4 → Heap → List Loc → Array Slot → Prop)
    (step : ∀ (N : Nat) (a0 : α0) (a1 : α1) (a2 : α2) (a3 : α3) (a4 : α4), (∀ (b0 : α0) (b1 : α1) (b2 : α2) (b3 : α3) (b4 : α4) (H : Heap) (locs : List Loc) (ls : Array Slot), I b0 b1 b2 b3 b4 H locs ls → lp body N (b0, b1, b2, b3, b4) = some u → W p l e R s m args below meth c H locs cells slots Q (F0 m pc ls [])) → ∀ (H : Heap) (locs : List Loc) (ls : Array Slot), I a0 a1 a2 a3 a4 H locs ls → body (lp body N) (a0, a1, a2, a3, a4) = some u → W p l e R s m args below meth c H locs cells slots Q (F0 m pc ls [])) :
    ∀ (N : Nat) (a0 : α0) (a1 : α1) (a2 : α2) (a3 : α3) (a4 : α4) (H : Heap) (locs : List Loc) (ls : Array Slot), I a0 a1 a2 a3 a4 H locs ls → lp body N (a0, a1, a2, a3, a4) = some u → W p l e R s m args below meth c H locs cells slots Q (F0 m pc ls []) := by
  intro N
  induction N with
  | zero => intro a0 a1 a2 a3 a4 H locs ls _ hF; cases hF
  | succ N ih => intro a0 a1 a2 a3 a4 H locs ls hI hF; exact step N a0 a1 a2 a3 a4 ih H locs ls hI hF
theorem xLoop6 {p : Program} {l : Launch} {e : Env} {R : Room} {s : State} {m : MethodId} {args : Array Value} {below : List Frame} {meth : Method} {c : Code} {cells slots : Nat} {Q : State → Prop} {pc : Nat} {α0 α1 α2 α3 α4 α5 ρ : Type} {body : ((α0 × α1 × α2 × α3 × α4 × α5) → Option ρ) → (α0 × α1 × α2 × α3 × α4 × α5) → Option ρ} {u : ρ} (I : α0 → α1 → α2 → α3 → α4 → α5 → Heap → List Loc → Array Slot → Prop)
    (step : ∀ (N : Nat) (a0 : α0) (a1 : α1) (a2 : α2) (a3 : α3) (a4 : α4) (a5 : α5), (∀ (b0 : α0) (b1 : α1) (b2 : α2) (b3 : α3) (b4 : α4) (b5 : α5) (H : Heap) (locs : List Loc) (ls : Array Slot), I b0 b1 b2 b3 b4 b5 H locs ls → lp body N (b0, b1, b2, b3, b4, b5) = some u → W p l e R s m args below meth c H locs cells slots Q (F0 m pc ls [])) → ∀ (H : Heap) (locs : List Loc) (ls : Array Slot), I a0 a1 a2 a3 a4 a5 H locs ls → body (lp body N) (a0, a1, a2, a3, a4, a5) = some u → W p l e R s m args below meth c H locs cells slots Q (F0 m pc ls [])) :
    ∀ (N : Nat) (a0 : α0) (a1 : α1) (a2 : α2) (a3 : α3) (a4 : α4) (a5 : α5) (H : Heap) (locs : List Loc) (ls : Array Slot), I a0 a1 a2 a3 a4 a5 H locs ls → lp body N (a0, a1, a2, a3, a4, a5) = some u → W p l e R s m args below meth c H locs cells slots Q (F0 m pc ls []) := by
  intro N
  induction N with
  | zero => intro a0 a1 a2 a3 a4 a5 H locs ls _ hF; cases hF
  | succ N ih => intro a0 a1 a2 a3 a4 a5 H locs ls hI hF; exact step N a0 a1 a2 a3 a4 a5 ih H locs ls hI hF
theorem xLoop7 {p : Program} {l : Launch} {e : Env} {R : Room} {s : State} {m : MethodId} {args : Array Value} {below : List Frame} {meth : Method} {c : Code} {cells slots : Nat} {Q : State → Prop} {pc : Nat} {α0 α1 α2 α3 α4 α5 α6 ρ : Type} {body : ((α0 × α1 × α2 × α3 × α4 × α5 × α6) → Option ρ) → (α0 × α1 × α2 × α3 × α4 × α5 × α6) → Option ρ} {u : ρ} (I : α0 → α1 → α2 → α3 → α4 → α5 → α6 → Heap → List Loc → Array Slot → Prop)
    (step : ∀ (N : Nat) (a0 : α0) (a1 : α1) (a2 : α2) (a3 : α3) (a4 : α4) (a5 : α5) (a6 : α6), (∀ (b0 : α0) (b1 : α1) (b2 : α2) (b3 : α3) (b4 : α4) (b5 : α5) (b6 : α6) (H : Heap) (locs : List Loc) (ls : Array Slot), I b0 b1 b2 b3 b4 b5 b6 H locs ls → lp body N (b0, b1, b2, b3, b4, b5, b6) = some u → W p l e R s m args below meth c H locs cells slots Q (F0 m pc ls [])) → ∀ (H : Heap) (locs : List Loc) (ls : Array Slot), I a0 a1 a2 a3 a4 a5 a6 H locs ls → body (lp body N) (a0, a1, a2, a3, a4, a5, a6) = some u → W p l e R s m args below meth c H locs cells slots Q (F0 m pc ls [])) :
    ∀ (N : Nat) (a0 : α0) (a1 : α1) (a2 : α2) (a3 : α3) (a4 : α4) (a5 : α5) (a6 : α6) (H : Heap) (locs : List Loc) (ls : Array Slot), I a0 a1 a2 a3 a4 a5 a6 H locs ls → lp body N (a0, a1, a2, a3, a4, a5, a6) = some u → W p l e R s m args below meth c H locs cells slots Q (F0 m pc ls []) := by
  intro N
  induction N with
  | zero => intro a0 a1 a2 a3 a4 a5 a6 H locs ls _ hF; cases hF
  | succ N ih => intro a0 a1 a2 a3 a4 a5 a6 H locs ls hI hF; exact step N a0 a1 a2 a3 a4 a5 a6 ih H locs ls hI hF
theorem xLoop8 {p : Program} {l : Launch} {e : Env} {R : Room} {s : State} {m : MethodId} {args : Array Value} {below : List Frame} {meth : Method} {c : Code} {cells slots : Nat} {Q : State → Prop} {pc : Nat} {α0 α1 α2 α3 α4 α5 α6 α7 ρ : Type} {body : ((α0 × α1 × α2 × α3 × α4 × α5 × α6 × α7) → Option ρ) → (α0 × α1 × α2 × α3 × α4 × α5 × α6 × α7) → Option ρ} {u : ρ} (I : α0 → α1 → α2 → α3 → α4 → α5 → α6 → α7 → Heap → List Loc → Array Slot → Prop)
    (step : ∀ (N : Nat) (a0 : α0) (a1 : α1) (a2 : α2) (a3 : α3) (a4 : α4) (a5 : α5) (a6 : α6) (a7 : α7), (∀ (b0 : α0) (b1 : α1) (b2 : α2) (b3 : α3) (b4 : α4) (b5 : α5) (b6 : α6) (b7 : α7) (H : Heap) (locs : List Loc) (ls : Array Slot), I b0 b1 b2 b3 b4 b5 b6 b7 H locs ls → lp body N (b0, b1, b2, b3, b4, b5, b6, b7) = some u → W p l e R s m args below meth c H locs cells slots Q (F0 m pc ls [])) → ∀ (H : Heap) (locs : List Loc) (ls : Array Slot), I a0 a1 a2 a3 a4 a5 a6 a7 H locs ls → body (lp body N) (a0, a1, a2, a3, a4, a5, a6, a7) = some u → W p l e R s m args below meth c H locs cells slots Q (F0 m pc ls [])) :
    ∀ (N : Nat) (a0 : α0) (a1 : α1) (a2 : α2) (a3 : α3) (a4 : α4) (a5 : α5) (a6 : α6) (a7 : α7) (H : Heap) (locs : List Loc) (ls : Array Slot), I a0 a1 a2 a3 a4 a5 a6 a7 H locs ls → lp body N (a0, a1, a2, a3, a4, a5, a6, a7) = some u → W p l e R s m args below meth c H locs cells slots Q (F0 m pc ls []) := by
  intro N
  induction N with
  | zero => intro a0 a1 a2 a3 a4 a5 a6 a7 H locs ls _ hF; cases hF
  | succ N ih => intro a0 a1 a2 a3 a4 a5 a6 a7 H locs ls hI hF; exact step N a0 a1 a2 a3 a4 a5 a6 a7 ih H locs ls hI hF
theorem xLoop9 {p : Program} {l : Launch} {e : Env} {R : Room} {s : State} {m : MethodId} {args : Array Value} {below : List Frame} {meth : Method} {c : Code} {cells slots : Nat} {Q : State → Prop} {pc : Nat} {α0 α1 α2 α3 α4 α5 α6 α7 α8 ρ : Type} {body : ((α0 × α1 × α2 × α3 × α4 × α5 × α6 × α7 × α8) → Option ρ) → (α0 × α1 × α2 × α3 × α4 × α5 × α6 × α7 × α8) → Option ρ} {u : ρ} (I : α0 → α1 → α2 → α3 → α4 → α5 → α6 → α7 → α8 → Heap → List Loc → Array Slot → Prop)
    (step : ∀ (N : Nat) (a0 : α0) (a1 : α1) (a2 : α2) (a3 : α3) (a4 : α4) (a5 : α5) (a6 : α6) (a7 : α7) (a8 : α8), (∀ (b0 : α0) (b1 : α1) (b2 : α2) (b3 : α3) (b4 : α4) (b5 : α5) (b6 : α6) (b7 : α7) (b8 : α8) (H : Heap) (locs : List Loc) (ls : Array Slot), I b0 b1 b2 b3 b4 b5 b6 b7 b8 H locs ls → lp body N (b0, b1, b2, b3, b4, b5, b6, b7, b8) = some u → W p l e R s m args below meth c H locs cells slots Q (F0 m pc ls [])) → ∀ (H : Heap) (locs : List Loc) (ls : Array Slot), I a0 a1 a2 a3 a4 a5 a6 a7 a8 H locs ls → body (lp body N) (a0, a1, a2, a3, a4, a5, a6, a7, a8) = some u → W p l e R s m args below meth c H locs cells slots Q (F0 m pc ls [])) :
    ∀ (N : Nat) (a0 : α0) (a1 : α1) (a2 : α2) (a3 : α3) (a4 : α4) (a5 : α5) (a6 : α6) (a7 : α7) (a8 : α8) (H : Heap) (locs : List Loc) (ls : Array Slot), I a0 a1 a2 a3 a4 a5 a6 a7 a8 H locs ls → lp body N (a0, a1, a2, a3, a4, a5, a6, a7, a8) = some u → W p l e R s m args below meth c H locs cells slots Q (F0 m pc ls []) := by
  intro N
  induction N with
  | zero => intro a0 a1 a2 a3 a4 a5 a6 a7 a8 H locs ls _ hF; cases hF
  | succ N ih => intro a0 a1 a2 a3 a4 a5 a6 a7 a8 H locs ls hI hF; exact step N a0 a1 a2 a3 a4 a5 a6 a7 a8 ih H locs ls hI hF
theorem xLoop10 {p : Program} {l : Launch} {e : Env} {R : Room} {s : State} {m : MethodId} {args : Array Value} {below : List Frame} {meth : Method} {c : Code} {cells slots : Nat} {Q : State → Prop} {pc : Nat} {α0 α1 α2 α3 α4 α5 α6 α7 α8 α9 ρ : Type} {body : ((α0 × α1 × α2 × α3 × α4 × α5 × α6 × α7 × α8 × α9) → Option ρ) → (α0 × α1 × α2 × α3 × α4 × α5 × α6 × α7 × α8 × α9) → Option ρ} {u : ρ} (I : α0 → α1 → α2 → α3 → α4 → α5 → α6 → α7 → α8 → α9 → Heap → List Loc → Array Slot → Prop)
    (step : ∀ (N : Nat) (a0 : α0) (a1 : α1) (a2 : α2) (a3 : α3) (a4 : α4) (a5 : α5) (a6 : α6) (a7 : α7) (a8 : α8) (a9 : α9), (∀ (b0 : α0) (b1 : α1) (b2 : α2) (b3 : α3) (b4 : α4) (b5 : α5) (b6 : α6) (b7 : α7) (b8 : α8) (b9 : α9) (H : Heap) (locs : List Loc) (ls : Array Slot), I b0 b1 b2 b3 b4 b5 b6 b7 b8 b9 H locs ls → lp body N (b0, b1, b2, b3, b4, b5, b6, b7, b8, b9) = some u → W p l e R s m args below meth c H locs cells slots Q (F0 m pc ls [])) → ∀ (H : Heap) (locs : List Loc) (ls : Array Slot), I a0 a1 a2 a3 a4 a5 a6 a7 a8 a9 H locs ls → body (lp body N) (a0, a1, a2, a3, a4, a5, a6, a7, a8, a9) = some u → W p l e R s m args below meth c H locs cells slots Q (F0 m pc ls [])) :
    ∀ (N : Nat) (a0 : α0) (a1 : α1) (a2 : α2) (a3 : α3) (a4 : α4) (a5 : α5) (a6 : α6) (a7 : α7) (a8 : α8) (a9 : α9) (H : Heap) (locs : List Loc) (ls : Array Slot), I a0 a1 a2 a3 a4 a5 a6 a7 a8 a9 H locs ls → lp body N (a0, a1, a2, a3, a4, a5, a6, a7, a8, a9) = some u → W p l e R s m args below meth c H locs cells slots Q (F0 m pc ls []) := by
  intro N
  induction N with
  | zero => intro a0 a1 a2 a3 a4 a5 a6 a7 a8 a9 H locs ls _ hF; cases hF
  | succ N ih => intro a0 a1 a2 a3 a4 a5 a6 a7 a8 a9 H locs ls hI hF; exact step N a0 a1 a2 a3 a4 a5 a6 a7 a8 a9 ih H locs ls hI hF
theorem xLoop11 {p : Program} {l : Launch} {e : Env} {R : Room} {s : State} {m : MethodId} {args : Array Value} {below : List Frame} {meth : Method} {c : Code} {cells slots : Nat} {Q : State → Prop} {pc : Nat} {α0 α1 α2 α3 α4 α5 α6 α7 α8 α9 α10 ρ : Type} {body : ((α0 × α1 × α2 × α3 × α4 × α5 × α6 × α7 × α8 × α9 × α10) → Option ρ) → (α0 × α1 × α2 × α3 × α4 × α5 × α6 × α7 × α8 × α9 × α10) → Option ρ} {u : ρ} (I : α0 → α1 → α2 → α3 → α4 → α5 → α6 → α7 → α8 → α9 → α10 → Heap → List Loc → Array Slot → Prop)
    (step : ∀ (N : Nat) (a0 : α0) (a1 : α1) (a2 : α2) (a3 : α3) (a4 : α4) (a5 : α5) (a6 : α6) (a7 : α7) (a8 : α8) (a9 : α9) (a10 : α10), (∀ (b0 : α0) (b1 : α1) (b2 : α2) (b3 : α3) (b4 : α4) (b5 : α5) (b6 : α6) (b7 : α7) (b8 : α8) (b9 : α9) (b10 : α10) (H : Heap) (locs : List Loc) (ls : Array Slot), I b0 b1 b2 b3 b4 b5 b6 b7 b8 b9 b10 H locs ls → lp body N (b0, b1, b2, b3, b4, b5, b6, b7, b8, b9, b10) = some u → W p l e R s m args below meth c H locs cells slots Q (F0 m pc ls [])) → ∀ (H : Heap) (locs : List Loc) (ls : Array Slot), I a0 a1 a2 a3 a4 a5 a6 a7 a8 a9 a10 H locs ls → body (lp body N) (a0, a1, a2, a3, a4, a5, a6, a7, a8, a9, a10) = some u → W p l e R s m args below meth c H locs cells slots Q (F0 m pc ls [])) :
    ∀ (N : Nat) (a0 : α0) (a1 : α1) (a2 : α2) (a3 : α3) (a4 : α4) (a5 : α5) (a6 : α6) (a7 : α7) (a8 : α8) (a9 : α9) (a10 : α10) (H : Heap) (locs : List Loc) (ls : Array Slot), I a0 a1 a2 a3 a4 a5 a6 a7 a8 a9 a10 H locs ls → lp body N (a0, a1, a2, a3, a4, a5, a6, a7, a8, a9, a10) = some u → W p l e R s m args below meth c H locs cells slots Q (F0 m pc ls []) := by
  intro N
  induction N with
  | zero => intro a0 a1 a2 a3 a4 a5 a6 a7 a8 a9 a10 H locs ls _ hF; cases hF
  | succ N ih => intro a0 a1 a2 a3 a4 a5 a6 a7 a8 a9 a10 H locs ls hI hF; exact step N a0 a1 a2 a3 a4 a5 a6 a7 a8 a9 a10 ih H locs ls hI hF
theorem xLoop12 {p : Program} {l : Launch} {e : Env} {R : Room} {s : State} {m : MethodId} {args : Array Value} {below : List Frame} {meth : Method} {c : Code} {cells slots : Nat} {Q : State → Prop} {pc : Nat} {α0 α1 α2 α3 α4 α5 α6 α7 α8 α9 α10 α11 ρ : Type} {body : ((α0 × α1 × α2 × α3 × α4 × α5 × α6 × α7 × α8 × α9 × α10 × α11) → Option ρ) → (α0 × α1 × α2 × α3 × α4 × α5 × α6 × α7 × α8 × α9 × α10 × α11) → Option ρ} {u : ρ} (I : α0 → α1 → α2 → α3 → α4 → α5 → α6 → α7 → α8 → α9 → α10 → α11 → Heap → List Loc → Array Slot → Prop)
    (step : ∀ (N : Nat) (a0 : α0) (a1 : α1) (a2 : α2) (a3 : α3) (a4 : α4) (a5 : α5) (a6 : α6) (a7 : α7) (a8 : α8) (a9 : α9) (a10 : α10) (a11 : α11), (∀ (b0 : α0) (b1 : α1) (b2 : α2) (b3 : α3) (b4 : α4) (b5 : α5) (b6 : α6) (b7 : α7) (b8 : α8) (b9 : α9) (b10 : α10) (b11 : α11) (H : Heap) (locs : List Loc) (ls : Array Slot), I b0 b1 b2 b3 b4 b5 b6 b7 b8 b9 b10 b11 H locs ls → lp body N (b0, b1, b2, b3, b4, b5, b6, b7, b8, b9, b10, b11) = some u → W p l e R s m args below meth c H locs cells slots Q (F0 m pc ls [])) → ∀ (H : Heap) (locs : List Loc) (ls : Array Slot), I a0 a1 a2 a3 a4 a5 a6 a7 a8 a9 a10 a11 H locs ls → body (lp body N) (a0, a1, a2, a3, a4, a5, a6, a7, a8, a9, a10, a11) = some u → W p l e R s m args below meth c H locs cells slots Q (F0 m pc ls [])) :
    ∀ (N : Nat) (a0 : α0) (a1 : α1) (a2 : α2) (a3 : α3) (a4 : α4) (a5 : α5) (a6 : α6) (a7 : α7) (a8 : α8) (a9 : α9) (a10 : α10) (a11 : α11) (H : Heap) (locs : List Loc) (ls : Array Slot), I a0 a1 a2 a3 a4 a5 a6 a7 a8 a9 a10 a11 H locs ls → lp body N (a0, a1, a2, a3, a4, a5, a6, a7, a8, a9, a10, a11) = some u → W p l e R s m args below meth c H locs cells slots Q (F0 m pc ls []) := by
  intro N
  induction N with
  | zero => intro a0 a1 a2 a3 a4 a5 a6 a7 a8 a9 a10 a11 H locs ls _ hF; cases hF
  | succ N ih => intro a0 a1 a2 a3 a4 a5 a6 a7 a8 a9 a10 a11 H locs ls hI hF; exact step N a0 a1 a2 a3 a4 a5 a6 a7 a8 a9 a10 a11 ih H locs ls hI hF
theorem xLoop13 {p : Program} {l : Launch} {e : Env} {R : Room} {s : State} {m : MethodId} {args : Array Value} {below : List Frame} {meth : Method} {c : Code} {cells slots : Nat} {Q : State → Prop} {pc : Nat} {α0 α1 α2 α3 α4 α5 α6 α7 α8 α9 α10 α11 α12 ρ : Type} {body : ((α0 × α1 × α2 × α3 × α4 × α5 × α6 × α7 × α8 × α9 × α10 × α11 × α12) → Option ρ) → (α0 × α1 × α2 × α3 × α4 × α5 × α6 × α7 × α8 × α9 × α10 × α11 × α12) → Option ρ} {u : ρ} (I : α0 → α1 → α2 → α3 → α4 → α5 → α6 → α7 → α8 → α9 → α10 → α11 → α12 → Heap → List Loc → Array Slot → Prop)
    (step : ∀ (N : Nat) (a0 : α0) (a1 : α1) (a2 : α2) (a3 : α3) (a4 : α4) (a5 : α5) (a6 : α6) (a7 : α7) (a8 : α8) (a9 : α9) (a10 : α10) (a11 : α11) (a12 : α12), (∀ (b0 : α0) (b1 : α1) (b2 : α2) (b3 : α3) (b4 : α4) (b5 : α5) (b6 : α6) (b7 : α7) (b8 : α8) (b9 : α9) (b10 : α10) (b11 : α11) (b12 : α12) (H : Heap) (locs : List Loc) (ls : Array Slot), I b0 b1 b2 b3 b4 b5 b6 b7 b8 b9 b10 b11 b12 H locs ls → lp body N (b0, b1, b2, b3, b4, b5, b6, b7, b8, b9, b10, b11, b12) = some u → W p l e R s m args below meth c H locs cells slots Q (F0 m pc ls [])) → ∀ (H : Heap) (locs : List Loc) (ls : Array Slot), I a0 a1 a2 a3 a4 a5 a6 a7 a8 a9 a10 a11 a12 H locs ls → body (lp body N) (a0, a1, a2, a3, a4, a5, a6, a7, a8, a9, a10, a11, a12) = some u → W p l e R s m args below meth c H locs cells slots Q (F0 m pc ls [])) :
    ∀ (N : Nat) (a0 : α0) (a1 : α1) (a2 : α2) (a3 : α3) (a4 : α4) (a5 : α5) (a6 : α6) (a7 : α7) (a8 : α8) (a9 : α9) (a10 : α10) (a11 : α11) (a12 : α12) (H : Heap) (locs : List Loc) (ls : Array Slot), I a0 a1 a2 a3 a4 a5 a6 a7 a8 a9 a10 a11 a12 H locs ls → lp body N (a0, a1, a2, a3, a4, a5, a6, a7, a8, a9, a10, a11, a12) = some u → W p l e R s m args below meth c H locs cells slots Q (F0 m pc ls []) := by
  intro N
  induction N with
  | zero => intro a0 a1 a2 a3 a4 a5 a6 a7 a8 a9 a10 a11 a12 H locs ls _ hF; cases hF
  | succ N ih => intro a0 a1 a2 a3 a4 a5 a6 a7 a8 a9 a10 a11 a12 H locs ls hI hF; exact step N a0 a1 a2 a3 a4 a5 a6 a7 a8 a9 a10 a11 a12 ih H locs ls hI hF
theorem xLoop14 {p : Program} {l : Launch} {e : Env} {R : Room} {s : State} {m : MethodId} {args : Array Value} {below : List Frame} {meth : Method} {c : Code} {cells slots : Nat} {Q : State → Prop} {pc : Nat} {α0 α1 α2 α3 α4 α5 α6 α7 α8 α9 α10 α11 α12 α13 ρ : Type} {body : ((α0 × α1 × α2 × α3 × α4 × α5 × α6 × α7 × α8 × α9 × α10 × α11 × α12 × α13) → Option ρ) → (α0 × α1 × α2 × α3 × α4 × α5 × α6 × α7 × α8 × α9 × α10 × α11 × α12 × α13) → Option ρ} {u : ρ} (I : α0 → α1 → α2 → α3 → α4 → α5 → α6 → α7 → α8 → α9 → α10 → α11 → α12 → α13 → Heap → List Loc → Array Slot → Prop)
    (step : ∀ (N : Nat) (a0 : α0) (a1 : α1) (a2 : α2) (a3 : α3) (a4 : α4) (a5 : α5) (a6 : α6) (a7 : α7) (a8 : α8) (a9 : α9) (a10 : α10) (a11 : α11) (a12 : α12) (a13 : α13), (∀ (b0 : α0) (b1 : α1) (b2 : α2) (b3 : α3) (b4 : α4) (b5 : α5) (b6 : α6) (b7 : α7) (b8 : α8) (b9 : α9) (b10 : α10) (b11 : α11) (b12 : α12) (b13 : α13) (H : Heap) (locs : List Loc) (ls : Array Slot), I b0 b1 b2 b3 b4 b5 b6 b7 b8 b9 b10 b11 b12 b13 H locs ls → lp body N (b0, b1, b2, b3, b4, b5, b6, b7, b8, b9, b10, b11, b12, b13) = some u → W p l e R s m args below meth c H locs cells slots Q (F0 m pc ls [])) → ∀ (H : Heap) (locs : List Loc) (ls : Array Slot), I a0 a1 a2 a3 a4 a5 a6 a7 a8 a9 a10 a11 a12 a13 H locs ls → body (lp body N) (a0, a1, a2, a3, a4, a5, a6, a7, a8, a9, a10, a11, a12, a13) = some u → W p l e R s m args below meth c H locs cells slots Q (F0 m pc ls [])) :
    ∀ (N : Nat) (a0 : α0) (a1 : α1) (a2 : α2) (a3 : α3) (a4 : α4) (a5 : α5) (a6 : α6) (a7 : α7) (a8 : α8) (a9 : α9) (a10 : α10) (a11 : α11) (a12 : α12) (a13 : α13) (H : Heap) (locs : List Loc) (ls : Array Slot), I a0 a1 a2 a3 a4 a5 a6 a7 a8 a9 a10 a11 a12 a13 H locs ls → lp body N (a0, a1, a2, a3, a4, a5, a6, a7, a8, a9, a10, a11, a12, a13) = some u → W p l e R s m args below meth c H locs cells slots Q (F0 m pc ls []) := by
  intro N
  induction N with
  | zero => intro a0 a1 a2 a3 a4 a5 a6 a7 a8 a9 a10 a11 a12 a13 H locs ls _ hF; cases hF
  | succ N ih => intro a0 a1 a2 a3 a4 a5 a6 a7 a8 a9 a10 a11 a12 a13 H locs ls hI hF; exact step N a0 a1 a2 a3 a4 a5 a6 a7 a8 a9 a10 a11 a12 a13 ih H locs ls hI hF
theorem xTab {p : Program} {l : Launch} {e : Env} {R : Room} {s : State} {m : MethodId} {args : Array Value} {below : List Frame} {meth : Method} {c : Code} {H : Heap} {locs : List Loc} {cells slots : Nat} {Q : State → Prop} {cc : ByteArray} {pc : Nat} {ls : Array Slot} {rest : List Value} (hexec : p.tables.exec = Jvm.exec) (hb : c.code = cc) {dflt lo hi : Int} {offs : Array Int} {len : Nat} {x : Int32} {tgt : Nat} (hdg : decode cc pc = .ok (.tableswitch dflt lo hi offs, len)) (h : x.toInt < lo ∨ hi < x.toInt ∨ offs[(x.toInt - lo).toNat]? = some dflt) (ht : (pc : Int) + dflt = (tgt : Int))
    (k : W p l e R s m args below meth c H locs cells slots Q (F0 m tgt ls rest)) : W p l e R s m args below meth c H locs cells slots Q (F0 m pc ls (.int x :: rest)) := by
  by_cases h1 : x.toInt < lo
  · exact lv_tableOut hexec hb hdg (Or.inl h1) ht k
  · by_cases h2 : hi < x.toInt
    · exact lv_tableOut hexec hb hdg (Or.inr h2) ht k
    · have h3 : offs[(x.toInt - lo).toNat]? = some dflt := (h.resolve_left h1).resolve_left h2
      exact lv_tableIn hexec hb hdg h1 h2 h3 ht k
theorem xNarC (x : Int32) : narrow .char (.int (x.toUInt32 % 65536).toInt32) = .int (x.toUInt32 % 65536).toInt32 := by
  have h : narrow .char (.int (x.toUInt32 % 65536).toInt32) = Value.int ((x.toUInt32 % 65536).toInt32.toUInt32 % 65536).toInt32 := rfl
  rw [h]
  congr 2
  have h2 : (x.toUInt32 % 65536).toInt32.toUInt32 = x.toUInt32 % 65536 := rfl
  rw [h2]
  apply UInt32.toNat_inj.mp
  simp [UInt32.toNat_mod]
section XS
variable {p : Program} {l : Launch} {e : Env} {R : Room} {s : State} {m : MethodId} {args : Array Value} {below : List Frame} {meth : Method} {c : Code} {H : Heap} {locs : List Loc} {cells slots : Nat} {Q : State → Prop}
variable {Ts wsC wsC' : List Cond} {cc bytes : ByteArray} {nL maxL index n pc : Nat} {own C host : String} {y : MethodName} {ret : Option FieldType} {rm : Room} {G : xG} {A : Nat → Prop} {b : Addr} {As rest : List Value} {ls : Array Slot} {X X1 ws : va_W} {ty : FieldType}
theorem xRunVs {Qc : Array Value → State → Outcome → State → Prop} {st0 : List Value} (Z : xAnd p m c cc nL s args Ts own G A) (hM : Met l y (.code y bytes maxL ret :: TBL) rm (va_Pc (.ref b :: As) (PB G X H.size)) Qc 0 0 (va_A X H.size)) (h1 : Cond.methodLink own index y ∈ TBL) (h2 : Cond.instanceMethod y ∈ TBL) (h3 : Cond.selects C y y ∈ TBL) (h4 : Cond.initialized C ∈ TBL) (h5 : Cond.code y bytes maxL ret ∈ TBL)
    (n : Nat) (hd : y.cls = C ∧ y.cls ≠ "java/lang/invoke/MethodHandle" ∧ y.cls ≠ "java/lang/invoke/VarHandle" ∧ (parseMethodDescriptor y.desc).map (fun d => d.parameters.length) = some n) (hR : rm.frames + 1 ≤ R.frames ∧ 8 + (maxL + 11) + rm.locals ≤ R.locals) (hz : rm.cells = 0 ∧ rm.slots = 0) (hP : va_P G.1 vwCl ws H) (hD : va_D A ws) (hS : va_S A s.heap H locs)
    (hrecv : ∃ cell : Cell, H[b]? = some cell ∧ cell.vm.isStatics = false ∧ s.vm.findClass C = some cell.cls) (isC : List Nat) (hC : isC.map (fun i => ws[i]?) = X.map some) (hn : va_nd isC = true) (hlen : As.length = n) (hsize : ls.size = nL) (hstack : st0 = As.reverse ++ .ref b :: rest) (hW : (rest.map fun v => v.category).sum ≤ 8) (hdg : decode cc pc = .ok (.invokevirtual index, 3)) (hf : cells ≤ R.cells ∧ slots ≤ R.slots) :
    va_Run p l e R s m args below meth c H locs cells slots 0 0 (F0 m pc ls st0) rest (Qc (Value.ref b :: As).toArray) (va_A X H.size) := by
  obtain ⟨S, hs, hA, hm⟩ := Z
  have hts := S.2.2.2.2
  refine va_runV S hM (cwV n hts (gTs hs (l0 := [.methodLink own index y, .instanceMethod y, .selects C y y, .initialized C]) (fun w hw => ?_) h5) rfl hz.1 hz.2 hd hR) ⟨PB.blind, hrecv, xPre hP hD hS hA hm isC hC hn⟩ rfl hlen hsize hstack (lv_room hW) hdg hf
  simp only [List.mem_cons, List.not_mem_nil, or_false] at hw
  rcases hw with rfl | rfl | rfl | rfl
  · exact h1
  · exact h2
  · exact h3
  · exact h4
end XS
theorem gdB {c : Prop} [Decidable c] {α : Type} {a : Option α} {y : α} (h : (if c then a else none) = some y) : c ∧ a = some y := by
  by_cases hc : c
  · rw [if_pos hc] at h; exact ⟨hc, h⟩
  · rw [if_neg hc] at h; cases h
theorem xNarB {x : Int32} (h : x &&& 1 = x) : narrow .boolean (.int x) = .int x := congrArg Value.int h
theorem xInc_1 (x : Int32) : x + Int32.ofInt 1 = x + (1 : Int32) := by rw [show Int32.ofInt 1 = (1 : Int32) from by decide]
theorem xInc_m1 (x : Int32) : x + Int32.ofInt (-1) = x + (-1 : Int32) := by rw [show Int32.ofInt (-1) = (-1 : Int32) from by decide]
theorem xInc_6 (x : Int32) : x + Int32.ofInt 6 = x + (6 : Int32) := by rw [show Int32.ofInt 6 = (6 : Int32) from by decide]
