/-! a contract over a part of a world is one over the whole -/
theorem Met_mono {l : Launch} {y : MethodName} {ws : List Cond} {rm : Room} {P1 P2 : Array Value → State → Prop} {Q1 Q2 : Array Value → State → Outcome → State → Prop} {mc ms : Nat} {f1 f2 : Addr → Prop} (hM : Met l y ws rm P1 Q1 mc ms f1) (hP : ∀ a s, P2 a s → P1 a s) (hQ : ∀ a s o t, P2 a s → Q1 a s o t → Q2 a s o t) (hf : ∀ q, f1 q → f2 q) : Met l y ws rm P2 Q2 mc ms f2 := by
  intro p e ha hc hk s m args below hfr happ hp hK
  obtain ⟨n, o, h1, h2, h3, h4, L, h5, h6⟩ := hM p e ha hc hk s m args below hfr happ (hP _ _ hp) hK
  exact ⟨n, o, h1, h2, h3, hQ _ _ _ _ hp h4, L, h5, fun q hq => hf _ (h6 q hq)⟩
theorem xPartA {X ws : va_W} {isC : List Nat} (hC : isC.map (fun i => ws[i]?) = X.map some) (sz : Nat) : ∀ q, va_A X sz q → va_A ws sz q := by
  intro q h
  rcases h with ⟨k, e, h⟩ | h
  · obtain ⟨i, -, h2⟩ := xAt hC k (q, e) h
    exact Or.inl ⟨i, e, h2⟩
  · exact Or.inr h
theorem xPartP {G : xG} {av : List Value} {X ws : va_W} {isC : List Nat} {sz : Nat} (hC : isC.map (fun i => ws[i]?) = X.map some) (hn : va_nd isC = true) : ∀ a s, va_Pc av (PB G ws sz) a s → va_Pc av (PB G X sz) a s := by
  intro a s h
  obtain ⟨h1, h2, h3, h4, h5⟩ := h
  refine ⟨h1, h2, fun k q hq => ?_, h4.sub isC hn hC, ⟨h5.1, h5.2.1, h5.2.2.1, h5.2.2.2.narrow (xPartA hC sz)⟩⟩
  obtain ⟨i, -, hi⟩ := xAt hC k q hq
  exact h3 i q hi
theorem xPartF {A B : Nat → Prop} {s t : State} (hAB : ∀ q, A q → B q) (h : va_F A s t) : va_F B s t := ⟨h.1, fun q h1 h2 => h.2 q h1 (fun z => h2 (hAB q z))⟩
theorem xPartJ {G : xG} {av : List Value} {X X1 ws : va_W} {isC : List Nat} {sz : Nat} (hC : isC.map (fun i => ws[i]?) = X.map some) (hn : va_nd isC = true) (he : X1.map Prod.fst = X.map Prod.fst) {a : Array Value} {s t : State} (hp : va_Pc av (PB G ws sz) a s) (hF : va_F (va_A X sz) s t) (hB : va_P G.1 vwCl X1 t.heap) : va_P G.1 vwCl (xPut ws isC X1) t.heap := by
  obtain ⟨-, h2, h3, h4, -⟩ := hp
  subst h2
  exact (xJoin h3 h4 isC hC hn he hF.2 hB).1
theorem Ki.frame {G : xG} {ty : FieldType} {y : MethodName} {wsC : List Cond} {rm : Room} {av : List Value} {X X1 : va_W} {r : Int32} (h : Ki G ty y wsC rm av X X1 r) {ws ws1 : va_W} (isC : List Nat) (hC : isC.map (fun i => ws[i]?) = X.map some) (hn : va_nd isC = true) (he : X1.map Prod.fst = X.map Prod.fst) (h1 : xPut ws isC X1 = ws1) : Ki G ty y wsC rm av ws ws1 r := by
  subst h1
  intro l sz
  refine Met_mono (h l sz) (xPartP hC hn) (fun a s o t hp hq => ?_) (xPartA hC sz)
  obtain ⟨⟨r1, u, h2, h3, h4⟩, h5⟩ := hq
  exact ⟨⟨r1, u, h2, h3, xPartJ hC hn he hp h5 h4⟩, xPartF (xPartA hC sz) h5⟩
theorem Kl.frame {G : xG} {y : MethodName} {wsC : List Cond} {rm : Room} {av : List Value} {X X1 : va_W} {r : Int64} (h : Kl G y wsC rm av X X1 r) {ws ws1 : va_W} (isC : List Nat) (hC : isC.map (fun i => ws[i]?) = X.map some) (hn : va_nd isC = true) (he : X1.map Prod.fst = X.map Prod.fst) (h1 : xPut ws isC X1 = ws1) : Kl G y wsC rm av ws ws1 r := by
  subst h1
  intro l sz
  refine Met_mono (h l sz) (xPartP hC hn) (fun a s o t hp hq => ?_) (xPartA hC sz)
  obtain ⟨⟨r1, u, h2, h3, h4⟩, h5⟩ := hq
  exact ⟨⟨r1, u, h2, h3, xPartJ hC hn he hp h5 h4⟩, xPartF (xPartA hC sz) h5⟩
theorem xFst {A : Nat → Prop} {X X1 : va_W} (h : va_D A X) (he : X1.map Prod.fst = X.map Prod.fst) : va_D A X1 := by
  have key : ∀ (k : Nat) (q : Nat × va_E), X1[k]? = some q → ∃ q0, X[k]? = some q0 ∧ q0.1 = q.1 := by
    intro k q hq
    have h1 : (X1.map Prod.fst)[k]? = (X.map Prod.fst)[k]? := by rw [he]
    rw [List.getElem?_map, List.getElem?_map, hq] at h1
    cases h2 : X[k]? with
    | none => rw [h2] at h1; cases h1
    | some q0 => rw [h2] at h1; exact ⟨q0, rfl, (Option.some.inj h1).symm⟩
  refine ⟨fun i j p q hi hj hpq => ?_, fun k q hq => ?_⟩
  · obtain ⟨p0, h1, h2⟩ := key i p hi
    obtain ⟨q0, h3, h4⟩ := key j q hj
    exact h.1 i j p0 q0 h1 h3 (h2.trans (hpq.trans h4.symm))
  · obtain ⟨q0, h1, h2⟩ := key k q hq
    rw [← h2]; exact h.2 k q0 h1
theorem xIdC (ws : va_W) : (List.range ws.length).map (fun i => ws[i]?) = ws.map some := by
  apply List.ext_getElem?
  intro k
  rw [List.getElem?_map, List.getElem?_map]
  by_cases h : k < ws.length
  · rw [List.getElem?_range h, List.getElem?_eq_getElem h]
    simp [h]
  · rw [List.getElem?_eq_none (by simpa using h), List.getElem?_eq_none (by simpa using h)]
    rfl
theorem xNdR : ∀ (n k : Nat), va_nd (List.range' k n) = true
  | 0, k => rfl
  | n + 1, k => by
    rw [List.range'_succ, va_nd, Bool.and_eq_true, decide_eq_true_eq]
    refine ⟨fun h => ?_, xNdR n (k + 1)⟩
    have := (List.mem_range'_1.mp h).1
    omega
theorem xNd (n : Nat) : va_nd (List.range n) = true := by rw [List.range_eq_range']; exact xNdR n 0
section XW
variable {p : Program} {l : Launch} {e : Env} {R : Room} {s : State} {m : MethodId} {args : Array Value} {below : List Frame} {meth : Method} {c : Code} {H : Heap} {locs : List Loc} {cells slots : Nat} {Q : State → Prop}
variable {Ts : List Cond} {cc bytes : ByteArray} {nL maxL index n pc : Nat} {own C : String} {y : MethodName} {ret : Option FieldType} {rm : Room} {G : xG} {A : Nat → Prop} {b : Addr} {As rest : List Value} {ls : Array Slot} {ws ws1 : va_W} {ty : FieldType}
/-- a call over the whole world -/
theorem xAllI {r : Int32} {fs : List Value} {qq : vw_C} {st0 : List Value} (Z : xAnd p m c cc nL s args Ts own G A) (hM : Ki G ty y (.code y bytes maxL ret :: TBL) rm (.ref b :: As) ws ws1 r) (he : ws1.map Prod.fst = ws.map Prod.fst) (h1 : Cond.methodLink own index y ∈ TBL) (h2 : Cond.instanceMethod y ∈ TBL) (h3 : Cond.selects C y y ∈ TBL) (h4 : Cond.initialized C ∈ TBL) (h5 : Cond.code y bytes maxL ret ∈ TBL)
    (n : Nat) (hd : y.cls = C ∧ y.cls ≠ "java/lang/invoke/MethodHandle" ∧ y.cls ≠ "java/lang/invoke/VarHandle" ∧ (parseMethodDescriptor y.desc).map (fun d => d.parameters.length) = some n) (hR : rm.frames + 1 ≤ R.frames ∧ 8 + (maxL + 11) + rm.locals ≤ R.locals) (hz : rm.cells = 0 ∧ rm.slots = 0) (hP : va_P G.1 vwCl ws H) (hD : va_D A ws) (hS : va_S A s.heap H locs)
    (q0 ci : Nat) (hc : vwCl[ci]? = some qq) (hqq : qq.1 = C) (hq : ws[q0]? = some (b, .inr (ci, fs))) (hlen : As.length = n) (hsize : ls.size = nL) (hstack : st0 = As.reverse ++ .ref b :: rest) (hW : (rest.map fun v => v.category).sum ≤ 8) (hdg : decode cc pc = .ok (.invokevirtual index, 3)) (hf : cells ≤ R.cells ∧ slots ≤ R.slots)
    (kk : ∀ (H1 : Heap) (locs1 : List Loc), va_P G.1 vwCl ws1 H1 → va_D A ws1 → va_S A s.heap H1 locs1 → W p l e R s m args below meth c H1 locs1 cells slots Q (F0 m (pc + 3) ls (.int r :: rest))) : W p l e R s m args below meth c H locs cells slots Q (F0 m pc ls st0) := by
  have hF := va_free hD hS Z.2.2.1 (List.range ws.length) (xIdC ws)
  refine va_calli (xRunV Z (hM l H.size) h1 h2 h3 h4 h5 n hd hR hz hP hD hS q0 ci hc hqq hq (List.range ws.length) (xIdC ws) (xNd _) hlen hsize hstack hW hdg hf) hS (fun q _ h => hF q h) hF (fun r1 u t H1 locs1 ht hvm hw hB hz hk hS1 => ?_)
  obtain ⟨rfl, hw⟩ := hw
  rw [ht] at hB
  exact kk H1 locs1 hB (xFst hD he) hS1
theorem xAllL {r : Int64} {fs : List Value} {qq : vw_C} {st0 : List Value} (Z : xAnd p m c cc nL s args Ts own G A) (hM : Kl G y (.code y bytes maxL ret :: TBL) rm (.ref b :: As) ws ws1 r) (he : ws1.map Prod.fst = ws.map Prod.fst) (h1 : Cond.methodLink own index y ∈ TBL) (h2 : Cond.instanceMethod y ∈ TBL) (h3 : Cond.selects C y y ∈ TBL) (h4 : Cond.initialized C ∈ TBL) (h5 : Cond.code y bytes maxL ret ∈ TBL)
    (n : Nat) (hd : y.cls = C ∧ y.cls ≠ "java/lang/invoke/MethodHandle" ∧ y.cls ≠ "java/lang/invoke/VarHandle" ∧ (parseMethodDescriptor y.desc).map (fun d => d.parameters.length) = some n) (hR : rm.frames + 1 ≤ R.frames ∧ 8 + (maxL + 11) + rm.locals ≤ R.locals) (hz : rm.cells = 0 ∧ rm.slots = 0) (hP : va_P G.1 vwCl ws H) (hD : va_D A ws) (hS : va_S A s.heap H locs)
    (q0 ci : Nat) (hc : vwCl[ci]? = some qq) (hqq : qq.1 = C) (hq : ws[q0]? = some (b, .inr (ci, fs))) (hlen : As.length = n) (hsize : ls.size = nL) (hstack : st0 = As.reverse ++ .ref b :: rest) (hW : (rest.map fun v => v.category).sum ≤ 8) (hdg : decode cc pc = .ok (.invokevirtual index, 3)) (hf : cells ≤ R.cells ∧ slots ≤ R.slots)
    (kk : ∀ (H1 : Heap) (locs1 : List Loc), va_P G.1 vwCl ws1 H1 → va_D A ws1 → va_S A s.heap H1 locs1 → W p l e R s m args below meth c H1 locs1 cells slots Q (F0 m (pc + 3) ls (.long r :: rest))) : W p l e R s m args below meth c H locs cells slots Q (F0 m pc ls st0) := by
  have hF := va_free hD hS Z.2.2.1 (List.range ws.length) (xIdC ws)
  refine va_calll (xRunV Z (hM l H.size) h1 h2 h3 h4 h5 n hd hR hz hP hD hS q0 ci hc hqq hq (List.range ws.length) (xIdC ws) (xNd _) hlen hsize hstack hW hdg hf) hS (fun q _ h => hF q h) hF (fun r1 u t H1 locs1 ht hvm hw hB hz hk hS1 => ?_)
  subst hw
  rw [ht] at hB
  exact kk H1 locs1 hB (xFst hD he) hS1
end XW
