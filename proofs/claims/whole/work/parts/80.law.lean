def R_law : String := "ParrotVowLaw"
def lw_P (b : Addr) (xs : List Int32) (args : Array Value) (s : State) : Prop := args = #[.ref b] ∧ s.IntsAt b xs ∧ xs.length ≤ 3072 ∧ (Jvm.Cond.and given_1 narrow_1).before args s = true
def lw_Q (_ : Array Value) (s : State) (o : Outcome) (t : State) : Prop := o = .returned (some (.int 1)) ∧ Framed s o t [] 600000 7302250
def lw_Z (below : List Frame) (a : Array Value) (s : State) : State → Prop := fun t => ∃ o, t.status = .running ∧ Ended t below o ∧ lw_Q a s o t
/-- the law's own end, with 1 on the stack, nothing written that was there before, its room as the claim has it -/
theorem lw_ret {p : Program} {l : Launch} {e : Env} {s : State} {m : MethodId} {below : List Frame} {meth : Method} {c : Code} {b : Nat} (hx : p.tables.exec = Jvm.exec) (hb : c.code = code) (hr : meth.sig.returnType = ret) (hlocks : meth.locks = false) {pc : Nat} {H : Heap} {ls : Array Slot} (hdg : decode code pc = .ok (.ireturn, 1)) : W p l e room_1 s m #[Value.ref b] below meth c H [] 600000 7302250 (lw_Z below #[Value.ref b] s) (F0 m pc ls [.int 1]) := by
  intro T hT X
  obtain ⟨fs, hret, hrun, hended, hW, hframe⟩ := X.leave (v := some (.int 1)) (hlocks := hlocks) (fun h => by rw [hr] at h; cases h)
  have hmeth' : T.vm.method? m = some meth := X.method'
  refine ⟨T.setFrames fs, ?_, .returned (some (.int 1)), hrun, hended, rfl, ⟨_, rfl⟩, hW, hframe⟩
  jvm_step X.here [X.here.top, hx, hb, hdg, hmeth', hr, ret, narrow_b1]
  (try refine ⟨rfl, ?_⟩); (try refine ⟨rfl, ?_⟩)
  first | (intro acts; rw [hret _ acts rfl rfl rfl]) | rw [hret _ _ rfl rfl rfl]
  exact Steps.refl _
/-- what holds at the law's entry: the machine, the code, the tables' words (any of lw_tbl by 'hts w (by decide +kernel)'), the script of L ints xs at the cell b, what the Statement gives of the start (any of its parts by flat_of_before) -/
def lw_At (p : Program) (s : State) (m : MethodId) (meth : Method) (c : Code) (b L : Nat) (xs : Nat → Int32) : Prop :=
  p.tables.exec = Jvm.exec ∧ c.code = code ∧ meth.sig.returnType = ret ∧ c.maxLocals = 4 ∧ s.vm.findClass R_law = some m.cls ∧ (∀ w ∈ lw_tbl, w.before #[Value.ref b] s = true) ∧ va_X b L xs s s.heap ∧ b < s.heap.size ∧ meth.locks = false ∧ (Jvm.Cond.and given_1 narrow_1).before #[Value.ref b] s = true
theorem xIn0 {j L : Nat} {x3 : Int32} (h : x3 = nI j) (hj : j + 6 ≤ L) (hL : L ≤ 3072) : vp_in (x3 + (0 : Int32)) L := by
  rw [h, show (0 : Int32) = nI 0 from rfl, nI_add]
  exact vp_in_nI (by omega) (by omega)
theorem xIn1 {j L : Nat} {x3 : Int32} (h : x3 = nI j) (hj : j + 6 ≤ L) (hL : L ≤ 3072) : vp_in (x3 + (1 : Int32)) L := by
  rw [h, show (1 : Int32) = nI 1 from rfl, nI_add]
  exact vp_in_nI (by omega) (by omega)
theorem xIn2 {j L : Nat} {x3 : Int32} (h : x3 = nI j) (hj : j + 6 ≤ L) (hL : L ≤ 3072) : vp_in (x3 + (2 : Int32)) L := by
  rw [h, show (2 : Int32) = nI 2 from rfl, nI_add]
  exact vp_in_nI (by omega) (by omega)
theorem xIn3 {j L : Nat} {x3 : Int32} (h : x3 = nI j) (hj : j + 6 ≤ L) (hL : L ≤ 3072) : vp_in (x3 + (3 : Int32)) L := by
  rw [h, show (3 : Int32) = nI 3 from rfl, nI_add]
  exact vp_in_nI (by omega) (by omega)
theorem xIn4 {j L : Nat} {x3 : Int32} (h : x3 = nI j) (hj : j + 6 ≤ L) (hL : L ≤ 3072) : vp_in (x3 + (4 : Int32)) L := by
  rw [h, show (4 : Int32) = nI 4 from rfl, nI_add]
  exact vp_in_nI (by omega) (by omega)
theorem xIn5 {j L : Nat} {x3 : Int32} (h : x3 = nI j) (hj : j + 6 ≤ L) (hL : L ≤ 3072) : vp_in (x3 + (5 : Int32)) L := by
  rw [h, show (5 : Int32) = nI 5 from rfl, nI_add]
  exact vp_in_nI (by omega) (by omega)
theorem xCmp (r : Int64) : lg_cmp r r = 0 := by simp [lg_cmp]
set_option maxHeartbeats 4000000 in
set_option maxRecDepth 100000 in
theorem law_case0 {p : Program} {l : Launch} {e : Env} {s : State} {m : MethodId} {below : List Frame} {meth : Method} {c : Code} {b L : Nat} {xs : Nat → Int32} (hL : L ≤ 3072) (C0 : lw_At p s m meth c b L xs) {G : xG} {tx : Nat} {wx : Nat → Nat} {tm : Nat} {wm : Nat → Nat} (hm : Amb G (fun q : Nat => s.heap.size ≤ q) s s.heap) {j c1 : Nat} {x3 : Int32} (hx3 : x3 = nI j) (hj : j + 6 ≤ L) (hc1 : c1 < 512) {H : Heap} {locs : List Loc} {ls : Array Slot} {ws : va_W} (hI : LInv G tx wx tm wm c1 ws) (hP : va_P G.1 vwCl ws H) (hD : va_D (fun q : Nat => s.heap.size ≤ q) ws) (hS : va_S (fun q : Nat => s.heap.size ≤ q) s.heap H locs) (hl : lv_has ls 4 [(0, .ref b), (1, .ref tx), (2, .ref tm), (3, .int x3)]) (kk : ∀ (ws1 : va_W) (H1 : Heap) (locs1 : List Loc), LInv G tx wx tm wm (c1 + 1) ws1 → va_P G.1 vwCl ws1 H1 → va_D (fun q : Nat => s.heap.size ≤ q) ws1 → va_S (fun q : Nat => s.heap.size ≤ q) s.heap H1 locs1 → W p l e room_1 s m #[Value.ref b] below meth c H1 locs1 78 5109 (lw_Z below #[Value.ref b] s) (F0 m 1278 ls [])) : W p l e room_1 s m #[Value.ref b] below meth c H locs 78 5109 (lw_Z below #[Value.ref b] s) (F0 m 196 ls []) := by
  obtain ⟨hx, hb, hr, hml, hown, hts, hX, hbl, hlocks, hgv⟩ := id C0
  have hbA : ¬ (fun q : Nat => s.heap.size ≤ q) b := Nat.not_le.mpr hbl
  have hZ : xAnd p m c code 4 s _ lw_tbl R_law G (fun q : Nat => s.heap.size ≤ q) := ⟨⟨hx, hb, hml, hown, hts⟩, TBL_in, fun _ h => h, hm⟩
  obtain ⟨r, ws1, ws2, ⟨rm1, hf1, hl1, hz1, hk1⟩, hw1, ⟨rm2, hf2, hl2, hz2, hk2⟩, hI2⟩ := st_brother G tx wx tm wm (xs (x3 + (1 : Int32)).toNatClampNeg) c1 ws hc1 hI
  obtain ⟨fx, hxx⟩ := hI.isW.x
  obtain ⟨fm, hmm⟩ := hw1.m
  refine lv_aload_n hx hb dL_law_196 rfl (lv_at hl 1 rfl) ?_
  refine lv_aload_n hx hb dL_law_197 rfl (lv_at hl 0 rfl) ?_
  refine lv_iload_n hx hb dL_law_198 rfl (lv_at hl 3 rfl) ?_
  refine lv_iconst (v := 1) hx hb dL_law_199 (by decide) ?_
  refine lv_iadd hx hb dL_law_200 ?_
  refine va_sld hx hb hX hbl hbA hS (xIn1 hx3 hj hL) dL_law_201 ?_
  refine xAllI (As := [.int (xs (x3 + (1 : Int32)).toNatClampNeg)]) (rest := []) hZ hk1 (hw1.fst.trans hI.isW.fst.symm) m154 m155 m156 m2 m157 1 ⟨rfl, hdX7_brother⟩ ⟨Nat.le_trans (Nat.add_le_add_right hf1 1) (Nat.le_of_ble_eq_true rfl), Nat.le_trans (Nat.add_le_add_left hl1 _) (Nat.le_of_ble_eq_true rfl)⟩ hz1 hP hD hS 0 7 rfl rfl hxx rfl hl.1 rfl (Nat.le_of_ble_eq_true rfl) dL_law_202 ⟨Nat.le_of_ble_eq_true rfl, Nat.le_of_ble_eq_true rfl⟩ (fun H locs hP hD hS => ?_)
  refine lv_aload_n hx hb dL_law_205 rfl (lv_at hl 2 rfl) ?_
  refine lv_aload_n hx hb dL_law_206 rfl (lv_at hl 0 rfl) ?_
  refine lv_iload_n hx hb dL_law_207 rfl (lv_at hl 3 rfl) ?_
  refine lv_iconst (v := 1) hx hb dL_law_208 (by decide) ?_
  refine lv_iadd hx hb dL_law_209 ?_
  refine va_sld hx hb hX hbl hbA hS (xIn1 hx3 hj hL) dL_law_210 ?_
  refine xAllI (As := [.int (xs (x3 + (1 : Int32)).toNatClampNeg)]) (rest := [.int r]) hZ hk2 (hI2.isW.fst.trans hw1.fst.symm) m181 m182 m183 m5 m184 1 ⟨rfl, hdX8_brother⟩ ⟨Nat.le_trans (Nat.add_le_add_right hf2 1) (Nat.le_of_ble_eq_true rfl), Nat.le_trans (Nat.add_le_add_left hl2 _) (Nat.le_of_ble_eq_true rfl)⟩ hz2 hP hD hS 63 8 rfl rfl hmm rfl hl.1 rfl (Nat.le_of_ble_eq_true rfl) dL_law_211 ⟨Nat.le_of_ble_eq_true rfl, Nat.le_of_ble_eq_true rfl⟩ (fun H locs hP hD hS => ?_)
  refine lv_icmp_eq (tgt := 1278) hx hb dL_law_214 (by decide) (fun _ => ?_) (fun h => absurd rfl h)
  exact kk ws2 H locs hI2 hP hD hS
set_option maxHeartbeats 4000000 in
set_option maxRecDepth 100000 in
theorem law_case1 {p : Program} {l : Launch} {e : Env} {s : State} {m : MethodId} {below : List Frame} {meth : Method} {c : Code} {b L : Nat} {xs : Nat → Int32} (hL : L ≤ 3072) (C0 : lw_At p s m meth c b L xs) {G : xG} {tx : Nat} {wx : Nat → Nat} {tm : Nat} {wm : Nat → Nat} (hm : Amb G (fun q : Nat => s.heap.size ≤ q) s s.heap) {j c1 : Nat} {x3 : Int32} (hx3 : x3 = nI j) (hj : j + 6 ≤ L) (hc1 : c1 < 512) {H : Heap} {locs : List Loc} {ls : Array Slot} {ws : va_W} (hI : LInv G tx wx tm wm c1 ws) (hP : va_P G.1 vwCl ws H) (hD : va_D (fun q : Nat => s.heap.size ≤ q) ws) (hS : va_S (fun q : Nat => s.heap.size ≤ q) s.heap H locs) (hl : lv_has ls 4 [(0, .ref b), (1, .ref tx), (2, .ref tm), (3, .int x3)]) (kk : ∀ (ws1 : va_W) (H1 : Heap) (locs1 : List Loc), LInv G tx wx tm wm (c1 + 1) ws1 → va_P G.1 vwCl ws1 H1 → va_D (fun q : Nat => s.heap.size ≤ q) ws1 → va_S (fun q : Nat => s.heap.size ≤ q) s.heap H1 locs1 → W p l e room_1 s m #[Value.ref b] below meth c H1 locs1 78 5109 (lw_Z below #[Value.ref b] s) (F0 m 1278 ls [])) : W p l e room_1 s m #[Value.ref b] below meth c H locs 78 5109 (lw_Z below #[Value.ref b] s) (F0 m 219 ls []) := by
  obtain ⟨hx, hb, hr, hml, hown, hts, hX, hbl, hlocks, hgv⟩ := id C0
  have hbA : ¬ (fun q : Nat => s.heap.size ≤ q) b := Nat.not_le.mpr hbl
  have hZ : xAnd p m c code 4 s _ lw_tbl R_law G (fun q : Nat => s.heap.size ≤ q) := ⟨⟨hx, hb, hml, hown, hts⟩, TBL_in, fun _ h => h, hm⟩
  obtain ⟨r, ws1, ws2, ⟨rm1, hf1, hl1, hz1, hk1⟩, hw1, ⟨rm2, hf2, hl2, hz2, hk2⟩, hI2⟩ := st_brotherIs G tx wx tm wm (xs (x3 + (1 : Int32)).toNatClampNeg) (xs (x3 + (2 : Int32)).toNatClampNeg) c1 ws hc1 hI
  obtain ⟨fx, hxx⟩ := hI.isW.x
  obtain ⟨fm, hmm⟩ := hw1.m
  refine lv_aload_n hx hb dL_law_219 rfl (lv_at hl 1 rfl) ?_
  refine lv_aload_n hx hb dL_law_220 rfl (lv_at hl 0 rfl) ?_
  refine lv_iload_n hx hb dL_law_221 rfl (lv_at hl 3 rfl) ?_
  refine lv_iconst (v := 1) hx hb dL_law_222 (by decide) ?_
  refine lv_iadd hx hb dL_law_223 ?_
  refine va_sld hx hb hX hbl hbA hS (xIn1 hx3 hj hL) dL_law_224 ?_
  refine lv_aload_n hx hb dL_law_225 rfl (lv_at hl 0 rfl) ?_
  refine lv_iload_n hx hb dL_law_226 rfl (lv_at hl 3 rfl) ?_
  refine lv_iconst (v := 2) hx hb dL_law_227 (by decide) ?_
  refine lv_iadd hx hb dL_law_228 ?_
  refine va_sld hx hb hX hbl hbA hS (xIn2 hx3 hj hL) dL_law_229 ?_
  refine xAllI (As := [.int (xs (x3 + (1 : Int32)).toNatClampNeg), .int (xs (x3 + (2 : Int32)).toNatClampNeg)]) (rest := []) hZ hk1 (hw1.fst.trans hI.isW.fst.symm) m198 m199 m200 m2 m201 2 ⟨rfl, hdX7_brotherIs⟩ ⟨Nat.le_trans (Nat.add_le_add_right hf1 1) (Nat.le_of_ble_eq_true rfl), Nat.le_trans (Nat.add_le_add_left hl1 _) (Nat.le_of_ble_eq_true rfl)⟩ hz1 hP hD hS 0 7 rfl rfl hxx rfl hl.1 rfl (Nat.le_of_ble_eq_true rfl) dL_law_230 ⟨Nat.le_of_ble_eq_true rfl, Nat.le_of_ble_eq_true rfl⟩ (fun H locs hP hD hS => ?_)
  refine lv_aload_n hx hb dL_law_233 rfl (lv_at hl 2 rfl) ?_
  refine lv_aload_n hx hb dL_law_234 rfl (lv_at hl 0 rfl) ?_
  refine lv_iload_n hx hb dL_law_235 rfl (lv_at hl 3 rfl) ?_
  refine lv_iconst (v := 1) hx hb dL_law_236 (by decide) ?_
  refine lv_iadd hx hb dL_law_237 ?_
  refine va_sld hx hb hX hbl hbA hS (xIn1 hx3 hj hL) dL_law_238 ?_
  refine lv_aload_n hx hb dL_law_239 rfl (lv_at hl 0 rfl) ?_
  refine lv_iload_n hx hb dL_law_240 rfl (lv_at hl 3 rfl) ?_
  refine lv_iconst (v := 2) hx hb dL_law_241 (by decide) ?_
  refine lv_iadd hx hb dL_law_242 ?_
  refine va_sld hx hb hX hbl hbA hS (xIn2 hx3 hj hL) dL_law_243 ?_
  refine xAllI (As := [.int (xs (x3 + (1 : Int32)).toNatClampNeg), .int (xs (x3 + (2 : Int32)).toNatClampNeg)]) (rest := [.int r]) hZ hk2 (hI2.isW.fst.trans hw1.fst.symm) m283 m284 m285 m5 m286 2 ⟨rfl, hdX8_brotherIs⟩ ⟨Nat.le_trans (Nat.add_le_add_right hf2 1) (Nat.le_of_ble_eq_true rfl), Nat.le_trans (Nat.add_le_add_left hl2 _) (Nat.le_of_ble_eq_true rfl)⟩ hz2 hP hD hS 63 8 rfl rfl hmm rfl hl.1 rfl (Nat.le_of_ble_eq_true rfl) dL_law_244 ⟨Nat.le_of_ble_eq_true rfl, Nat.le_of_ble_eq_true rfl⟩ (fun H locs hP hD hS => ?_)
  refine lv_icmp_eq (tgt := 1278) hx hb dL_law_247 (by decide) (fun _ => ?_) (fun h => absurd rfl h)
  exact kk ws2 H locs hI2 hP hD hS
set_option maxHeartbeats 4000000 in
set_option maxRecDepth 100000 in
theorem law_case2 {p : Program} {l : Launch} {e : Env} {s : State} {m : MethodId} {below : List Frame} {meth : Method} {c : Code} {b L : Nat} {xs : Nat → Int32} (hL : L ≤ 3072) (C0 : lw_At p s m meth c b L xs) {G : xG} {tx : Nat} {wx : Nat → Nat} {tm : Nat} {wm : Nat → Nat} (hm : Amb G (fun q : Nat => s.heap.size ≤ q) s s.heap) {j c1 : Nat} {x3 : Int32} (hx3 : x3 = nI j) (hj : j + 6 ≤ L) (hc1 : c1 < 512) {H : Heap} {locs : List Loc} {ls : Array Slot} {ws : va_W} (hI : LInv G tx wx tm wm c1 ws) (hP : va_P G.1 vwCl ws H) (hD : va_D (fun q : Nat => s.heap.size ≤ q) ws) (hS : va_S (fun q : Nat => s.heap.size ≤ q) s.heap H locs) (hl : lv_has ls 4 [(0, .ref b), (1, .ref tx), (2, .ref tm), (3, .int x3)]) (kk : ∀ (ws1 : va_W) (H1 : Heap) (locs1 : List Loc), LInv G tx wx tm wm (c1 + 1) ws1 → va_P G.1 vwCl ws1 H1 → va_D (fun q : Nat => s.heap.size ≤ q) ws1 → va_S (fun q : Nat => s.heap.size ≤ q) s.heap H1 locs1 → W p l e room_1 s m #[Value.ref b] below meth c H1 locs1 78 5109 (lw_Z below #[Value.ref b] s) (F0 m 1278 ls [])) : W p l e room_1 s m #[Value.ref b] below meth c H locs 78 5109 (lw_Z below #[Value.ref b] s) (F0 m 252 ls []) := by
  obtain ⟨hx, hb, hr, hml, hown, hts, hX, hbl, hlocks, hgv⟩ := id C0
  have hbA : ¬ (fun q : Nat => s.heap.size ≤ q) b := Nat.not_le.mpr hbl
  have hZ : xAnd p m c code 4 s _ lw_tbl R_law G (fun q : Nat => s.heap.size ≤ q) := ⟨⟨hx, hb, hml, hown, hts⟩, TBL_in, fun _ h => h, hm⟩
  obtain ⟨r, ws1, ws2, ⟨rm1, hf1, hl1, hz1, hk1⟩, hw1, ⟨rm2, hf2, hl2, hz2, hk2⟩, hI2⟩ := st_become G tx wx tm wm (xs (x3 + (1 : Int32)).toNatClampNeg) (xs (x3 + (2 : Int32)).toNatClampNeg) c1 ws hc1 hI
  obtain ⟨fx, hxx⟩ := hI.isW.x
  obtain ⟨fm, hmm⟩ := hw1.m
  refine lv_aload_n hx hb dL_law_252 rfl (lv_at hl 1 rfl) ?_
  refine lv_aload_n hx hb dL_law_253 rfl (lv_at hl 0 rfl) ?_
  refine lv_iload_n hx hb dL_law_254 rfl (lv_at hl 3 rfl) ?_
  refine lv_iconst (v := 1) hx hb dL_law_255 (by decide) ?_
  refine lv_iadd hx hb dL_law_256 ?_
  refine va_sld hx hb hX hbl hbA hS (xIn1 hx3 hj hL) dL_law_257 ?_
  refine lv_aload_n hx hb dL_law_258 rfl (lv_at hl 0 rfl) ?_
  refine lv_iload_n hx hb dL_law_259 rfl (lv_at hl 3 rfl) ?_
  refine lv_iconst (v := 2) hx hb dL_law_260 (by decide) ?_
  refine lv_iadd hx hb dL_law_261 ?_
  refine va_sld hx hb hX hbl hbA hS (xIn2 hx3 hj hL) dL_law_262 ?_
  refine xAllI (As := [.int (xs (x3 + (1 : Int32)).toNatClampNeg), .int (xs (x3 + (2 : Int32)).toNatClampNeg)]) (rest := []) hZ hk1 (hw1.fst.trans hI.isW.fst.symm) m339 m340 m341 m2 m342 2 ⟨rfl, hdX7_become⟩ ⟨Nat.le_trans (Nat.add_le_add_right hf1 1) (Nat.le_of_ble_eq_true rfl), Nat.le_trans (Nat.add_le_add_left hl1 _) (Nat.le_of_ble_eq_true rfl)⟩ hz1 hP hD hS 0 7 rfl rfl hxx rfl hl.1 rfl (Nat.le_of_ble_eq_true rfl) dL_law_263 ⟨Nat.le_of_ble_eq_true rfl, Nat.le_of_ble_eq_true rfl⟩ (fun H locs hP hD hS => ?_)
  refine lv_aload_n hx hb dL_law_266 rfl (lv_at hl 2 rfl) ?_
  refine lv_aload_n hx hb dL_law_267 rfl (lv_at hl 0 rfl) ?_
  refine lv_iload_n hx hb dL_law_268 rfl (lv_at hl 3 rfl) ?_
  refine lv_iconst (v := 1) hx hb dL_law_269 (by decide) ?_
  refine lv_iadd hx hb dL_law_270 ?_
  refine va_sld hx hb hX hbl hbA hS (xIn1 hx3 hj hL) dL_law_271 ?_
  refine lv_aload_n hx hb dL_law_272 rfl (lv_at hl 0 rfl) ?_
  refine lv_iload_n hx hb dL_law_273 rfl (lv_at hl 3 rfl) ?_
  refine lv_iconst (v := 2) hx hb dL_law_274 (by decide) ?_
  refine lv_iadd hx hb dL_law_275 ?_
  refine va_sld hx hb hX hbl hbA hS (xIn2 hx3 hj hL) dL_law_276 ?_
  refine xAllI (As := [.int (xs (x3 + (1 : Int32)).toNatClampNeg), .int (xs (x3 + (2 : Int32)).toNatClampNeg)]) (rest := [.int r]) hZ hk2 (hI2.isW.fst.trans hw1.fst.symm) m347 m348 m349 m5 m350 2 ⟨rfl, hdX8_become⟩ ⟨Nat.le_trans (Nat.add_le_add_right hf2 1) (Nat.le_of_ble_eq_true rfl), Nat.le_trans (Nat.add_le_add_left hl2 _) (Nat.le_of_ble_eq_true rfl)⟩ hz2 hP hD hS 63 8 rfl rfl hmm rfl hl.1 rfl (Nat.le_of_ble_eq_true rfl) dL_law_277 ⟨Nat.le_of_ble_eq_true rfl, Nat.le_of_ble_eq_true rfl⟩ (fun H locs hP hD hS => ?_)
  refine lv_icmp_eq (tgt := 1278) hx hb dL_law_280 (by decide) (fun _ => ?_) (fun h => absurd rfl h)
  exact kk ws2 H locs hI2 hP hD hS
set_option maxHeartbeats 4000000 in
set_option maxRecDepth 100000 in
theorem law_case3 {p : Program} {l : Launch} {e : Env} {s : State} {m : MethodId} {below : List Frame} {meth : Method} {c : Code} {b L : Nat} {xs : Nat → Int32} (hL : L ≤ 3072) (C0 : lw_At p s m meth c b L xs) {G : xG} {tx : Nat} {wx : Nat → Nat} {tm : Nat} {wm : Nat → Nat} (hm : Amb G (fun q : Nat => s.heap.size ≤ q) s s.heap) {j c1 : Nat} {x3 : Int32} (hx3 : x3 = nI j) (hj : j + 6 ≤ L) (hc1 : c1 < 512) {H : Heap} {locs : List Loc} {ls : Array Slot} {ws : va_W} (hI : LInv G tx wx tm wm c1 ws) (hP : va_P G.1 vwCl ws H) (hD : va_D (fun q : Nat => s.heap.size ≤ q) ws) (hS : va_S (fun q : Nat => s.heap.size ≤ q) s.heap H locs) (hl : lv_has ls 4 [(0, .ref b), (1, .ref tx), (2, .ref tm), (3, .int x3)]) (kk : ∀ (ws1 : va_W) (H1 : Heap) (locs1 : List Loc), LInv G tx wx tm wm (c1 + 1) ws1 → va_P G.1 vwCl ws1 H1 → va_D (fun q : Nat => s.heap.size ≤ q) ws1 → va_S (fun q : Nat => s.heap.size ≤ q) s.heap H1 locs1 → W p l e room_1 s m #[Value.ref b] below meth c H1 locs1 78 5109 (lw_Z below #[Value.ref b] s) (F0 m 1278 ls [])) : W p l e room_1 s m #[Value.ref b] below meth c H locs 78 5109 (lw_Z below #[Value.ref b] s) (F0 m 285 ls []) := by
  obtain ⟨hx, hb, hr, hml, hown, hts, hX, hbl, hlocks, hgv⟩ := id C0
  have hbA : ¬ (fun q : Nat => s.heap.size ≤ q) b := Nat.not_le.mpr hbl
  have hZ : xAnd p m c code 4 s _ lw_tbl R_law G (fun q : Nat => s.heap.size ≤ q) := ⟨⟨hx, hb, hml, hown, hts⟩, TBL_in, fun _ h => h, hm⟩
  obtain ⟨r, ws1, ws2, ⟨rm1, hf1, hl1, hz1, hk1⟩, hw1, ⟨rm2, hf2, hl2, hz2, hk2⟩, hI2⟩ := st_as G tx wx tm wm (xs (x3 + (1 : Int32)).toNatClampNeg) (xs (x3 + (2 : Int32)).toNatClampNeg) c1 ws hc1 hI
  obtain ⟨fx, hxx⟩ := hI.isW.x
  obtain ⟨fm, hmm⟩ := hw1.m
  refine lv_aload_n hx hb dL_law_285 rfl (lv_at hl 1 rfl) ?_
  refine lv_aload_n hx hb dL_law_286 rfl (lv_at hl 0 rfl) ?_
  refine lv_iload_n hx hb dL_law_287 rfl (lv_at hl 3 rfl) ?_
  refine lv_iconst (v := 1) hx hb dL_law_288 (by decide) ?_
  refine lv_iadd hx hb dL_law_289 ?_
  refine va_sld hx hb hX hbl hbA hS (xIn1 hx3 hj hL) dL_law_290 ?_
  refine lv_aload_n hx hb dL_law_291 rfl (lv_at hl 0 rfl) ?_
  refine lv_iload_n hx hb dL_law_292 rfl (lv_at hl 3 rfl) ?_
  refine lv_iconst (v := 2) hx hb dL_law_293 (by decide) ?_
  refine lv_iadd hx hb dL_law_294 ?_
  refine va_sld hx hb hX hbl hbA hS (xIn2 hx3 hj hL) dL_law_295 ?_
  refine xAllI (As := [.int (xs (x3 + (1 : Int32)).toNatClampNeg), .int (xs (x3 + (2 : Int32)).toNatClampNeg)]) (rest := []) hZ hk1 (hw1.fst.trans hI.isW.fst.symm) m355 m356 m357 m2 m358 2 ⟨rfl, hdX7_as⟩ ⟨Nat.le_trans (Nat.add_le_add_right hf1 1) (Nat.le_of_ble_eq_true rfl), Nat.le_trans (Nat.add_le_add_left hl1 _) (Nat.le_of_ble_eq_true rfl)⟩ hz1 hP hD hS 0 7 rfl rfl hxx rfl hl.1 rfl (Nat.le_of_ble_eq_true rfl) dL_law_296 ⟨Nat.le_of_ble_eq_true rfl, Nat.le_of_ble_eq_true rfl⟩ (fun H locs hP hD hS => ?_)
  refine lv_aload_n hx hb dL_law_299 rfl (lv_at hl 2 rfl) ?_
  refine lv_aload_n hx hb dL_law_300 rfl (lv_at hl 0 rfl) ?_
  refine lv_iload_n hx hb dL_law_301 rfl (lv_at hl 3 rfl) ?_
  refine lv_iconst (v := 1) hx hb dL_law_302 (by decide) ?_
  refine lv_iadd hx hb dL_law_303 ?_
  refine va_sld hx hb hX hbl hbA hS (xIn1 hx3 hj hL) dL_law_304 ?_
  refine lv_aload_n hx hb dL_law_305 rfl (lv_at hl 0 rfl) ?_
  refine lv_iload_n hx hb dL_law_306 rfl (lv_at hl 3 rfl) ?_
  refine lv_iconst (v := 2) hx hb dL_law_307 (by decide) ?_
  refine lv_iadd hx hb dL_law_308 ?_
  refine va_sld hx hb hX hbl hbA hS (xIn2 hx3 hj hL) dL_law_309 ?_
  refine xAllI (As := [.int (xs (x3 + (1 : Int32)).toNatClampNeg), .int (xs (x3 + (2 : Int32)).toNatClampNeg)]) (rest := [.int r]) hZ hk2 (hI2.isW.fst.trans hw1.fst.symm) m366 m367 m368 m5 m369 2 ⟨rfl, hdX8_as⟩ ⟨Nat.le_trans (Nat.add_le_add_right hf2 1) (Nat.le_of_ble_eq_true rfl), Nat.le_trans (Nat.add_le_add_left hl2 _) (Nat.le_of_ble_eq_true rfl)⟩ hz2 hP hD hS 63 8 rfl rfl hmm rfl hl.1 rfl (Nat.le_of_ble_eq_true rfl) dL_law_310 ⟨Nat.le_of_ble_eq_true rfl, Nat.le_of_ble_eq_true rfl⟩ (fun H locs hP hD hS => ?_)
  refine lv_icmp_eq (tgt := 1278) hx hb dL_law_313 (by decide) (fun _ => ?_) (fun h => absurd rfl h)
  exact kk ws2 H locs hI2 hP hD hS
set_option maxHeartbeats 4000000 in
set_option maxRecDepth 100000 in
theorem law_case4 {p : Program} {l : Launch} {e : Env} {s : State} {m : MethodId} {below : List Frame} {meth : Method} {c : Code} {b L : Nat} {xs : Nat → Int32} (hL : L ≤ 3072) (C0 : lw_At p s m meth c b L xs) {G : xG} {tx : Nat} {wx : Nat → Nat} {tm : Nat} {wm : Nat → Nat} (hm : Amb G (fun q : Nat => s.heap.size ≤ q) s s.heap) {j c1 : Nat} {x3 : Int32} (hx3 : x3 = nI j) (hj : j + 6 ≤ L) (hc1 : c1 < 512) {H : Heap} {locs : List Loc} {ls : Array Slot} {ws : va_W} (hI : LInv G tx wx tm wm c1 ws) (hP : va_P G.1 vwCl ws H) (hD : va_D (fun q : Nat => s.heap.size ≤ q) ws) (hS : va_S (fun q : Nat => s.heap.size ≤ q) s.heap H locs) (hl : lv_has ls 4 [(0, .ref b), (1, .ref tx), (2, .ref tm), (3, .int x3)]) (kk : ∀ (ws1 : va_W) (H1 : Heap) (locs1 : List Loc), LInv G tx wx tm wm (c1 + 1) ws1 → va_P G.1 vwCl ws1 H1 → va_D (fun q : Nat => s.heap.size ≤ q) ws1 → va_S (fun q : Nat => s.heap.size ≤ q) s.heap H1 locs1 → W p l e room_1 s m #[Value.ref b] below meth c H1 locs1 78 5109 (lw_Z below #[Value.ref b] s) (F0 m 1278 ls [])) : W p l e room_1 s m #[Value.ref b] below meth c H locs 78 5109 (lw_Z below #[Value.ref b] s) (F0 m 318 ls []) := by
  obtain ⟨hx, hb, hr, hml, hown, hts, hX, hbl, hlocks, hgv⟩ := id C0
  have hbA : ¬ (fun q : Nat => s.heap.size ≤ q) b := Nat.not_le.mpr hbl
  have hZ : xAnd p m c code 4 s _ lw_tbl R_law G (fun q : Nat => s.heap.size ≤ q) := ⟨⟨hx, hb, hml, hown, hts⟩, TBL_in, fun _ h => h, hm⟩
  obtain ⟨r, ws1, ws2, ⟨rm1, hf1, hl1, hz1, hk1⟩, hw1, ⟨rm2, hf2, hl2, hz2, hk2⟩, hI2⟩ := st_avoids G tx wx tm wm (xs (x3 + (1 : Int32)).toNatClampNeg) (xs (x3 + (2 : Int32)).toNatClampNeg) c1 ws hc1 hI
  obtain ⟨fx, hxx⟩ := hI.isW.x
  obtain ⟨fm, hmm⟩ := hw1.m
  refine lv_aload_n hx hb dL_law_318 rfl (lv_at hl 1 rfl) ?_
  refine lv_aload_n hx hb dL_law_319 rfl (lv_at hl 0 rfl) ?_
  refine lv_iload_n hx hb dL_law_320 rfl (lv_at hl 3 rfl) ?_
  refine lv_iconst (v := 1) hx hb dL_law_321 (by decide) ?_
  refine lv_iadd hx hb dL_law_322 ?_
  refine va_sld hx hb hX hbl hbA hS (xIn1 hx3 hj hL) dL_law_323 ?_
  refine lv_aload_n hx hb dL_law_324 rfl (lv_at hl 0 rfl) ?_
  refine lv_iload_n hx hb dL_law_325 rfl (lv_at hl 3 rfl) ?_
  refine lv_iconst (v := 2) hx hb dL_law_326 (by decide) ?_
  refine lv_iadd hx hb dL_law_327 ?_
  refine va_sld hx hb hX hbl hbA hS (xIn2 hx3 hj hL) dL_law_328 ?_
  refine xAllI (As := [.int (xs (x3 + (1 : Int32)).toNatClampNeg), .int (xs (x3 + (2 : Int32)).toNatClampNeg)]) (rest := []) hZ hk1 (hw1.fst.trans hI.isW.fst.symm) m371 m372 m373 m2 m374 2 ⟨rfl, hdX7_avoids⟩ ⟨Nat.le_trans (Nat.add_le_add_right hf1 1) (Nat.le_of_ble_eq_true rfl), Nat.le_trans (Nat.add_le_add_left hl1 _) (Nat.le_of_ble_eq_true rfl)⟩ hz1 hP hD hS 0 7 rfl rfl hxx rfl hl.1 rfl (Nat.le_of_ble_eq_true rfl) dL_law_329 ⟨Nat.le_of_ble_eq_true rfl, Nat.le_of_ble_eq_true rfl⟩ (fun H locs hP hD hS => ?_)
  refine lv_aload_n hx hb dL_law_332 rfl (lv_at hl 2 rfl) ?_
  refine lv_aload_n hx hb dL_law_333 rfl (lv_at hl 0 rfl) ?_
  refine lv_iload_n hx hb dL_law_334 rfl (lv_at hl 3 rfl) ?_
  refine lv_iconst (v := 1) hx hb dL_law_335 (by decide) ?_
  refine lv_iadd hx hb dL_law_336 ?_
  refine va_sld hx hb hX hbl hbA hS (xIn1 hx3 hj hL) dL_law_337 ?_
  refine lv_aload_n hx hb dL_law_338 rfl (lv_at hl 0 rfl) ?_
  refine lv_iload_n hx hb dL_law_339 rfl (lv_at hl 3 rfl) ?_
  refine lv_iconst (v := 2) hx hb dL_law_340 (by decide) ?_
  refine lv_iadd hx hb dL_law_341 ?_
  refine va_sld hx hb hX hbl hbA hS (xIn2 hx3 hj hL) dL_law_342 ?_
  refine xAllI (As := [.int (xs (x3 + (1 : Int32)).toNatClampNeg), .int (xs (x3 + (2 : Int32)).toNatClampNeg)]) (rest := [.int r]) hZ hk2 (hI2.isW.fst.trans hw1.fst.symm) m376 m377 m378 m5 m379 2 ⟨rfl, hdX8_avoids⟩ ⟨Nat.le_trans (Nat.add_le_add_right hf2 1) (Nat.le_of_ble_eq_true rfl), Nat.le_trans (Nat.add_le_add_left hl2 _) (Nat.le_of_ble_eq_true rfl)⟩ hz2 hP hD hS 63 8 rfl rfl hmm rfl hl.1 rfl (Nat.le_of_ble_eq_true rfl) dL_law_343 ⟨Nat.le_of_ble_eq_true rfl, Nat.le_of_ble_eq_true rfl⟩ (fun H locs hP hD hS => ?_)
  refine lv_icmp_eq (tgt := 1278) hx hb dL_law_346 (by decide) (fun _ => ?_) (fun h => absurd rfl h)
  exact kk ws2 H locs hI2 hP hD hS
set_option maxHeartbeats 4000000 in
set_option maxRecDepth 100000 in
theorem law_case5 {p : Program} {l : Launch} {e : Env} {s : State} {m : MethodId} {below : List Frame} {meth : Method} {c : Code} {b L : Nat} {xs : Nat → Int32} (hL : L ≤ 3072) (C0 : lw_At p s m meth c b L xs) {G : xG} {tx : Nat} {wx : Nat → Nat} {tm : Nat} {wm : Nat → Nat} (hm : Amb G (fun q : Nat => s.heap.size ≤ q) s s.heap) {j c1 : Nat} {x3 : Int32} (hx3 : x3 = nI j) (hj : j + 6 ≤ L) (hc1 : c1 < 512) {H : Heap} {locs : List Loc} {ls : Array Slot} {ws : va_W} (hI : LInv G tx wx tm wm c1 ws) (hP : va_P G.1 vwCl ws H) (hD : va_D (fun q : Nat => s.heap.size ≤ q) ws) (hS : va_S (fun q : Nat => s.heap.size ≤ q) s.heap H locs) (hl : lv_has ls 4 [(0, .ref b), (1, .ref tx), (2, .ref tm), (3, .int x3)]) (kk : ∀ (ws1 : va_W) (H1 : Heap) (locs1 : List Loc), LInv G tx wx tm wm (c1 + 1) ws1 → va_P G.1 vwCl ws1 H1 → va_D (fun q : Nat => s.heap.size ≤ q) ws1 → va_S (fun q : Nat => s.heap.size ≤ q) s.heap H1 locs1 → W p l e room_1 s m #[Value.ref b] below meth c H1 locs1 78 5109 (lw_Z below #[Value.ref b] s) (F0 m 1278 ls [])) : W p l e room_1 s m #[Value.ref b] below meth c H locs 78 5109 (lw_Z below #[Value.ref b] s) (F0 m 351 ls []) := by
  obtain ⟨hx, hb, hr, hml, hown, hts, hX, hbl, hlocks, hgv⟩ := id C0
  have hbA : ¬ (fun q : Nat => s.heap.size ≤ q) b := Nat.not_le.mpr hbl
  have hZ : xAnd p m c code 4 s _ lw_tbl R_law G (fun q : Nat => s.heap.size ≤ q) := ⟨⟨hx, hb, hml, hown, hts⟩, TBL_in, fun _ h => h, hm⟩
  obtain ⟨r, ws1, ws2, ⟨rm1, hf1, hl1, hz1, hk1⟩, hw1, ⟨rm2, hf2, hl2, hz2, hk2⟩, hI2⟩ := st_talk G tx wx tm wm (xs (x3 + (1 : Int32)).toNatClampNeg) (xs (x3 + (2 : Int32)).toNatClampNeg) c1 ws hc1 hI
  obtain ⟨fx, hxx⟩ := hI.isW.x
  obtain ⟨fm, hmm⟩ := hw1.m
  refine lv_aload_n hx hb dL_law_351 rfl (lv_at hl 1 rfl) ?_
  refine lv_aload_n hx hb dL_law_352 rfl (lv_at hl 0 rfl) ?_
  refine lv_iload_n hx hb dL_law_353 rfl (lv_at hl 3 rfl) ?_
  refine lv_iconst (v := 1) hx hb dL_law_354 (by decide) ?_
  refine lv_iadd hx hb dL_law_355 ?_
  refine va_sld hx hb hX hbl hbA hS (xIn1 hx3 hj hL) dL_law_356 ?_
  refine lv_aload_n hx hb dL_law_357 rfl (lv_at hl 0 rfl) ?_
  refine lv_iload_n hx hb dL_law_358 rfl (lv_at hl 3 rfl) ?_
  refine lv_iconst (v := 2) hx hb dL_law_359 (by decide) ?_
  refine lv_iadd hx hb dL_law_360 ?_
  refine va_sld hx hb hX hbl hbA hS (xIn2 hx3 hj hL) dL_law_361 ?_
  refine xAllI (As := [.int (xs (x3 + (1 : Int32)).toNatClampNeg), .int (xs (x3 + (2 : Int32)).toNatClampNeg)]) (rest := []) hZ hk1 (hw1.fst.trans hI.isW.fst.symm) m383 m384 m385 m2 m386 2 ⟨rfl, hdX7_talk⟩ ⟨Nat.le_trans (Nat.add_le_add_right hf1 1) (Nat.le_of_ble_eq_true rfl), Nat.le_trans (Nat.add_le_add_left hl1 _) (Nat.le_of_ble_eq_true rfl)⟩ hz1 hP hD hS 0 7 rfl rfl hxx rfl hl.1 rfl (Nat.le_of_ble_eq_true rfl) dL_law_362 ⟨Nat.le_of_ble_eq_true rfl, Nat.le_of_ble_eq_true rfl⟩ (fun H locs hP hD hS => ?_)
  refine lv_aload_n hx hb dL_law_365 rfl (lv_at hl 2 rfl) ?_
  refine lv_aload_n hx hb dL_law_366 rfl (lv_at hl 0 rfl) ?_
  refine lv_iload_n hx hb dL_law_367 rfl (lv_at hl 3 rfl) ?_
  refine lv_iconst (v := 1) hx hb dL_law_368 (by decide) ?_
  refine lv_iadd hx hb dL_law_369 ?_
  refine va_sld hx hb hX hbl hbA hS (xIn1 hx3 hj hL) dL_law_370 ?_
  refine lv_aload_n hx hb dL_law_371 rfl (lv_at hl 0 rfl) ?_
  refine lv_iload_n hx hb dL_law_372 rfl (lv_at hl 3 rfl) ?_
  refine lv_iconst (v := 2) hx hb dL_law_373 (by decide) ?_
  refine lv_iadd hx hb dL_law_374 ?_
  refine va_sld hx hb hX hbl hbA hS (xIn2 hx3 hj hL) dL_law_375 ?_
  refine xAllI (As := [.int (xs (x3 + (1 : Int32)).toNatClampNeg), .int (xs (x3 + (2 : Int32)).toNatClampNeg)]) (rest := [.int r]) hZ hk2 (hI2.isW.fst.trans hw1.fst.symm) m402 m403 m404 m5 m405 2 ⟨rfl, hdX8_talk⟩ ⟨Nat.le_trans (Nat.add_le_add_right hf2 1) (Nat.le_of_ble_eq_true rfl), Nat.le_trans (Nat.add_le_add_left hl2 _) (Nat.le_of_ble_eq_true rfl)⟩ hz2 hP hD hS 63 8 rfl rfl hmm rfl hl.1 rfl (Nat.le_of_ble_eq_true rfl) dL_law_376 ⟨Nat.le_of_ble_eq_true rfl, Nat.le_of_ble_eq_true rfl⟩ (fun H locs hP hD hS => ?_)
  refine lv_icmp_eq (tgt := 1278) hx hb dL_law_379 (by decide) (fun _ => ?_) (fun h => absurd rfl h)
  exact kk ws2 H locs hI2 hP hD hS
set_option maxHeartbeats 4000000 in
set_option maxRecDepth 100000 in
theorem law_case6 {p : Program} {l : Launch} {e : Env} {s : State} {m : MethodId} {below : List Frame} {meth : Method} {c : Code} {b L : Nat} {xs : Nat → Int32} (hL : L ≤ 3072) (C0 : lw_At p s m meth c b L xs) {G : xG} {tx : Nat} {wx : Nat → Nat} {tm : Nat} {wm : Nat → Nat} (hm : Amb G (fun q : Nat => s.heap.size ≤ q) s s.heap) {j c1 : Nat} {x3 : Int32} (hx3 : x3 = nI j) (hj : j + 6 ≤ L) (hc1 : c1 < 512) {H : Heap} {locs : List Loc} {ls : Array Slot} {ws : va_W} (hI : LInv G tx wx tm wm c1 ws) (hP : va_P G.1 vwCl ws H) (hD : va_D (fun q : Nat => s.heap.size ≤ q) ws) (hS : va_S (fun q : Nat => s.heap.size ≤ q) s.heap H locs) (hl : lv_has ls 4 [(0, .ref b), (1, .ref tx), (2, .ref tm), (3, .int x3)]) (kk : ∀ (ws1 : va_W) (H1 : Heap) (locs1 : List Loc), LInv G tx wx tm wm (c1 + 1) ws1 → va_P G.1 vwCl ws1 H1 → va_D (fun q : Nat => s.heap.size ≤ q) ws1 → va_S (fun q : Nat => s.heap.size ≤ q) s.heap H1 locs1 → W p l e room_1 s m #[Value.ref b] below meth c H1 locs1 78 5109 (lw_Z below #[Value.ref b] s) (F0 m 1278 ls [])) : W p l e room_1 s m #[Value.ref b] below meth c H locs 78 5109 (lw_Z below #[Value.ref b] s) (F0 m 384 ls []) := by
  obtain ⟨hx, hb, hr, hml, hown, hts, hX, hbl, hlocks, hgv⟩ := id C0
  have hbA : ¬ (fun q : Nat => s.heap.size ≤ q) b := Nat.not_le.mpr hbl
  have hZ : xAnd p m c code 4 s _ lw_tbl R_law G (fun q : Nat => s.heap.size ≤ q) := ⟨⟨hx, hb, hml, hown, hts⟩, TBL_in, fun _ h => h, hm⟩
  obtain ⟨r, ws1, ws2, ⟨rm1, hf1, hl1, hz1, hk1⟩, hw1, ⟨rm2, hf2, hl2, hz2, hk2⟩, hI2⟩ := st_vow G tx wx tm wm (xs (x3 + (1 : Int32)).toNatClampNeg) c1 ws hc1 hI
  obtain ⟨fx, hxx⟩ := hI.isW.x
  obtain ⟨fm, hmm⟩ := hw1.m
  refine lv_aload_n hx hb dL_law_384 rfl (lv_at hl 1 rfl) ?_
  refine lv_aload_n hx hb dL_law_385 rfl (lv_at hl 0 rfl) ?_
  refine lv_iload_n hx hb dL_law_386 rfl (lv_at hl 3 rfl) ?_
  refine lv_iconst (v := 1) hx hb dL_law_387 (by decide) ?_
  refine lv_iadd hx hb dL_law_388 ?_
  refine va_sld hx hb hX hbl hbA hS (xIn1 hx3 hj hL) dL_law_389 ?_
  refine xAllI (As := [.int (xs (x3 + (1 : Int32)).toNatClampNeg)]) (rest := []) hZ hk1 (hw1.fst.trans hI.isW.fst.symm) m417 m418 m419 m2 m420 1 ⟨rfl, hdX7_vow⟩ ⟨Nat.le_trans (Nat.add_le_add_right hf1 1) (Nat.le_of_ble_eq_true rfl), Nat.le_trans (Nat.add_le_add_left hl1 _) (Nat.le_of_ble_eq_true rfl)⟩ hz1 hP hD hS 0 7 rfl rfl hxx rfl hl.1 rfl (Nat.le_of_ble_eq_true rfl) dL_law_390 ⟨Nat.le_of_ble_eq_true rfl, Nat.le_of_ble_eq_true rfl⟩ (fun H locs hP hD hS => ?_)
  refine lv_aload_n hx hb dL_law_393 rfl (lv_at hl 2 rfl) ?_
  refine lv_aload_n hx hb dL_law_394 rfl (lv_at hl 0 rfl) ?_
  refine lv_iload_n hx hb dL_law_395 rfl (lv_at hl 3 rfl) ?_
  refine lv_iconst (v := 1) hx hb dL_law_396 (by decide) ?_
  refine lv_iadd hx hb dL_law_397 ?_
  refine va_sld hx hb hX hbl hbA hS (xIn1 hx3 hj hL) dL_law_398 ?_
  refine xAllI (As := [.int (xs (x3 + (1 : Int32)).toNatClampNeg)]) (rest := [.int r]) hZ hk2 (hI2.isW.fst.trans hw1.fst.symm) m422 m423 m424 m5 m425 1 ⟨rfl, hdX8_vow⟩ ⟨Nat.le_trans (Nat.add_le_add_right hf2 1) (Nat.le_of_ble_eq_true rfl), Nat.le_trans (Nat.add_le_add_left hl2 _) (Nat.le_of_ble_eq_true rfl)⟩ hz2 hP hD hS 63 8 rfl rfl hmm rfl hl.1 rfl (Nat.le_of_ble_eq_true rfl) dL_law_399 ⟨Nat.le_of_ble_eq_true rfl, Nat.le_of_ble_eq_true rfl⟩ (fun H locs hP hD hS => ?_)
  refine lv_icmp_eq (tgt := 1278) hx hb dL_law_402 (by decide) (fun _ => ?_) (fun h => absurd rfl h)
  exact kk ws2 H locs hI2 hP hD hS
set_option maxHeartbeats 4000000 in
set_option maxRecDepth 100000 in
theorem law_case7 {p : Program} {l : Launch} {e : Env} {s : State} {m : MethodId} {below : List Frame} {meth : Method} {c : Code} {b L : Nat} {xs : Nat → Int32} (hL : L ≤ 3072) (C0 : lw_At p s m meth c b L xs) {G : xG} {tx : Nat} {wx : Nat → Nat} {tm : Nat} {wm : Nat → Nat} (hm : Amb G (fun q : Nat => s.heap.size ≤ q) s s.heap) {j c1 : Nat} {x3 : Int32} (hx3 : x3 = nI j) (hj : j + 6 ≤ L) (hc1 : c1 < 512) {H : Heap} {locs : List Loc} {ls : Array Slot} {ws : va_W} (hI : LInv G tx wx tm wm c1 ws) (hP : va_P G.1 vwCl ws H) (hD : va_D (fun q : Nat => s.heap.size ≤ q) ws) (hS : va_S (fun q : Nat => s.heap.size ≤ q) s.heap H locs) (hl : lv_has ls 4 [(0, .ref b), (1, .ref tx), (2, .ref tm), (3, .int x3)]) (kk : ∀ (ws1 : va_W) (H1 : Heap) (locs1 : List Loc), LInv G tx wx tm wm (c1 + 1) ws1 → va_P G.1 vwCl ws1 H1 → va_D (fun q : Nat => s.heap.size ≤ q) ws1 → va_S (fun q : Nat => s.heap.size ≤ q) s.heap H1 locs1 → W p l e room_1 s m #[Value.ref b] below meth c H1 locs1 78 5109 (lw_Z below #[Value.ref b] s) (F0 m 1278 ls [])) : W p l e room_1 s m #[Value.ref b] below meth c H locs 78 5109 (lw_Z below #[Value.ref b] s) (F0 m 407 ls []) := by
  obtain ⟨hx, hb, hr, hml, hown, hts, hX, hbl, hlocks, hgv⟩ := id C0
  have hbA : ¬ (fun q : Nat => s.heap.size ≤ q) b := Nat.not_le.mpr hbl
  have hZ : xAnd p m c code 4 s _ lw_tbl R_law G (fun q : Nat => s.heap.size ≤ q) := ⟨⟨hx, hb, hml, hown, hts⟩, TBL_in, fun _ h => h, hm⟩
  obtain ⟨r, ws1, ws2, ⟨rm1, hf1, hl1, hz1, hk1⟩, hw1, ⟨rm2, hf2, hl2, hz2, hk2⟩, hI2⟩ := st_sign G tx wx tm wm (xs (x3 + (1 : Int32)).toNatClampNeg) (xs (x3 + (2 : Int32)).toNatClampNeg) c1 ws hc1 hI
  obtain ⟨fx, hxx⟩ := hI.isW.x
  obtain ⟨fm, hmm⟩ := hw1.m
  refine lv_aload_n hx hb dL_law_407 rfl (lv_at hl 1 rfl) ?_
  refine lv_aload_n hx hb dL_law_408 rfl (lv_at hl 0 rfl) ?_
  refine lv_iload_n hx hb dL_law_409 rfl (lv_at hl 3 rfl) ?_
  refine lv_iconst (v := 1) hx hb dL_law_410 (by decide) ?_
  refine lv_iadd hx hb dL_law_411 ?_
  refine va_sld hx hb hX hbl hbA hS (xIn1 hx3 hj hL) dL_law_412 ?_
  refine lv_aload_n hx hb dL_law_413 rfl (lv_at hl 0 rfl) ?_
  refine lv_iload_n hx hb dL_law_414 rfl (lv_at hl 3 rfl) ?_
  refine lv_iconst (v := 2) hx hb dL_law_415 (by decide) ?_
  refine lv_iadd hx hb dL_law_416 ?_
  refine va_sld hx hb hX hbl hbA hS (xIn2 hx3 hj hL) dL_law_417 ?_
  refine xAllI (As := [.int (xs (x3 + (1 : Int32)).toNatClampNeg), .int (xs (x3 + (2 : Int32)).toNatClampNeg)]) (rest := []) hZ hk1 (hw1.fst.trans hI.isW.fst.symm) m426 m427 m428 m2 m429 2 ⟨rfl, hdX7_sign⟩ ⟨Nat.le_trans (Nat.add_le_add_right hf1 1) (Nat.le_of_ble_eq_true rfl), Nat.le_trans (Nat.add_le_add_left hl1 _) (Nat.le_of_ble_eq_true rfl)⟩ hz1 hP hD hS 0 7 rfl rfl hxx rfl hl.1 rfl (Nat.le_of_ble_eq_true rfl) dL_law_418 ⟨Nat.le_of_ble_eq_true rfl, Nat.le_of_ble_eq_true rfl⟩ (fun H locs hP hD hS => ?_)
  refine lv_aload_n hx hb dL_law_421 rfl (lv_at hl 2 rfl) ?_
  refine lv_aload_n hx hb dL_law_422 rfl (lv_at hl 0 rfl) ?_
  refine lv_iload_n hx hb dL_law_423 rfl (lv_at hl 3 rfl) ?_
  refine lv_iconst (v := 1) hx hb dL_law_424 (by decide) ?_
  refine lv_iadd hx hb dL_law_425 ?_
  refine va_sld hx hb hX hbl hbA hS (xIn1 hx3 hj hL) dL_law_426 ?_
  refine lv_aload_n hx hb dL_law_427 rfl (lv_at hl 0 rfl) ?_
  refine lv_iload_n hx hb dL_law_428 rfl (lv_at hl 3 rfl) ?_
  refine lv_iconst (v := 2) hx hb dL_law_429 (by decide) ?_
  refine lv_iadd hx hb dL_law_430 ?_
  refine va_sld hx hb hX hbl hbA hS (xIn2 hx3 hj hL) dL_law_431 ?_
  refine xAllI (As := [.int (xs (x3 + (1 : Int32)).toNatClampNeg), .int (xs (x3 + (2 : Int32)).toNatClampNeg)]) (rest := [.int r]) hZ hk2 (hI2.isW.fst.trans hw1.fst.symm) m435 m436 m437 m5 m438 2 ⟨rfl, hdX8_sign⟩ ⟨Nat.le_trans (Nat.add_le_add_right hf2 1) (Nat.le_of_ble_eq_true rfl), Nat.le_trans (Nat.add_le_add_left hl2 _) (Nat.le_of_ble_eq_true rfl)⟩ hz2 hP hD hS 63 8 rfl rfl hmm rfl hl.1 rfl (Nat.le_of_ble_eq_true rfl) dL_law_432 ⟨Nat.le_of_ble_eq_true rfl, Nat.le_of_ble_eq_true rfl⟩ (fun H locs hP hD hS => ?_)
  refine lv_icmp_eq (tgt := 1278) hx hb dL_law_435 (by decide) (fun _ => ?_) (fun h => absurd rfl h)
  exact kk ws2 H locs hI2 hP hD hS
set_option maxHeartbeats 4000000 in
set_option maxRecDepth 100000 in
theorem law_case8 {p : Program} {l : Launch} {e : Env} {s : State} {m : MethodId} {below : List Frame} {meth : Method} {c : Code} {b L : Nat} {xs : Nat → Int32} (hL : L ≤ 3072) (C0 : lw_At p s m meth c b L xs) {G : xG} {tx : Nat} {wx : Nat → Nat} {tm : Nat} {wm : Nat → Nat} (hm : Amb G (fun q : Nat => s.heap.size ≤ q) s s.heap) {j c1 : Nat} {x3 : Int32} (hx3 : x3 = nI j) (hj : j + 6 ≤ L) (hc1 : c1 < 512) {H : Heap} {locs : List Loc} {ls : Array Slot} {ws : va_W} (hI : LInv G tx wx tm wm c1 ws) (hP : va_P G.1 vwCl ws H) (hD : va_D (fun q : Nat => s.heap.size ≤ q) ws) (hS : va_S (fun q : Nat => s.heap.size ≤ q) s.heap H locs) (hl : lv_has ls 4 [(0, .ref b), (1, .ref tx), (2, .ref tm), (3, .int x3)]) (kk : ∀ (ws1 : va_W) (H1 : Heap) (locs1 : List Loc), LInv G tx wx tm wm (c1 + 1) ws1 → va_P G.1 vwCl ws1 H1 → va_D (fun q : Nat => s.heap.size ≤ q) ws1 → va_S (fun q : Nat => s.heap.size ≤ q) s.heap H1 locs1 → W p l e room_1 s m #[Value.ref b] below meth c H1 locs1 78 5109 (lw_Z below #[Value.ref b] s) (F0 m 1278 ls [])) : W p l e room_1 s m #[Value.ref b] below meth c H locs 78 5109 (lw_Z below #[Value.ref b] s) (F0 m 440 ls []) := by
  obtain ⟨hx, hb, hr, hml, hown, hts, hX, hbl, hlocks, hgv⟩ := id C0
  have hbA : ¬ (fun q : Nat => s.heap.size ≤ q) b := Nat.not_le.mpr hbl
  have hZ : xAnd p m c code 4 s _ lw_tbl R_law G (fun q : Nat => s.heap.size ≤ q) := ⟨⟨hx, hb, hml, hown, hts⟩, TBL_in, fun _ h => h, hm⟩
  obtain ⟨r, ws1, ws2, ⟨rm1, hf1, hl1, hz1, hk1⟩, hw1, ⟨rm2, hf2, hl2, hz2, hk2⟩, hI2⟩ := st_forget G tx wx tm wm (xs (x3 + (1 : Int32)).toNatClampNeg) c1 ws hc1 hI
  obtain ⟨fx, hxx⟩ := hI.isW.x
  obtain ⟨fm, hmm⟩ := hw1.m
  refine lv_aload_n hx hb dL_law_440 rfl (lv_at hl 1 rfl) ?_
  refine lv_aload_n hx hb dL_law_441 rfl (lv_at hl 0 rfl) ?_
  refine lv_iload_n hx hb dL_law_442 rfl (lv_at hl 3 rfl) ?_
  refine lv_iconst (v := 1) hx hb dL_law_443 (by decide) ?_
  refine lv_iadd hx hb dL_law_444 ?_
  refine va_sld hx hb hX hbl hbA hS (xIn1 hx3 hj hL) dL_law_445 ?_
  refine xAllI (As := [.int (xs (x3 + (1 : Int32)).toNatClampNeg)]) (rest := []) hZ hk1 (hw1.fst.trans hI.isW.fst.symm) m447 m448 m449 m2 m450 1 ⟨rfl, hdX7_forget⟩ ⟨Nat.le_trans (Nat.add_le_add_right hf1 1) (Nat.le_of_ble_eq_true rfl), Nat.le_trans (Nat.add_le_add_left hl1 _) (Nat.le_of_ble_eq_true rfl)⟩ hz1 hP hD hS 0 7 rfl rfl hxx rfl hl.1 rfl (Nat.le_of_ble_eq_true rfl) dL_law_446 ⟨Nat.le_of_ble_eq_true rfl, Nat.le_of_ble_eq_true rfl⟩ (fun H locs hP hD hS => ?_)
  refine lv_aload_n hx hb dL_law_449 rfl (lv_at hl 2 rfl) ?_
  refine lv_aload_n hx hb dL_law_450 rfl (lv_at hl 0 rfl) ?_
  refine lv_iload_n hx hb dL_law_451 rfl (lv_at hl 3 rfl) ?_
  refine lv_iconst (v := 1) hx hb dL_law_452 (by decide) ?_
  refine lv_iadd hx hb dL_law_453 ?_
  refine va_sld hx hb hX hbl hbA hS (xIn1 hx3 hj hL) dL_law_454 ?_
  refine xAllI (As := [.int (xs (x3 + (1 : Int32)).toNatClampNeg)]) (rest := [.int r]) hZ hk2 (hI2.isW.fst.trans hw1.fst.symm) m455 m456 m457 m5 m458 1 ⟨rfl, hdX8_forget⟩ ⟨Nat.le_trans (Nat.add_le_add_right hf2 1) (Nat.le_of_ble_eq_true rfl), Nat.le_trans (Nat.add_le_add_left hl2 _) (Nat.le_of_ble_eq_true rfl)⟩ hz2 hP hD hS 63 8 rfl rfl hmm rfl hl.1 rfl (Nat.le_of_ble_eq_true rfl) dL_law_455 ⟨Nat.le_of_ble_eq_true rfl, Nat.le_of_ble_eq_true rfl⟩ (fun H locs hP hD hS => ?_)
  refine lv_icmp_eq (tgt := 1278) hx hb dL_law_458 (by decide) (fun _ => ?_) (fun h => absurd rfl h)
  exact kk ws2 H locs hI2 hP hD hS
set_option maxHeartbeats 4000000 in
set_option maxRecDepth 100000 in
theorem law_case9 {p : Program} {l : Launch} {e : Env} {s : State} {m : MethodId} {below : List Frame} {meth : Method} {c : Code} {b L : Nat} {xs : Nat → Int32} (hL : L ≤ 3072) (C0 : lw_At p s m meth c b L xs) {G : xG} {tx : Nat} {wx : Nat → Nat} {tm : Nat} {wm : Nat → Nat} (hm : Amb G (fun q : Nat => s.heap.size ≤ q) s s.heap) {j c1 : Nat} {x3 : Int32} (hx3 : x3 = nI j) (hj : j + 6 ≤ L) (hc1 : c1 < 512) {H : Heap} {locs : List Loc} {ls : Array Slot} {ws : va_W} (hI : LInv G tx wx tm wm c1 ws) (hP : va_P G.1 vwCl ws H) (hD : va_D (fun q : Nat => s.heap.size ≤ q) ws) (hS : va_S (fun q : Nat => s.heap.size ≤ q) s.heap H locs) (hl : lv_has ls 4 [(0, .ref b), (1, .ref tx), (2, .ref tm), (3, .int x3)]) (kk : ∀ (ws1 : va_W) (H1 : Heap) (locs1 : List Loc), LInv G tx wx tm wm (c1 + 1) ws1 → va_P G.1 vwCl ws1 H1 → va_D (fun q : Nat => s.heap.size ≤ q) ws1 → va_S (fun q : Nat => s.heap.size ≤ q) s.heap H1 locs1 → W p l e room_1 s m #[Value.ref b] below meth c H1 locs1 78 5109 (lw_Z below #[Value.ref b] s) (F0 m 1278 ls [])) : W p l e room_1 s m #[Value.ref b] below meth c H locs 78 5109 (lw_Z below #[Value.ref b] s) (F0 m 463 ls []) := by
  obtain ⟨hx, hb, hr, hml, hown, hts, hX, hbl, hlocks, hgv⟩ := id C0
  have hbA : ¬ (fun q : Nat => s.heap.size ≤ q) b := Nat.not_le.mpr hbl
  have hZ : xAnd p m c code 4 s _ lw_tbl R_law G (fun q : Nat => s.heap.size ≤ q) := ⟨⟨hx, hb, hml, hown, hts⟩, TBL_in, fun _ h => h, hm⟩
  obtain ⟨r, ws1, ws2, ⟨rm1, hf1, hl1, hz1, hk1⟩, hw1, ⟨rm2, hf2, hl2, hz2, hk2⟩, hI2⟩ := st_say G tx wx tm wm (xs (x3 + (1 : Int32)).toNatClampNeg) (xs (x3 + (2 : Int32)).toNatClampNeg) c1 ws hc1 hI
  obtain ⟨fx, hxx⟩ := hI.isW.x
  obtain ⟨fm, hmm⟩ := hw1.m
  refine lv_aload_n hx hb dL_law_463 rfl (lv_at hl 1 rfl) ?_
  refine lv_aload_n hx hb dL_law_464 rfl (lv_at hl 0 rfl) ?_
  refine lv_iload_n hx hb dL_law_465 rfl (lv_at hl 3 rfl) ?_
  refine lv_iconst (v := 1) hx hb dL_law_466 (by decide) ?_
  refine lv_iadd hx hb dL_law_467 ?_
  refine va_sld hx hb hX hbl hbA hS (xIn1 hx3 hj hL) dL_law_468 ?_
  refine lv_aload_n hx hb dL_law_469 rfl (lv_at hl 0 rfl) ?_
  refine lv_iload_n hx hb dL_law_470 rfl (lv_at hl 3 rfl) ?_
  refine lv_iconst (v := 2) hx hb dL_law_471 (by decide) ?_
  refine lv_iadd hx hb dL_law_472 ?_
  refine va_sld hx hb hX hbl hbA hS (xIn2 hx3 hj hL) dL_law_473 ?_
  refine xAllI (As := [.int (xs (x3 + (1 : Int32)).toNatClampNeg), .int (xs (x3 + (2 : Int32)).toNatClampNeg)]) (rest := []) hZ hk1 (hw1.fst.trans hI.isW.fst.symm) m459 m460 m461 m2 m462 2 ⟨rfl, hdX7_say⟩ ⟨Nat.le_trans (Nat.add_le_add_right hf1 1) (Nat.le_of_ble_eq_true rfl), Nat.le_trans (Nat.add_le_add_left hl1 _) (Nat.le_of_ble_eq_true rfl)⟩ hz1 hP hD hS 0 7 rfl rfl hxx rfl hl.1 rfl (Nat.le_of_ble_eq_true rfl) dL_law_474 ⟨Nat.le_of_ble_eq_true rfl, Nat.le_of_ble_eq_true rfl⟩ (fun H locs hP hD hS => ?_)
  refine lv_aload_n hx hb dL_law_477 rfl (lv_at hl 2 rfl) ?_
  refine lv_aload_n hx hb dL_law_478 rfl (lv_at hl 0 rfl) ?_
  refine lv_iload_n hx hb dL_law_479 rfl (lv_at hl 3 rfl) ?_
  refine lv_iconst (v := 1) hx hb dL_law_480 (by decide) ?_
  refine lv_iadd hx hb dL_law_481 ?_
  refine va_sld hx hb hX hbl hbA hS (xIn1 hx3 hj hL) dL_law_482 ?_
  refine lv_aload_n hx hb dL_law_483 rfl (lv_at hl 0 rfl) ?_
  refine lv_iload_n hx hb dL_law_484 rfl (lv_at hl 3 rfl) ?_
  refine lv_iconst (v := 2) hx hb dL_law_485 (by decide) ?_
  refine lv_iadd hx hb dL_law_486 ?_
  refine va_sld hx hb hX hbl hbA hS (xIn2 hx3 hj hL) dL_law_487 ?_
  refine xAllI (As := [.int (xs (x3 + (1 : Int32)).toNatClampNeg), .int (xs (x3 + (2 : Int32)).toNatClampNeg)]) (rest := [.int r]) hZ hk2 (hI2.isW.fst.trans hw1.fst.symm) m473 m474 m475 m5 m476 2 ⟨rfl, hdX8_say⟩ ⟨Nat.le_trans (Nat.add_le_add_right hf2 1) (Nat.le_of_ble_eq_true rfl), Nat.le_trans (Nat.add_le_add_left hl2 _) (Nat.le_of_ble_eq_true rfl)⟩ hz2 hP hD hS 63 8 rfl rfl hmm rfl hl.1 rfl (Nat.le_of_ble_eq_true rfl) dL_law_488 ⟨Nat.le_of_ble_eq_true rfl, Nat.le_of_ble_eq_true rfl⟩ (fun H locs hP hD hS => ?_)
  refine lv_icmp_eq (tgt := 1278) hx hb dL_law_491 (by decide) (fun _ => ?_) (fun h => absurd rfl h)
  exact kk ws2 H locs hI2 hP hD hS
set_option maxHeartbeats 4000000 in
set_option maxRecDepth 100000 in
theorem law_case10 {p : Program} {l : Launch} {e : Env} {s : State} {m : MethodId} {below : List Frame} {meth : Method} {c : Code} {b L : Nat} {xs : Nat → Int32} (hL : L ≤ 3072) (C0 : lw_At p s m meth c b L xs) {G : xG} {tx : Nat} {wx : Nat → Nat} {tm : Nat} {wm : Nat → Nat} (hm : Amb G (fun q : Nat => s.heap.size ≤ q) s s.heap) {j c1 : Nat} {x3 : Int32} (hx3 : x3 = nI j) (hj : j + 6 ≤ L) (hc1 : c1 < 512) {H : Heap} {locs : List Loc} {ls : Array Slot} {ws : va_W} (hI : LInv G tx wx tm wm c1 ws) (hP : va_P G.1 vwCl ws H) (hD : va_D (fun q : Nat => s.heap.size ≤ q) ws) (hS : va_S (fun q : Nat => s.heap.size ≤ q) s.heap H locs) (hl : lv_has ls 4 [(0, .ref b), (1, .ref tx), (2, .ref tm), (3, .int x3)]) (kk : ∀ (ws1 : va_W) (H1 : Heap) (locs1 : List Loc), LInv G tx wx tm wm (c1 + 1) ws1 → va_P G.1 vwCl ws1 H1 → va_D (fun q : Nat => s.heap.size ≤ q) ws1 → va_S (fun q : Nat => s.heap.size ≤ q) s.heap H1 locs1 → W p l e room_1 s m #[Value.ref b] below meth c H1 locs1 78 5109 (lw_Z below #[Value.ref b] s) (F0 m 1278 ls [])) : W p l e room_1 s m #[Value.ref b] below meth c H locs 78 5109 (lw_Z below #[Value.ref b] s) (F0 m 496 ls []) := by
  obtain ⟨hx, hb, hr, hml, hown, hts, hX, hbl, hlocks, hgv⟩ := id C0
  have hbA : ¬ (fun q : Nat => s.heap.size ≤ q) b := Nat.not_le.mpr hbl
  have hZ : xAnd p m c code 4 s _ lw_tbl R_law G (fun q : Nat => s.heap.size ≤ q) := ⟨⟨hx, hb, hml, hown, hts⟩, TBL_in, fun _ h => h, hm⟩
  obtain ⟨r, ws1, ws2, ⟨rm1, hf1, hl1, hz1, hk1⟩, hw1, ⟨rm2, hf2, hl2, hz2, hk2⟩, hI2⟩ := st_feed G tx wx tm wm ((((xs (x3 + (1 : Int32)).toNatClampNeg).toInt64) <<< ((32 : Int32).toInt64 &&& 63)) ||| (((xs (x3 + (2 : Int32)).toNatClampNeg).toInt64) &&& (4294967295 : Int64))) (xs (x3 + (3 : Int32)).toNatClampNeg) c1 ws hc1 hI
  obtain ⟨fx, hxx⟩ := hI.isW.x
  obtain ⟨fm, hmm⟩ := hw1.m
  refine lv_aload_n hx hb dL_law_496 rfl (lv_at hl 1 rfl) ?_
  refine lv_aload_n hx hb dL_law_497 rfl (lv_at hl 0 rfl) ?_
  refine lv_iload_n hx hb dL_law_498 rfl (lv_at hl 3 rfl) ?_
  refine lv_iconst (v := 1) hx hb dL_law_499 (by decide) ?_
  refine lv_iadd hx hb dL_law_500 ?_
  refine va_sld hx hb hX hbl hbA hS (xIn1 hx3 hj hL) dL_law_501 ?_
  refine lv_i2l hx hb dL_law_502 rfl ?_
  refine lv_bipush (v := 32) hx hb dL_law_503 (by decide) ?_
  refine lv_lshl hx hb dL_law_505 rfl ?_
  refine lv_aload_n hx hb dL_law_506 rfl (lv_at hl 0 rfl) ?_
  refine lv_iload_n hx hb dL_law_507 rfl (lv_at hl 3 rfl) ?_
  refine lv_iconst (v := 2) hx hb dL_law_508 (by decide) ?_
  refine lv_iadd hx hb dL_law_509 ?_
  refine va_sld hx hb hX hbl hbA hS (xIn2 hx3 hj hL) dL_law_510 ?_
  refine lv_i2l hx hb dL_law_511 rfl ?_
  refine lv_ldc2 (v := 4294967295) hx hb hown (hts _ (TBL_in _ m6)) dL_law_512 ?_
  refine lv_land hx hb dL_law_515 ?_
  refine lv_lor hx hb dL_law_516 ?_
  refine lv_aload_n hx hb dL_law_517 rfl (lv_at hl 0 rfl) ?_
  refine lv_iload_n hx hb dL_law_518 rfl (lv_at hl 3 rfl) ?_
  refine lv_iconst (v := 3) hx hb dL_law_519 (by decide) ?_
  refine lv_iadd hx hb dL_law_520 ?_
  refine va_sld hx hb hX hbl hbA hS (xIn3 hx3 hj hL) dL_law_521 ?_
  refine xAllI (As := [.long ((((xs (x3 + (1 : Int32)).toNatClampNeg).toInt64) <<< ((32 : Int32).toInt64 &&& 63)) ||| (((xs (x3 + (2 : Int32)).toNatClampNeg).toInt64) &&& (4294967295 : Int64))), .int (xs (x3 + (3 : Int32)).toNatClampNeg)]) (rest := []) hZ hk1 (hw1.fst.trans hI.isW.fst.symm) m483 m484 m485 m2 m486 2 ⟨rfl, hdX7_feed⟩ ⟨Nat.le_trans (Nat.add_le_add_right hf1 1) (Nat.le_of_ble_eq_true rfl), Nat.le_trans (Nat.add_le_add_left hl1 _) (Nat.le_of_ble_eq_true rfl)⟩ hz1 hP hD hS 0 7 rfl rfl hxx rfl hl.1 rfl (Nat.le_of_ble_eq_true rfl) dL_law_522 ⟨Nat.le_of_ble_eq_true rfl, Nat.le_of_ble_eq_true rfl⟩ (fun H locs hP hD hS => ?_)
  refine lv_aload_n hx hb dL_law_525 rfl (lv_at hl 2 rfl) ?_
  refine lv_aload_n hx hb dL_law_526 rfl (lv_at hl 0 rfl) ?_
  refine lv_iload_n hx hb dL_law_527 rfl (lv_at hl 3 rfl) ?_
  refine lv_iconst (v := 1) hx hb dL_law_528 (by decide) ?_
  refine lv_iadd hx hb dL_law_529 ?_
  refine va_sld hx hb hX hbl hbA hS (xIn1 hx3 hj hL) dL_law_530 ?_
  refine lv_i2l hx hb dL_law_531 rfl ?_
  refine lv_bipush (v := 32) hx hb dL_law_532 (by decide) ?_
  refine lv_lshl hx hb dL_law_534 rfl ?_
  refine lv_aload_n hx hb dL_law_535 rfl (lv_at hl 0 rfl) ?_
  refine lv_iload_n hx hb dL_law_536 rfl (lv_at hl 3 rfl) ?_
  refine lv_iconst (v := 2) hx hb dL_law_537 (by decide) ?_
  refine lv_iadd hx hb dL_law_538 ?_
  refine va_sld hx hb hX hbl hbA hS (xIn2 hx3 hj hL) dL_law_539 ?_
  refine lv_i2l hx hb dL_law_540 rfl ?_
  refine lv_ldc2 (v := 4294967295) hx hb hown (hts _ (TBL_in _ m6)) dL_law_541 ?_
  refine lv_land hx hb dL_law_544 ?_
  refine lv_lor hx hb dL_law_545 ?_
  refine lv_aload_n hx hb dL_law_546 rfl (lv_at hl 0 rfl) ?_
  refine lv_iload_n hx hb dL_law_547 rfl (lv_at hl 3 rfl) ?_
  refine lv_iconst (v := 3) hx hb dL_law_548 (by decide) ?_
  refine lv_iadd hx hb dL_law_549 ?_
  refine va_sld hx hb hX hbl hbA hS (xIn3 hx3 hj hL) dL_law_550 ?_
  refine xAllI (As := [.long ((((xs (x3 + (1 : Int32)).toNatClampNeg).toInt64) <<< ((32 : Int32).toInt64 &&& 63)) ||| (((xs (x3 + (2 : Int32)).toNatClampNeg).toInt64) &&& (4294967295 : Int64))), .int (xs (x3 + (3 : Int32)).toNatClampNeg)]) (rest := [.int r]) hZ hk2 (hI2.isW.fst.trans hw1.fst.symm) m487 m488 m489 m5 m490 2 ⟨rfl, hdX8_feed⟩ ⟨Nat.le_trans (Nat.add_le_add_right hf2 1) (Nat.le_of_ble_eq_true rfl), Nat.le_trans (Nat.add_le_add_left hl2 _) (Nat.le_of_ble_eq_true rfl)⟩ hz2 hP hD hS 63 8 rfl rfl hmm rfl hl.1 rfl (Nat.le_of_ble_eq_true rfl) dL_law_551 ⟨Nat.le_of_ble_eq_true rfl, Nat.le_of_ble_eq_true rfl⟩ (fun H locs hP hD hS => ?_)
  refine lv_icmp_eq (tgt := 1278) hx hb dL_law_554 (by decide) (fun _ => ?_) (fun h => absurd rfl h)
  exact kk ws2 H locs hI2 hP hD hS
set_option maxHeartbeats 4000000 in
set_option maxRecDepth 100000 in
theorem law_case11 {p : Program} {l : Launch} {e : Env} {s : State} {m : MethodId} {below : List Frame} {meth : Method} {c : Code} {b L : Nat} {xs : Nat → Int32} (hL : L ≤ 3072) (C0 : lw_At p s m meth c b L xs) {G : xG} {tx : Nat} {wx : Nat → Nat} {tm : Nat} {wm : Nat → Nat} (hm : Amb G (fun q : Nat => s.heap.size ≤ q) s s.heap) {j c1 : Nat} {x3 : Int32} (hx3 : x3 = nI j) (hj : j + 6 ≤ L) (hc1 : c1 < 512) {H : Heap} {locs : List Loc} {ls : Array Slot} {ws : va_W} (hI : LInv G tx wx tm wm c1 ws) (hP : va_P G.1 vwCl ws H) (hD : va_D (fun q : Nat => s.heap.size ≤ q) ws) (hS : va_S (fun q : Nat => s.heap.size ≤ q) s.heap H locs) (hl : lv_has ls 4 [(0, .ref b), (1, .ref tx), (2, .ref tm), (3, .int x3)]) (kk : ∀ (ws1 : va_W) (H1 : Heap) (locs1 : List Loc), LInv G tx wx tm wm (c1 + 1) ws1 → va_P G.1 vwCl ws1 H1 → va_D (fun q : Nat => s.heap.size ≤ q) ws1 → va_S (fun q : Nat => s.heap.size ≤ q) s.heap H1 locs1 → W p l e room_1 s m #[Value.ref b] below meth c H1 locs1 78 5109 (lw_Z below #[Value.ref b] s) (F0 m 1278 ls [])) : W p l e room_1 s m #[Value.ref b] below meth c H locs 78 5109 (lw_Z below #[Value.ref b] s) (F0 m 559 ls []) := by
  obtain ⟨hx, hb, hr, hml, hown, hts, hX, hbl, hlocks, hgv⟩ := id C0
  have hbA : ¬ (fun q : Nat => s.heap.size ≤ q) b := Nat.not_le.mpr hbl
  have hZ : xAnd p m c code 4 s _ lw_tbl R_law G (fun q : Nat => s.heap.size ≤ q) := ⟨⟨hx, hb, hml, hown, hts⟩, TBL_in, fun _ h => h, hm⟩
  obtain ⟨r, ws1, ws2, ⟨rm1, hf1, hl1, hz1, hk1⟩, hw1, ⟨rm2, hf2, hl2, hz2, hk2⟩, hI2⟩ := st_text G tx wx tm wm (xs (x3 + (1 : Int32)).toNatClampNeg) c1 ws hc1 hI
  obtain ⟨fx, hxx⟩ := hI.isW.x
  obtain ⟨fm, hmm⟩ := hw1.m
  refine lv_aload_n hx hb dL_law_559 rfl (lv_at hl 1 rfl) ?_
  refine lv_aload_n hx hb dL_law_560 rfl (lv_at hl 0 rfl) ?_
  refine lv_iload_n hx hb dL_law_561 rfl (lv_at hl 3 rfl) ?_
  refine lv_iconst (v := 1) hx hb dL_law_562 (by decide) ?_
  refine lv_iadd hx hb dL_law_563 ?_
  refine va_sld hx hb hX hbl hbA hS (xIn1 hx3 hj hL) dL_law_564 ?_
  refine xAllI (As := [.int (xs (x3 + (1 : Int32)).toNatClampNeg)]) (rest := []) hZ hk1 (hw1.fst.trans hI.isW.fst.symm) m492 m493 m494 m2 m495 1 ⟨rfl, hdX7_text⟩ ⟨Nat.le_trans (Nat.add_le_add_right hf1 1) (Nat.le_of_ble_eq_true rfl), Nat.le_trans (Nat.add_le_add_left hl1 _) (Nat.le_of_ble_eq_true rfl)⟩ hz1 hP hD hS 0 7 rfl rfl hxx rfl hl.1 rfl (Nat.le_of_ble_eq_true rfl) dL_law_565 ⟨Nat.le_of_ble_eq_true rfl, Nat.le_of_ble_eq_true rfl⟩ (fun H locs hP hD hS => ?_)
  refine lv_aload_n hx hb dL_law_568 rfl (lv_at hl 2 rfl) ?_
  refine lv_aload_n hx hb dL_law_569 rfl (lv_at hl 0 rfl) ?_
  refine lv_iload_n hx hb dL_law_570 rfl (lv_at hl 3 rfl) ?_
  refine lv_iconst (v := 1) hx hb dL_law_571 (by decide) ?_
  refine lv_iadd hx hb dL_law_572 ?_
  refine va_sld hx hb hX hbl hbA hS (xIn1 hx3 hj hL) dL_law_573 ?_
  refine xAllI (As := [.int (xs (x3 + (1 : Int32)).toNatClampNeg)]) (rest := [.int r]) hZ hk2 (hI2.isW.fst.trans hw1.fst.symm) m672 m673 m674 m5 m675 1 ⟨rfl, hdX8_text⟩ ⟨Nat.le_trans (Nat.add_le_add_right hf2 1) (Nat.le_of_ble_eq_true rfl), Nat.le_trans (Nat.add_le_add_left hl2 _) (Nat.le_of_ble_eq_true rfl)⟩ hz2 hP hD hS 63 8 rfl rfl hmm rfl hl.1 rfl (Nat.le_of_ble_eq_true rfl) dL_law_574 ⟨Nat.le_of_ble_eq_true rfl, Nat.le_of_ble_eq_true rfl⟩ (fun H locs hP hD hS => ?_)
  refine lv_icmp_eq (tgt := 1278) hx hb dL_law_577 (by decide) (fun _ => ?_) (fun h => absurd rfl h)
  exact kk ws2 H locs hI2 hP hD hS
set_option maxHeartbeats 4000000 in
set_option maxRecDepth 100000 in
theorem law_case12 {p : Program} {l : Launch} {e : Env} {s : State} {m : MethodId} {below : List Frame} {meth : Method} {c : Code} {b L : Nat} {xs : Nat → Int32} (hL : L ≤ 3072) (C0 : lw_At p s m meth c b L xs) {G : xG} {tx : Nat} {wx : Nat → Nat} {tm : Nat} {wm : Nat → Nat} (hm : Amb G (fun q : Nat => s.heap.size ≤ q) s s.heap) {j c1 : Nat} {x3 : Int32} (hx3 : x3 = nI j) (hj : j + 6 ≤ L) (hc1 : c1 < 512) {H : Heap} {locs : List Loc} {ls : Array Slot} {ws : va_W} (hI : LInv G tx wx tm wm c1 ws) (hP : va_P G.1 vwCl ws H) (hD : va_D (fun q : Nat => s.heap.size ≤ q) ws) (hS : va_S (fun q : Nat => s.heap.size ≤ q) s.heap H locs) (hl : lv_has ls 4 [(0, .ref b), (1, .ref tx), (2, .ref tm), (3, .int x3)]) (kk : ∀ (ws1 : va_W) (H1 : Heap) (locs1 : List Loc), LInv G tx wx tm wm (c1 + 1) ws1 → va_P G.1 vwCl ws1 H1 → va_D (fun q : Nat => s.heap.size ≤ q) ws1 → va_S (fun q : Nat => s.heap.size ≤ q) s.heap H1 locs1 → W p l e room_1 s m #[Value.ref b] below meth c H1 locs1 78 5109 (lw_Z below #[Value.ref b] s) (F0 m 1278 ls [])) : W p l e room_1 s m #[Value.ref b] below meth c H locs 78 5109 (lw_Z below #[Value.ref b] s) (F0 m 582 ls []) := by
  obtain ⟨hx, hb, hr, hml, hown, hts, hX, hbl, hlocks, hgv⟩ := id C0
  have hbA : ¬ (fun q : Nat => s.heap.size ≤ q) b := Nat.not_le.mpr hbl
  have hZ : xAnd p m c code 4 s _ lw_tbl R_law G (fun q : Nat => s.heap.size ≤ q) := ⟨⟨hx, hb, hml, hown, hts⟩, TBL_in, fun _ h => h, hm⟩
  obtain ⟨r, ws1, ws2, ⟨rm1, hf1, hl1, hz1, hk1⟩, hw1, ⟨rm2, hf2, hl2, hz2, hk2⟩, hI2⟩ := st_untell G tx wx tm wm (xs (x3 + (1 : Int32)).toNatClampNeg) c1 ws hc1 hI
  obtain ⟨fx, hxx⟩ := hI.isW.x
  obtain ⟨fm, hmm⟩ := hw1.m
  refine lv_aload_n hx hb dL_law_582 rfl (lv_at hl 1 rfl) ?_
  refine lv_aload_n hx hb dL_law_583 rfl (lv_at hl 0 rfl) ?_
  refine lv_iload_n hx hb dL_law_584 rfl (lv_at hl 3 rfl) ?_
  refine lv_iconst (v := 1) hx hb dL_law_585 (by decide) ?_
  refine lv_iadd hx hb dL_law_586 ?_
  refine va_sld hx hb hX hbl hbA hS (xIn1 hx3 hj hL) dL_law_587 ?_
  refine xAllI (As := [.int (xs (x3 + (1 : Int32)).toNatClampNeg)]) (rest := []) hZ hk1 (hw1.fst.trans hI.isW.fst.symm) m725 m726 m727 m2 m728 1 ⟨rfl, hdX7_untell⟩ ⟨Nat.le_trans (Nat.add_le_add_right hf1 1) (Nat.le_of_ble_eq_true rfl), Nat.le_trans (Nat.add_le_add_left hl1 _) (Nat.le_of_ble_eq_true rfl)⟩ hz1 hP hD hS 0 7 rfl rfl hxx rfl hl.1 rfl (Nat.le_of_ble_eq_true rfl) dL_law_588 ⟨Nat.le_of_ble_eq_true rfl, Nat.le_of_ble_eq_true rfl⟩ (fun H locs hP hD hS => ?_)
  refine lv_aload_n hx hb dL_law_591 rfl (lv_at hl 2 rfl) ?_
  refine lv_aload_n hx hb dL_law_592 rfl (lv_at hl 0 rfl) ?_
  refine lv_iload_n hx hb dL_law_593 rfl (lv_at hl 3 rfl) ?_
  refine lv_iconst (v := 1) hx hb dL_law_594 (by decide) ?_
  refine lv_iadd hx hb dL_law_595 ?_
  refine va_sld hx hb hX hbl hbA hS (xIn1 hx3 hj hL) dL_law_596 ?_
  refine xAllI (As := [.int (xs (x3 + (1 : Int32)).toNatClampNeg)]) (rest := [.int r]) hZ hk2 (hI2.isW.fst.trans hw1.fst.symm) m729 m730 m731 m5 m732 1 ⟨rfl, hdX8_untell⟩ ⟨Nat.le_trans (Nat.add_le_add_right hf2 1) (Nat.le_of_ble_eq_true rfl), Nat.le_trans (Nat.add_le_add_left hl2 _) (Nat.le_of_ble_eq_true rfl)⟩ hz2 hP hD hS 63 8 rfl rfl hmm rfl hl.1 rfl (Nat.le_of_ble_eq_true rfl) dL_law_597 ⟨Nat.le_of_ble_eq_true rfl, Nat.le_of_ble_eq_true rfl⟩ (fun H locs hP hD hS => ?_)
  refine lv_icmp_eq (tgt := 1278) hx hb dL_law_600 (by decide) (fun _ => ?_) (fun h => absurd rfl h)
  exact kk ws2 H locs hI2 hP hD hS
set_option maxHeartbeats 4000000 in
set_option maxRecDepth 100000 in
theorem law_case13 {p : Program} {l : Launch} {e : Env} {s : State} {m : MethodId} {below : List Frame} {meth : Method} {c : Code} {b L : Nat} {xs : Nat → Int32} (hL : L ≤ 3072) (C0 : lw_At p s m meth c b L xs) {G : xG} {tx : Nat} {wx : Nat → Nat} {tm : Nat} {wm : Nat → Nat} (hm : Amb G (fun q : Nat => s.heap.size ≤ q) s s.heap) {j c1 : Nat} {x3 : Int32} (hx3 : x3 = nI j) (hj : j + 6 ≤ L) (hc1 : c1 < 512) {H : Heap} {locs : List Loc} {ls : Array Slot} {ws : va_W} (hI : LInv G tx wx tm wm c1 ws) (hP : va_P G.1 vwCl ws H) (hD : va_D (fun q : Nat => s.heap.size ≤ q) ws) (hS : va_S (fun q : Nat => s.heap.size ≤ q) s.heap H locs) (hl : lv_has ls 4 [(0, .ref b), (1, .ref tx), (2, .ref tm), (3, .int x3)]) (kk : ∀ (ws1 : va_W) (H1 : Heap) (locs1 : List Loc), LInv G tx wx tm wm (c1 + 1) ws1 → va_P G.1 vwCl ws1 H1 → va_D (fun q : Nat => s.heap.size ≤ q) ws1 → va_S (fun q : Nat => s.heap.size ≤ q) s.heap H1 locs1 → W p l e room_1 s m #[Value.ref b] below meth c H1 locs1 78 5109 (lw_Z below #[Value.ref b] s) (F0 m 1278 ls [])) : W p l e room_1 s m #[Value.ref b] below meth c H locs 78 5109 (lw_Z below #[Value.ref b] s) (F0 m 605 ls []) := by
  obtain ⟨hx, hb, hr, hml, hown, hts, hX, hbl, hlocks, hgv⟩ := id C0
  have hbA : ¬ (fun q : Nat => s.heap.size ≤ q) b := Nat.not_le.mpr hbl
  have hZ : xAnd p m c code 4 s _ lw_tbl R_law G (fun q : Nat => s.heap.size ≤ q) := ⟨⟨hx, hb, hml, hown, hts⟩, TBL_in, fun _ h => h, hm⟩
  obtain ⟨r, ws1, ws2, ⟨rm1, hf1, hl1, hz1, hk1⟩, hw1, ⟨rm2, hf2, hl2, hz2, hk2⟩, hI2⟩ := st_law G tx wx tm wm (xs (x3 + (1 : Int32)).toNatClampNeg) (xs (x3 + (2 : Int32)).toNatClampNeg) (xs (x3 + (3 : Int32)).toNatClampNeg) (xs (x3 + (4 : Int32)).toNatClampNeg) c1 ws hc1 hI
  obtain ⟨fx, hxx⟩ := hI.isW.x
  obtain ⟨fm, hmm⟩ := hw1.m
  refine lv_aload_n hx hb dL_law_605 rfl (lv_at hl 1 rfl) ?_
  refine lv_aload_n hx hb dL_law_606 rfl (lv_at hl 0 rfl) ?_
  refine lv_iload_n hx hb dL_law_607 rfl (lv_at hl 3 rfl) ?_
  refine lv_iconst (v := 1) hx hb dL_law_608 (by decide) ?_
  refine lv_iadd hx hb dL_law_609 ?_
  refine va_sld hx hb hX hbl hbA hS (xIn1 hx3 hj hL) dL_law_610 ?_
  refine lv_aload_n hx hb dL_law_611 rfl (lv_at hl 0 rfl) ?_
  refine lv_iload_n hx hb dL_law_612 rfl (lv_at hl 3 rfl) ?_
  refine lv_iconst (v := 2) hx hb dL_law_613 (by decide) ?_
  refine lv_iadd hx hb dL_law_614 ?_
  refine va_sld hx hb hX hbl hbA hS (xIn2 hx3 hj hL) dL_law_615 ?_
  refine lv_aload_n hx hb dL_law_616 rfl (lv_at hl 0 rfl) ?_
  refine lv_iload_n hx hb dL_law_617 rfl (lv_at hl 3 rfl) ?_
  refine lv_iconst (v := 3) hx hb dL_law_618 (by decide) ?_
  refine lv_iadd hx hb dL_law_619 ?_
  refine va_sld hx hb hX hbl hbA hS (xIn3 hx3 hj hL) dL_law_620 ?_
  refine lv_aload_n hx hb dL_law_621 rfl (lv_at hl 0 rfl) ?_
  refine lv_iload_n hx hb dL_law_622 rfl (lv_at hl 3 rfl) ?_
  refine lv_iconst (v := 4) hx hb dL_law_623 (by decide) ?_
  refine lv_iadd hx hb dL_law_624 ?_
  refine va_sld hx hb hX hbl hbA hS (xIn4 hx3 hj hL) dL_law_625 ?_
  refine xAllI (As := [.int (xs (x3 + (1 : Int32)).toNatClampNeg), .int (xs (x3 + (2 : Int32)).toNatClampNeg), .int (xs (x3 + (3 : Int32)).toNatClampNeg), .int (xs (x3 + (4 : Int32)).toNatClampNeg)]) (rest := []) hZ hk1 (hw1.fst.trans hI.isW.fst.symm) m733 m734 m735 m2 m736 4 ⟨rfl, hdX7_law⟩ ⟨Nat.le_trans (Nat.add_le_add_right hf1 1) (Nat.le_of_ble_eq_true rfl), Nat.le_trans (Nat.add_le_add_left hl1 _) (Nat.le_of_ble_eq_true rfl)⟩ hz1 hP hD hS 0 7 rfl rfl hxx rfl hl.1 rfl (Nat.le_of_ble_eq_true rfl) dL_law_626 ⟨Nat.le_of_ble_eq_true rfl, Nat.le_of_ble_eq_true rfl⟩ (fun H locs hP hD hS => ?_)
  refine lv_aload_n hx hb dL_law_629 rfl (lv_at hl 2 rfl) ?_
  refine lv_aload_n hx hb dL_law_630 rfl (lv_at hl 0 rfl) ?_
  refine lv_iload_n hx hb dL_law_631 rfl (lv_at hl 3 rfl) ?_
  refine lv_iconst (v := 1) hx hb dL_law_632 (by decide) ?_
  refine lv_iadd hx hb dL_law_633 ?_
  refine va_sld hx hb hX hbl hbA hS (xIn1 hx3 hj hL) dL_law_634 ?_
  refine lv_aload_n hx hb dL_law_635 rfl (lv_at hl 0 rfl) ?_
  refine lv_iload_n hx hb dL_law_636 rfl (lv_at hl 3 rfl) ?_
  refine lv_iconst (v := 2) hx hb dL_law_637 (by decide) ?_
  refine lv_iadd hx hb dL_law_638 ?_
  refine va_sld hx hb hX hbl hbA hS (xIn2 hx3 hj hL) dL_law_639 ?_
  refine lv_aload_n hx hb dL_law_640 rfl (lv_at hl 0 rfl) ?_
  refine lv_iload_n hx hb dL_law_641 rfl (lv_at hl 3 rfl) ?_
  refine lv_iconst (v := 3) hx hb dL_law_642 (by decide) ?_
  refine lv_iadd hx hb dL_law_643 ?_
  refine va_sld hx hb hX hbl hbA hS (xIn3 hx3 hj hL) dL_law_644 ?_
  refine lv_aload_n hx hb dL_law_645 rfl (lv_at hl 0 rfl) ?_
  refine lv_iload_n hx hb dL_law_646 rfl (lv_at hl 3 rfl) ?_
  refine lv_iconst (v := 4) hx hb dL_law_647 (by decide) ?_
  refine lv_iadd hx hb dL_law_648 ?_
  refine va_sld hx hb hX hbl hbA hS (xIn4 hx3 hj hL) dL_law_649 ?_
  refine xAllI (As := [.int (xs (x3 + (1 : Int32)).toNatClampNeg), .int (xs (x3 + (2 : Int32)).toNatClampNeg), .int (xs (x3 + (3 : Int32)).toNatClampNeg), .int (xs (x3 + (4 : Int32)).toNatClampNeg)]) (rest := [.int r]) hZ hk2 (hI2.isW.fst.trans hw1.fst.symm) m737 m738 m739 m5 m740 4 ⟨rfl, hdX8_law⟩ ⟨Nat.le_trans (Nat.add_le_add_right hf2 1) (Nat.le_of_ble_eq_true rfl), Nat.le_trans (Nat.add_le_add_left hl2 _) (Nat.le_of_ble_eq_true rfl)⟩ hz2 hP hD hS 63 8 rfl rfl hmm rfl hl.1 rfl (Nat.le_of_ble_eq_true rfl) dL_law_650 ⟨Nat.le_of_ble_eq_true rfl, Nat.le_of_ble_eq_true rfl⟩ (fun H locs hP hD hS => ?_)
  refine lv_icmp_eq (tgt := 1278) hx hb dL_law_653 (by decide) (fun _ => ?_) (fun h => absurd rfl h)
  exact kk ws2 H locs hI2 hP hD hS
set_option maxHeartbeats 4000000 in
set_option maxRecDepth 100000 in
theorem law_case14 {p : Program} {l : Launch} {e : Env} {s : State} {m : MethodId} {below : List Frame} {meth : Method} {c : Code} {b L : Nat} {xs : Nat → Int32} (hL : L ≤ 3072) (C0 : lw_At p s m meth c b L xs) {G : xG} {tx : Nat} {wx : Nat → Nat} {tm : Nat} {wm : Nat → Nat} (hm : Amb G (fun q : Nat => s.heap.size ≤ q) s s.heap) {j c1 : Nat} {x3 : Int32} (hx3 : x3 = nI j) (hj : j + 6 ≤ L) (hc1 : c1 < 512) {H : Heap} {locs : List Loc} {ls : Array Slot} {ws : va_W} (hI : LInv G tx wx tm wm c1 ws) (hP : va_P G.1 vwCl ws H) (hD : va_D (fun q : Nat => s.heap.size ≤ q) ws) (hS : va_S (fun q : Nat => s.heap.size ≤ q) s.heap H locs) (hl : lv_has ls 4 [(0, .ref b), (1, .ref tx), (2, .ref tm), (3, .int x3)]) (kk : ∀ (ws1 : va_W) (H1 : Heap) (locs1 : List Loc), LInv G tx wx tm wm (c1 + 1) ws1 → va_P G.1 vwCl ws1 H1 → va_D (fun q : Nat => s.heap.size ≤ q) ws1 → va_S (fun q : Nat => s.heap.size ≤ q) s.heap H1 locs1 → W p l e room_1 s m #[Value.ref b] below meth c H1 locs1 78 5109 (lw_Z below #[Value.ref b] s) (F0 m 1278 ls [])) : W p l e room_1 s m #[Value.ref b] below meth c H locs 78 5109 (lw_Z below #[Value.ref b] s) (F0 m 658 ls []) := by
  obtain ⟨hx, hb, hr, hml, hown, hts, hX, hbl, hlocks, hgv⟩ := id C0
  have hbA : ¬ (fun q : Nat => s.heap.size ≤ q) b := Nat.not_le.mpr hbl
  have hZ : xAnd p m c code 4 s _ lw_tbl R_law G (fun q : Nat => s.heap.size ≤ q) := ⟨⟨hx, hb, hml, hown, hts⟩, TBL_in, fun _ h => h, hm⟩
  obtain ⟨r, ws1, ws2, ⟨rm1, hf1, hl1, hz1, hk1⟩, hw1, ⟨rm2, hf2, hl2, hz2, hk2⟩, hI2⟩ := st_loose G tx wx tm wm (xs (x3 + (1 : Int32)).toNatClampNeg) c1 ws hc1 hI
  obtain ⟨fx, hxx⟩ := hI.isW.x
  obtain ⟨fm, hmm⟩ := hw1.m
  refine lv_aload_n hx hb dL_law_658 rfl (lv_at hl 1 rfl) ?_
  refine lv_aload_n hx hb dL_law_659 rfl (lv_at hl 0 rfl) ?_
  refine lv_iload_n hx hb dL_law_660 rfl (lv_at hl 3 rfl) ?_
  refine lv_iconst (v := 1) hx hb dL_law_661 (by decide) ?_
  refine lv_iadd hx hb dL_law_662 ?_
  refine va_sld hx hb hX hbl hbA hS (xIn1 hx3 hj hL) dL_law_663 ?_
  refine xAllI (As := [.int (xs (x3 + (1 : Int32)).toNatClampNeg)]) (rest := []) hZ hk1 (hw1.fst.trans hI.isW.fst.symm) m741 m742 m743 m2 m744 1 ⟨rfl, hdX7_loose⟩ ⟨Nat.le_trans (Nat.add_le_add_right hf1 1) (Nat.le_of_ble_eq_true rfl), Nat.le_trans (Nat.add_le_add_left hl1 _) (Nat.le_of_ble_eq_true rfl)⟩ hz1 hP hD hS 0 7 rfl rfl hxx rfl hl.1 rfl (Nat.le_of_ble_eq_true rfl) dL_law_664 ⟨Nat.le_of_ble_eq_true rfl, Nat.le_of_ble_eq_true rfl⟩ (fun H locs hP hD hS => ?_)
  refine lv_aload_n hx hb dL_law_667 rfl (lv_at hl 2 rfl) ?_
  refine lv_aload_n hx hb dL_law_668 rfl (lv_at hl 0 rfl) ?_
  refine lv_iload_n hx hb dL_law_669 rfl (lv_at hl 3 rfl) ?_
  refine lv_iconst (v := 1) hx hb dL_law_670 (by decide) ?_
  refine lv_iadd hx hb dL_law_671 ?_
  refine va_sld hx hb hX hbl hbA hS (xIn1 hx3 hj hL) dL_law_672 ?_
  refine xAllI (As := [.int (xs (x3 + (1 : Int32)).toNatClampNeg)]) (rest := [.int r]) hZ hk2 (hI2.isW.fst.trans hw1.fst.symm) m754 m755 m756 m5 m757 1 ⟨rfl, hdX8_loose⟩ ⟨Nat.le_trans (Nat.add_le_add_right hf2 1) (Nat.le_of_ble_eq_true rfl), Nat.le_trans (Nat.add_le_add_left hl2 _) (Nat.le_of_ble_eq_true rfl)⟩ hz2 hP hD hS 63 8 rfl rfl hmm rfl hl.1 rfl (Nat.le_of_ble_eq_true rfl) dL_law_673 ⟨Nat.le_of_ble_eq_true rfl, Nat.le_of_ble_eq_true rfl⟩ (fun H locs hP hD hS => ?_)
  refine lv_icmp_eq (tgt := 1278) hx hb dL_law_676 (by decide) (fun _ => ?_) (fun h => absurd rfl h)
  exact kk ws2 H locs hI2 hP hD hS
set_option maxHeartbeats 4000000 in
set_option maxRecDepth 100000 in
theorem law_case15 {p : Program} {l : Launch} {e : Env} {s : State} {m : MethodId} {below : List Frame} {meth : Method} {c : Code} {b L : Nat} {xs : Nat → Int32} (hL : L ≤ 3072) (C0 : lw_At p s m meth c b L xs) {G : xG} {tx : Nat} {wx : Nat → Nat} {tm : Nat} {wm : Nat → Nat} (hm : Amb G (fun q : Nat => s.heap.size ≤ q) s s.heap) {j c1 : Nat} {x3 : Int32} (hx3 : x3 = nI j) (hj : j + 6 ≤ L) (hc1 : c1 < 512) {H : Heap} {locs : List Loc} {ls : Array Slot} {ws : va_W} (hI : LInv G tx wx tm wm c1 ws) (hP : va_P G.1 vwCl ws H) (hD : va_D (fun q : Nat => s.heap.size ≤ q) ws) (hS : va_S (fun q : Nat => s.heap.size ≤ q) s.heap H locs) (hl : lv_has ls 4 [(0, .ref b), (1, .ref tx), (2, .ref tm), (3, .int x3)]) (kk : ∀ (ws1 : va_W) (H1 : Heap) (locs1 : List Loc), LInv G tx wx tm wm (c1 + 1) ws1 → va_P G.1 vwCl ws1 H1 → va_D (fun q : Nat => s.heap.size ≤ q) ws1 → va_S (fun q : Nat => s.heap.size ≤ q) s.heap H1 locs1 → W p l e room_1 s m #[Value.ref b] below meth c H1 locs1 78 5109 (lw_Z below #[Value.ref b] s) (F0 m 1278 ls [])) : W p l e room_1 s m #[Value.ref b] below meth c H locs 78 5109 (lw_Z below #[Value.ref b] s) (F0 m 681 ls []) := by
  obtain ⟨hx, hb, hr, hml, hown, hts, hX, hbl, hlocks, hgv⟩ := id C0
  have hbA : ¬ (fun q : Nat => s.heap.size ≤ q) b := Nat.not_le.mpr hbl
  have hZ : xAnd p m c code 4 s _ lw_tbl R_law G (fun q : Nat => s.heap.size ≤ q) := ⟨⟨hx, hb, hml, hown, hts⟩, TBL_in, fun _ h => h, hm⟩
  obtain ⟨r, ws1, ws2, ⟨rm1, hf1, hl1, hz1, hk1⟩, hw1, ⟨rm2, hf2, hl2, hz2, hk2⟩, hI2⟩ := st_day G tx wx tm wm (xs (x3 + (1 : Int32)).toNatClampNeg) c1 ws hc1 hI
  obtain ⟨fx, hxx⟩ := hI.isW.x
  obtain ⟨fm, hmm⟩ := hw1.m
  refine lv_aload_n hx hb dL_law_681 rfl (lv_at hl 1 rfl) ?_
  refine lv_aload_n hx hb dL_law_682 rfl (lv_at hl 0 rfl) ?_
  refine lv_iload_n hx hb dL_law_683 rfl (lv_at hl 3 rfl) ?_
  refine lv_iconst (v := 1) hx hb dL_law_684 (by decide) ?_
  refine lv_iadd hx hb dL_law_685 ?_
  refine va_sld hx hb hX hbl hbA hS (xIn1 hx3 hj hL) dL_law_686 ?_
  refine xAllI (As := [.int (xs (x3 + (1 : Int32)).toNatClampNeg)]) (rest := []) hZ hk1 (hw1.fst.trans hI.isW.fst.symm) m767 m768 m769 m2 m770 1 ⟨rfl, hdX7_day⟩ ⟨Nat.le_trans (Nat.add_le_add_right hf1 1) (Nat.le_of_ble_eq_true rfl), Nat.le_trans (Nat.add_le_add_left hl1 _) (Nat.le_of_ble_eq_true rfl)⟩ hz1 hP hD hS 0 7 rfl rfl hxx rfl hl.1 rfl (Nat.le_of_ble_eq_true rfl) dL_law_687 ⟨Nat.le_of_ble_eq_true rfl, Nat.le_of_ble_eq_true rfl⟩ (fun H locs hP hD hS => ?_)
  refine lv_aload_n hx hb dL_law_690 rfl (lv_at hl 2 rfl) ?_
  refine lv_aload_n hx hb dL_law_691 rfl (lv_at hl 0 rfl) ?_
  refine lv_iload_n hx hb dL_law_692 rfl (lv_at hl 3 rfl) ?_
  refine lv_iconst (v := 1) hx hb dL_law_693 (by decide) ?_
  refine lv_iadd hx hb dL_law_694 ?_
  refine va_sld hx hb hX hbl hbA hS (xIn1 hx3 hj hL) dL_law_695 ?_
  refine xAllI (As := [.int (xs (x3 + (1 : Int32)).toNatClampNeg)]) (rest := [.int r]) hZ hk2 (hI2.isW.fst.trans hw1.fst.symm) m771 m772 m773 m5 m774 1 ⟨rfl, hdX8_day⟩ ⟨Nat.le_trans (Nat.add_le_add_right hf2 1) (Nat.le_of_ble_eq_true rfl), Nat.le_trans (Nat.add_le_add_left hl2 _) (Nat.le_of_ble_eq_true rfl)⟩ hz2 hP hD hS 63 8 rfl rfl hmm rfl hl.1 rfl (Nat.le_of_ble_eq_true rfl) dL_law_696 ⟨Nat.le_of_ble_eq_true rfl, Nat.le_of_ble_eq_true rfl⟩ (fun H locs hP hD hS => ?_)
  refine lv_icmp_eq (tgt := 1278) hx hb dL_law_699 (by decide) (fun _ => ?_) (fun h => absurd rfl h)
  exact kk ws2 H locs hI2 hP hD hS
set_option maxHeartbeats 4000000 in
set_option maxRecDepth 100000 in
theorem law_case16 {p : Program} {l : Launch} {e : Env} {s : State} {m : MethodId} {below : List Frame} {meth : Method} {c : Code} {b L : Nat} {xs : Nat → Int32} (hL : L ≤ 3072) (C0 : lw_At p s m meth c b L xs) {G : xG} {tx : Nat} {wx : Nat → Nat} {tm : Nat} {wm : Nat → Nat} (hm : Amb G (fun q : Nat => s.heap.size ≤ q) s s.heap) {j c1 : Nat} {x3 : Int32} (hx3 : x3 = nI j) (hj : j + 6 ≤ L) (hc1 : c1 < 512) {H : Heap} {locs : List Loc} {ls : Array Slot} {ws : va_W} (hI : LInv G tx wx tm wm c1 ws) (hP : va_P G.1 vwCl ws H) (hD : va_D (fun q : Nat => s.heap.size ≤ q) ws) (hS : va_S (fun q : Nat => s.heap.size ≤ q) s.heap H locs) (hl : lv_has ls 4 [(0, .ref b), (1, .ref tx), (2, .ref tm), (3, .int x3)]) (kk : ∀ (ws1 : va_W) (H1 : Heap) (locs1 : List Loc), LInv G tx wx tm wm (c1 + 1) ws1 → va_P G.1 vwCl ws1 H1 → va_D (fun q : Nat => s.heap.size ≤ q) ws1 → va_S (fun q : Nat => s.heap.size ≤ q) s.heap H1 locs1 → W p l e room_1 s m #[Value.ref b] below meth c H1 locs1 78 5109 (lw_Z below #[Value.ref b] s) (F0 m 1278 ls [])) : W p l e room_1 s m #[Value.ref b] below meth c H locs 78 5109 (lw_Z below #[Value.ref b] s) (F0 m 704 ls []) := by
  obtain ⟨hx, hb, hr, hml, hown, hts, hX, hbl, hlocks, hgv⟩ := id C0
  have hbA : ¬ (fun q : Nat => s.heap.size ≤ q) b := Nat.not_le.mpr hbl
  have hZ : xAnd p m c code 4 s _ lw_tbl R_law G (fun q : Nat => s.heap.size ≤ q) := ⟨⟨hx, hb, hml, hown, hts⟩, TBL_in, fun _ h => h, hm⟩
  obtain ⟨r, ws1, ws2, ⟨rm1, hf1, hl1, hz1, hk1⟩, hw1, ⟨rm2, hf2, hl2, hz2, hk2⟩, hI2⟩ := st_seed G tx wx tm wm (xs (x3 + (1 : Int32)).toNatClampNeg) c1 ws hc1 hI
  obtain ⟨fx, hxx⟩ := hI.isW.x
  obtain ⟨fm, hmm⟩ := hw1.m
  refine lv_aload_n hx hb dL_law_704 rfl (lv_at hl 1 rfl) ?_
  refine lv_aload_n hx hb dL_law_705 rfl (lv_at hl 0 rfl) ?_
  refine lv_iload_n hx hb dL_law_706 rfl (lv_at hl 3 rfl) ?_
  refine lv_iconst (v := 1) hx hb dL_law_707 (by decide) ?_
  refine lv_iadd hx hb dL_law_708 ?_
  refine va_sld hx hb hX hbl hbA hS (xIn1 hx3 hj hL) dL_law_709 ?_
  refine xAllI (As := [.int (xs (x3 + (1 : Int32)).toNatClampNeg)]) (rest := []) hZ hk1 (hw1.fst.trans hI.isW.fst.symm) m775 m776 m777 m2 m778 1 ⟨rfl, hdX7_seed⟩ ⟨Nat.le_trans (Nat.add_le_add_right hf1 1) (Nat.le_of_ble_eq_true rfl), Nat.le_trans (Nat.add_le_add_left hl1 _) (Nat.le_of_ble_eq_true rfl)⟩ hz1 hP hD hS 0 7 rfl rfl hxx rfl hl.1 rfl (Nat.le_of_ble_eq_true rfl) dL_law_710 ⟨Nat.le_of_ble_eq_true rfl, Nat.le_of_ble_eq_true rfl⟩ (fun H locs hP hD hS => ?_)
  refine lv_aload_n hx hb dL_law_713 rfl (lv_at hl 2 rfl) ?_
  refine lv_aload_n hx hb dL_law_714 rfl (lv_at hl 0 rfl) ?_
  refine lv_iload_n hx hb dL_law_715 rfl (lv_at hl 3 rfl) ?_
  refine lv_iconst (v := 1) hx hb dL_law_716 (by decide) ?_
  refine lv_iadd hx hb dL_law_717 ?_
  refine va_sld hx hb hX hbl hbA hS (xIn1 hx3 hj hL) dL_law_718 ?_
  refine xAllI (As := [.int (xs (x3 + (1 : Int32)).toNatClampNeg)]) (rest := [.int r]) hZ hk2 (hI2.isW.fst.trans hw1.fst.symm) m780 m781 m782 m5 m783 1 ⟨rfl, hdX8_seed⟩ ⟨Nat.le_trans (Nat.add_le_add_right hf2 1) (Nat.le_of_ble_eq_true rfl), Nat.le_trans (Nat.add_le_add_left hl2 _) (Nat.le_of_ble_eq_true rfl)⟩ hz2 hP hD hS 63 8 rfl rfl hmm rfl hl.1 rfl (Nat.le_of_ble_eq_true rfl) dL_law_719 ⟨Nat.le_of_ble_eq_true rfl, Nat.le_of_ble_eq_true rfl⟩ (fun H locs hP hD hS => ?_)
  refine lv_icmp_eq (tgt := 1278) hx hb dL_law_722 (by decide) (fun _ => ?_) (fun h => absurd rfl h)
  exact kk ws2 H locs hI2 hP hD hS
set_option maxHeartbeats 4000000 in
set_option maxRecDepth 100000 in
theorem law_case17 {p : Program} {l : Launch} {e : Env} {s : State} {m : MethodId} {below : List Frame} {meth : Method} {c : Code} {b L : Nat} {xs : Nat → Int32} (hL : L ≤ 3072) (C0 : lw_At p s m meth c b L xs) {G : xG} {tx : Nat} {wx : Nat → Nat} {tm : Nat} {wm : Nat → Nat} (hm : Amb G (fun q : Nat => s.heap.size ≤ q) s s.heap) {j c1 : Nat} {x3 : Int32} (hx3 : x3 = nI j) (hj : j + 6 ≤ L) (hc1 : c1 < 512) {H : Heap} {locs : List Loc} {ls : Array Slot} {ws : va_W} (hI : LInv G tx wx tm wm c1 ws) (hP : va_P G.1 vwCl ws H) (hD : va_D (fun q : Nat => s.heap.size ≤ q) ws) (hS : va_S (fun q : Nat => s.heap.size ≤ q) s.heap H locs) (hl : lv_has ls 4 [(0, .ref b), (1, .ref tx), (2, .ref tm), (3, .int x3)]) (kk : ∀ (ws1 : va_W) (H1 : Heap) (locs1 : List Loc), LInv G tx wx tm wm (c1 + 1) ws1 → va_P G.1 vwCl ws1 H1 → va_D (fun q : Nat => s.heap.size ≤ q) ws1 → va_S (fun q : Nat => s.heap.size ≤ q) s.heap H1 locs1 → W p l e room_1 s m #[Value.ref b] below meth c H1 locs1 78 5109 (lw_Z below #[Value.ref b] s) (F0 m 1278 ls [])) : W p l e room_1 s m #[Value.ref b] below meth c H locs 78 5109 (lw_Z below #[Value.ref b] s) (F0 m 727 ls []) := by
  obtain ⟨hx, hb, hr, hml, hown, hts, hX, hbl, hlocks, hgv⟩ := id C0
  have hbA : ¬ (fun q : Nat => s.heap.size ≤ q) b := Nat.not_le.mpr hbl
  have hZ : xAnd p m c code 4 s _ lw_tbl R_law G (fun q : Nat => s.heap.size ≤ q) := ⟨⟨hx, hb, hml, hown, hts⟩, TBL_in, fun _ h => h, hm⟩
  obtain ⟨r, ws1, ws2, ⟨rm1, hf1, hl1, hz1, hk1⟩, hw1, ⟨rm2, hf2, hl2, hz2, hk2⟩, hI2⟩ := st_vows G tx wx tm wm (xs (x3 + (1 : Int32)).toNatClampNeg) c1 ws hc1 hI
  obtain ⟨fx, hxx⟩ := hI.isW.x
  obtain ⟨fm, hmm⟩ := hw1.m
  refine lv_aload_n hx hb dL_law_727 rfl (lv_at hl 1 rfl) ?_
  refine lv_aload_n hx hb dL_law_728 rfl (lv_at hl 0 rfl) ?_
  refine lv_iload_n hx hb dL_law_729 rfl (lv_at hl 3 rfl) ?_
  refine lv_iconst (v := 1) hx hb dL_law_730 (by decide) ?_
  refine lv_iadd hx hb dL_law_731 ?_
  refine va_sld hx hb hX hbl hbA hS (xIn1 hx3 hj hL) dL_law_732 ?_
  refine xAllI (As := [.int (xs (x3 + (1 : Int32)).toNatClampNeg)]) (rest := []) hZ hk1 (hw1.fst.trans hI.isW.fst.symm) m784 m785 m786 m2 m787 1 ⟨rfl, hdX7_vows⟩ ⟨Nat.le_trans (Nat.add_le_add_right hf1 1) (Nat.le_of_ble_eq_true rfl), Nat.le_trans (Nat.add_le_add_left hl1 _) (Nat.le_of_ble_eq_true rfl)⟩ hz1 hP hD hS 0 7 rfl rfl hxx rfl hl.1 rfl (Nat.le_of_ble_eq_true rfl) dL_law_733 ⟨Nat.le_of_ble_eq_true rfl, Nat.le_of_ble_eq_true rfl⟩ (fun H locs hP hD hS => ?_)
  refine lv_aload_n hx hb dL_law_736 rfl (lv_at hl 2 rfl) ?_
  refine lv_aload_n hx hb dL_law_737 rfl (lv_at hl 0 rfl) ?_
  refine lv_iload_n hx hb dL_law_738 rfl (lv_at hl 3 rfl) ?_
  refine lv_iconst (v := 1) hx hb dL_law_739 (by decide) ?_
  refine lv_iadd hx hb dL_law_740 ?_
  refine va_sld hx hb hX hbl hbA hS (xIn1 hx3 hj hL) dL_law_741 ?_
  refine xAllI (As := [.int (xs (x3 + (1 : Int32)).toNatClampNeg)]) (rest := [.int r]) hZ hk2 (hI2.isW.fst.trans hw1.fst.symm) m801 m802 m803 m5 m804 1 ⟨rfl, hdX8_vows⟩ ⟨Nat.le_trans (Nat.add_le_add_right hf2 1) (Nat.le_of_ble_eq_true rfl), Nat.le_trans (Nat.add_le_add_left hl2 _) (Nat.le_of_ble_eq_true rfl)⟩ hz2 hP hD hS 63 8 rfl rfl hmm rfl hl.1 rfl (Nat.le_of_ble_eq_true rfl) dL_law_742 ⟨Nat.le_of_ble_eq_true rfl, Nat.le_of_ble_eq_true rfl⟩ (fun H locs hP hD hS => ?_)
  refine lv_icmp_eq (tgt := 1278) hx hb dL_law_745 (by decide) (fun _ => ?_) (fun h => absurd rfl h)
  exact kk ws2 H locs hI2 hP hD hS
set_option maxHeartbeats 4000000 in
set_option maxRecDepth 100000 in
theorem law_case18 {p : Program} {l : Launch} {e : Env} {s : State} {m : MethodId} {below : List Frame} {meth : Method} {c : Code} {b L : Nat} {xs : Nat → Int32} (hL : L ≤ 3072) (C0 : lw_At p s m meth c b L xs) {G : xG} {tx : Nat} {wx : Nat → Nat} {tm : Nat} {wm : Nat → Nat} (hm : Amb G (fun q : Nat => s.heap.size ≤ q) s s.heap) {j c1 : Nat} {x3 : Int32} (hx3 : x3 = nI j) (hj : j + 6 ≤ L) (hc1 : c1 < 512) {H : Heap} {locs : List Loc} {ls : Array Slot} {ws : va_W} (hI : LInv G tx wx tm wm c1 ws) (hP : va_P G.1 vwCl ws H) (hD : va_D (fun q : Nat => s.heap.size ≤ q) ws) (hS : va_S (fun q : Nat => s.heap.size ≤ q) s.heap H locs) (hl : lv_has ls 4 [(0, .ref b), (1, .ref tx), (2, .ref tm), (3, .int x3)]) (kk : ∀ (ws1 : va_W) (H1 : Heap) (locs1 : List Loc), LInv G tx wx tm wm (c1 + 1) ws1 → va_P G.1 vwCl ws1 H1 → va_D (fun q : Nat => s.heap.size ≤ q) ws1 → va_S (fun q : Nat => s.heap.size ≤ q) s.heap H1 locs1 → W p l e room_1 s m #[Value.ref b] below meth c H1 locs1 78 5109 (lw_Z below #[Value.ref b] s) (F0 m 1278 ls [])) : W p l e room_1 s m #[Value.ref b] below meth c H locs 78 5109 (lw_Z below #[Value.ref b] s) (F0 m 750 ls []) := by
  obtain ⟨hx, hb, hr, hml, hown, hts, hX, hbl, hlocks, hgv⟩ := id C0
  have hbA : ¬ (fun q : Nat => s.heap.size ≤ q) b := Nat.not_le.mpr hbl
  have hZ : xAnd p m c code 4 s _ lw_tbl R_law G (fun q : Nat => s.heap.size ≤ q) := ⟨⟨hx, hb, hml, hown, hts⟩, TBL_in, fun _ h => h, hm⟩
  obtain ⟨r, ws1, ws2, ⟨rm1, hf1, hl1, hz1, hk1⟩, hw1, ⟨rm2, hf2, hl2, hz2, hk2⟩, hI2⟩ := st_parts G tx wx tm wm (xs (x3 + (1 : Int32)).toNatClampNeg) c1 ws hc1 hI
  obtain ⟨fx, hxx⟩ := hI.isW.x
  obtain ⟨fm, hmm⟩ := hw1.m
  refine lv_aload_n hx hb dL_law_750 rfl (lv_at hl 1 rfl) ?_
  refine lv_aload_n hx hb dL_law_751 rfl (lv_at hl 0 rfl) ?_
  refine lv_iload_n hx hb dL_law_752 rfl (lv_at hl 3 rfl) ?_
  refine lv_iconst (v := 1) hx hb dL_law_753 (by decide) ?_
  refine lv_iadd hx hb dL_law_754 ?_
  refine va_sld hx hb hX hbl hbA hS (xIn1 hx3 hj hL) dL_law_755 ?_
  refine xAllI (As := [.int (xs (x3 + (1 : Int32)).toNatClampNeg)]) (rest := []) hZ hk1 (hw1.fst.trans hI.isW.fst.symm) m809 m810 m811 m2 m812 1 ⟨rfl, hdX7_parts⟩ ⟨Nat.le_trans (Nat.add_le_add_right hf1 1) (Nat.le_of_ble_eq_true rfl), Nat.le_trans (Nat.add_le_add_left hl1 _) (Nat.le_of_ble_eq_true rfl)⟩ hz1 hP hD hS 0 7 rfl rfl hxx rfl hl.1 rfl (Nat.le_of_ble_eq_true rfl) dL_law_756 ⟨Nat.le_of_ble_eq_true rfl, Nat.le_of_ble_eq_true rfl⟩ (fun H locs hP hD hS => ?_)
  refine lv_aload_n hx hb dL_law_759 rfl (lv_at hl 2 rfl) ?_
  refine lv_aload_n hx hb dL_law_760 rfl (lv_at hl 0 rfl) ?_
  refine lv_iload_n hx hb dL_law_761 rfl (lv_at hl 3 rfl) ?_
  refine lv_iconst (v := 1) hx hb dL_law_762 (by decide) ?_
  refine lv_iadd hx hb dL_law_763 ?_
  refine va_sld hx hb hX hbl hbA hS (xIn1 hx3 hj hL) dL_law_764 ?_
  refine xAllI (As := [.int (xs (x3 + (1 : Int32)).toNatClampNeg)]) (rest := [.int r]) hZ hk2 (hI2.isW.fst.trans hw1.fst.symm) m817 m818 m819 m5 m820 1 ⟨rfl, hdX8_parts⟩ ⟨Nat.le_trans (Nat.add_le_add_right hf2 1) (Nat.le_of_ble_eq_true rfl), Nat.le_trans (Nat.add_le_add_left hl2 _) (Nat.le_of_ble_eq_true rfl)⟩ hz2 hP hD hS 63 8 rfl rfl hmm rfl hl.1 rfl (Nat.le_of_ble_eq_true rfl) dL_law_765 ⟨Nat.le_of_ble_eq_true rfl, Nat.le_of_ble_eq_true rfl⟩ (fun H locs hP hD hS => ?_)
  refine lv_icmp_eq (tgt := 1278) hx hb dL_law_768 (by decide) (fun _ => ?_) (fun h => absurd rfl h)
  exact kk ws2 H locs hI2 hP hD hS
set_option maxHeartbeats 4000000 in
set_option maxRecDepth 100000 in
theorem law_case19 {p : Program} {l : Launch} {e : Env} {s : State} {m : MethodId} {below : List Frame} {meth : Method} {c : Code} {b L : Nat} {xs : Nat → Int32} (hL : L ≤ 3072) (C0 : lw_At p s m meth c b L xs) {G : xG} {tx : Nat} {wx : Nat → Nat} {tm : Nat} {wm : Nat → Nat} (hm : Amb G (fun q : Nat => s.heap.size ≤ q) s s.heap) {j c1 : Nat} {x3 : Int32} (hx3 : x3 = nI j) (hj : j + 6 ≤ L) (hc1 : c1 < 512) {H : Heap} {locs : List Loc} {ls : Array Slot} {ws : va_W} (hI : LInv G tx wx tm wm c1 ws) (hP : va_P G.1 vwCl ws H) (hD : va_D (fun q : Nat => s.heap.size ≤ q) ws) (hS : va_S (fun q : Nat => s.heap.size ≤ q) s.heap H locs) (hl : lv_has ls 4 [(0, .ref b), (1, .ref tx), (2, .ref tm), (3, .int x3)]) (kk : ∀ (ws1 : va_W) (H1 : Heap) (locs1 : List Loc), LInv G tx wx tm wm (c1 + 1) ws1 → va_P G.1 vwCl ws1 H1 → va_D (fun q : Nat => s.heap.size ≤ q) ws1 → va_S (fun q : Nat => s.heap.size ≤ q) s.heap H1 locs1 → W p l e room_1 s m #[Value.ref b] below meth c H1 locs1 78 5109 (lw_Z below #[Value.ref b] s) (F0 m 1278 ls [])) : W p l e room_1 s m #[Value.ref b] below meth c H locs 78 5109 (lw_Z below #[Value.ref b] s) (F0 m 773 ls []) := by
  obtain ⟨hx, hb, hr, hml, hown, hts, hX, hbl, hlocks, hgv⟩ := id C0
  have hbA : ¬ (fun q : Nat => s.heap.size ≤ q) b := Nat.not_le.mpr hbl
  have hZ : xAnd p m c code 4 s _ lw_tbl R_law G (fun q : Nat => s.heap.size ≤ q) := ⟨⟨hx, hb, hml, hown, hts⟩, TBL_in, fun _ h => h, hm⟩
  obtain ⟨r, ws1, ws2, ⟨rm1, hf1, hl1, hz1, hk1⟩, hw1, ⟨rm2, hf2, hl2, hz2, hk2⟩, hI2⟩ := st_sure G tx wx tm wm (xs (x3 + (1 : Int32)).toNatClampNeg) c1 ws hc1 hI
  obtain ⟨fx, hxx⟩ := hI.isW.x
  obtain ⟨fm, hmm⟩ := hw1.m
  refine lv_aload_n hx hb dL_law_773 rfl (lv_at hl 1 rfl) ?_
  refine lv_aload_n hx hb dL_law_774 rfl (lv_at hl 0 rfl) ?_
  refine lv_iload_n hx hb dL_law_775 rfl (lv_at hl 3 rfl) ?_
  refine lv_iconst (v := 1) hx hb dL_law_776 (by decide) ?_
  refine lv_iadd hx hb dL_law_777 ?_
  refine va_sld hx hb hX hbl hbA hS (xIn1 hx3 hj hL) dL_law_778 ?_
  refine xAllI (As := [.int (xs (x3 + (1 : Int32)).toNatClampNeg)]) (rest := []) hZ hk1 (hw1.fst.trans hI.isW.fst.symm) m825 m826 m827 m2 m828 1 ⟨rfl, hdX7_sure⟩ ⟨Nat.le_trans (Nat.add_le_add_right hf1 1) (Nat.le_of_ble_eq_true rfl), Nat.le_trans (Nat.add_le_add_left hl1 _) (Nat.le_of_ble_eq_true rfl)⟩ hz1 hP hD hS 0 7 rfl rfl hxx rfl hl.1 rfl (Nat.le_of_ble_eq_true rfl) dL_law_779 ⟨Nat.le_of_ble_eq_true rfl, Nat.le_of_ble_eq_true rfl⟩ (fun H locs hP hD hS => ?_)
  refine lv_aload_n hx hb dL_law_782 rfl (lv_at hl 2 rfl) ?_
  refine lv_aload_n hx hb dL_law_783 rfl (lv_at hl 0 rfl) ?_
  refine lv_iload_n hx hb dL_law_784 rfl (lv_at hl 3 rfl) ?_
  refine lv_iconst (v := 1) hx hb dL_law_785 (by decide) ?_
  refine lv_iadd hx hb dL_law_786 ?_
  refine va_sld hx hb hX hbl hbA hS (xIn1 hx3 hj hL) dL_law_787 ?_
  refine xAllI (As := [.int (xs (x3 + (1 : Int32)).toNatClampNeg)]) (rest := [.int r]) hZ hk2 (hI2.isW.fst.trans hw1.fst.symm) m829 m830 m831 m5 m832 1 ⟨rfl, hdX8_sure⟩ ⟨Nat.le_trans (Nat.add_le_add_right hf2 1) (Nat.le_of_ble_eq_true rfl), Nat.le_trans (Nat.add_le_add_left hl2 _) (Nat.le_of_ble_eq_true rfl)⟩ hz2 hP hD hS 63 8 rfl rfl hmm rfl hl.1 rfl (Nat.le_of_ble_eq_true rfl) dL_law_788 ⟨Nat.le_of_ble_eq_true rfl, Nat.le_of_ble_eq_true rfl⟩ (fun H locs hP hD hS => ?_)
  refine lv_icmp_eq (tgt := 1278) hx hb dL_law_791 (by decide) (fun _ => ?_) (fun h => absurd rfl h)
  exact kk ws2 H locs hI2 hP hD hS
set_option maxHeartbeats 4000000 in
set_option maxRecDepth 100000 in
theorem law_case20 {p : Program} {l : Launch} {e : Env} {s : State} {m : MethodId} {below : List Frame} {meth : Method} {c : Code} {b L : Nat} {xs : Nat → Int32} (hL : L ≤ 3072) (C0 : lw_At p s m meth c b L xs) {G : xG} {tx : Nat} {wx : Nat → Nat} {tm : Nat} {wm : Nat → Nat} (hm : Amb G (fun q : Nat => s.heap.size ≤ q) s s.heap) {j c1 : Nat} {x3 : Int32} (hx3 : x3 = nI j) (hj : j + 6 ≤ L) (hc1 : c1 < 512) {H : Heap} {locs : List Loc} {ls : Array Slot} {ws : va_W} (hI : LInv G tx wx tm wm c1 ws) (hP : va_P G.1 vwCl ws H) (hD : va_D (fun q : Nat => s.heap.size ≤ q) ws) (hS : va_S (fun q : Nat => s.heap.size ≤ q) s.heap H locs) (hl : lv_has ls 4 [(0, .ref b), (1, .ref tx), (2, .ref tm), (3, .int x3)]) (kk : ∀ (ws1 : va_W) (H1 : Heap) (locs1 : List Loc), LInv G tx wx tm wm (c1 + 1) ws1 → va_P G.1 vwCl ws1 H1 → va_D (fun q : Nat => s.heap.size ≤ q) ws1 → va_S (fun q : Nat => s.heap.size ≤ q) s.heap H1 locs1 → W p l e room_1 s m #[Value.ref b] below meth c H1 locs1 78 5109 (lw_Z below #[Value.ref b] s) (F0 m 1278 ls [])) : W p l e room_1 s m #[Value.ref b] below meth c H locs 78 5109 (lw_Z below #[Value.ref b] s) (F0 m 796 ls []) := by
  obtain ⟨hx, hb, hr, hml, hown, hts, hX, hbl, hlocks, hgv⟩ := id C0
  have hbA : ¬ (fun q : Nat => s.heap.size ≤ q) b := Nat.not_le.mpr hbl
  have hZ : xAnd p m c code 4 s _ lw_tbl R_law G (fun q : Nat => s.heap.size ≤ q) := ⟨⟨hx, hb, hml, hown, hts⟩, TBL_in, fun _ h => h, hm⟩
  obtain ⟨r, ws1, ws2, ⟨rm1, hf1, hl1, hz1, hk1⟩, hw1, ⟨rm2, hf2, hl2, hz2, hk2⟩, hI2⟩ := st_unsaid G tx wx tm wm (xs (x3 + (1 : Int32)).toNatClampNeg) c1 ws hc1 hI
  obtain ⟨fx, hxx⟩ := hI.isW.x
  obtain ⟨fm, hmm⟩ := hw1.m
  refine lv_aload_n hx hb dL_law_796 rfl (lv_at hl 1 rfl) ?_
  refine lv_aload_n hx hb dL_law_797 rfl (lv_at hl 0 rfl) ?_
  refine lv_iload_n hx hb dL_law_798 rfl (lv_at hl 3 rfl) ?_
  refine lv_iconst (v := 1) hx hb dL_law_799 (by decide) ?_
  refine lv_iadd hx hb dL_law_800 ?_
  refine va_sld hx hb hX hbl hbA hS (xIn1 hx3 hj hL) dL_law_801 ?_
  refine xAllL (As := [.int (xs (x3 + (1 : Int32)).toNatClampNeg)]) (rest := []) hZ hk1 (hw1.fst.trans hI.isW.fst.symm) m833 m834 m835 m2 m836 1 ⟨rfl, hdX7_unsaid⟩ ⟨Nat.le_trans (Nat.add_le_add_right hf1 1) (Nat.le_of_ble_eq_true rfl), Nat.le_trans (Nat.add_le_add_left hl1 _) (Nat.le_of_ble_eq_true rfl)⟩ hz1 hP hD hS 0 7 rfl rfl hxx rfl hl.1 rfl (Nat.le_of_ble_eq_true rfl) dL_law_802 ⟨Nat.le_of_ble_eq_true rfl, Nat.le_of_ble_eq_true rfl⟩ (fun H locs hP hD hS => ?_)
  refine lv_aload_n hx hb dL_law_805 rfl (lv_at hl 2 rfl) ?_
  refine lv_aload_n hx hb dL_law_806 rfl (lv_at hl 0 rfl) ?_
  refine lv_iload_n hx hb dL_law_807 rfl (lv_at hl 3 rfl) ?_
  refine lv_iconst (v := 1) hx hb dL_law_808 (by decide) ?_
  refine lv_iadd hx hb dL_law_809 ?_
  refine va_sld hx hb hX hbl hbA hS (xIn1 hx3 hj hL) dL_law_810 ?_
  refine xAllL (As := [.int (xs (x3 + (1 : Int32)).toNatClampNeg)]) (rest := [.long r]) hZ hk2 (hI2.isW.fst.trans hw1.fst.symm) m838 m839 m840 m5 m841 1 ⟨rfl, hdX8_unsaid⟩ ⟨Nat.le_trans (Nat.add_le_add_right hf2 1) (Nat.le_of_ble_eq_true rfl), Nat.le_trans (Nat.add_le_add_left hl2 _) (Nat.le_of_ble_eq_true rfl)⟩ hz2 hP hD hS 63 8 rfl rfl hmm rfl hl.1 rfl (Nat.le_of_ble_eq_true rfl) dL_law_811 ⟨Nat.le_of_ble_eq_true rfl, Nat.le_of_ble_eq_true rfl⟩ (fun H locs hP hD hS => ?_)
  refine W.lcmp hx hb dL_law_814 ?_
  refine lv_if_eq (tgt := 1278) hx hb dL_law_815 (by decide) (fun _ => ?_) (fun h => absurd (xCmp r) h)
  exact kk ws2 H locs hI2 hP hD hS
set_option maxHeartbeats 4000000 in
set_option maxRecDepth 100000 in
theorem law_case21 {p : Program} {l : Launch} {e : Env} {s : State} {m : MethodId} {below : List Frame} {meth : Method} {c : Code} {b L : Nat} {xs : Nat → Int32} (hL : L ≤ 3072) (C0 : lw_At p s m meth c b L xs) {G : xG} {tx : Nat} {wx : Nat → Nat} {tm : Nat} {wm : Nat → Nat} (hm : Amb G (fun q : Nat => s.heap.size ≤ q) s s.heap) {j c1 : Nat} {x3 : Int32} (hx3 : x3 = nI j) (hj : j + 6 ≤ L) (hc1 : c1 < 512) {H : Heap} {locs : List Loc} {ls : Array Slot} {ws : va_W} (hI : LInv G tx wx tm wm c1 ws) (hP : va_P G.1 vwCl ws H) (hD : va_D (fun q : Nat => s.heap.size ≤ q) ws) (hS : va_S (fun q : Nat => s.heap.size ≤ q) s.heap H locs) (hl : lv_has ls 4 [(0, .ref b), (1, .ref tx), (2, .ref tm), (3, .int x3)]) (kk : ∀ (ws1 : va_W) (H1 : Heap) (locs1 : List Loc), LInv G tx wx tm wm (c1 + 1) ws1 → va_P G.1 vwCl ws1 H1 → va_D (fun q : Nat => s.heap.size ≤ q) ws1 → va_S (fun q : Nat => s.heap.size ≤ q) s.heap H1 locs1 → W p l e room_1 s m #[Value.ref b] below meth c H1 locs1 78 5109 (lw_Z below #[Value.ref b] s) (F0 m 1278 ls [])) : W p l e room_1 s m #[Value.ref b] below meth c H locs 78 5109 (lw_Z below #[Value.ref b] s) (F0 m 820 ls []) := by
  obtain ⟨hx, hb, hr, hml, hown, hts, hX, hbl, hlocks, hgv⟩ := id C0
  have hbA : ¬ (fun q : Nat => s.heap.size ≤ q) b := Nat.not_le.mpr hbl
  have hZ : xAnd p m c code 4 s _ lw_tbl R_law G (fun q : Nat => s.heap.size ≤ q) := ⟨⟨hx, hb, hml, hown, hts⟩, TBL_in, fun _ h => h, hm⟩
  obtain ⟨r, ws1, ws2, ⟨rm1, hf1, hl1, hz1, hk1⟩, hw1, ⟨rm2, hf2, hl2, hz2, hk2⟩, hI2⟩ := st_freest G tx wx tm wm (xs (x3 + (1 : Int32)).toNatClampNeg) c1 ws hc1 hI
  obtain ⟨fx, hxx⟩ := hI.isW.x
  obtain ⟨fm, hmm⟩ := hw1.m
  refine lv_aload_n hx hb dL_law_820 rfl (lv_at hl 1 rfl) ?_
  refine lv_aload_n hx hb dL_law_821 rfl (lv_at hl 0 rfl) ?_
  refine lv_iload_n hx hb dL_law_822 rfl (lv_at hl 3 rfl) ?_
  refine lv_iconst (v := 1) hx hb dL_law_823 (by decide) ?_
  refine lv_iadd hx hb dL_law_824 ?_
  refine va_sld hx hb hX hbl hbA hS (xIn1 hx3 hj hL) dL_law_825 ?_
  refine xAllI (As := [.int (xs (x3 + (1 : Int32)).toNatClampNeg)]) (rest := []) hZ hk1 (hw1.fst.trans hI.isW.fst.symm) m842 m843 m844 m2 m845 1 ⟨rfl, hdX7_freest⟩ ⟨Nat.le_trans (Nat.add_le_add_right hf1 1) (Nat.le_of_ble_eq_true rfl), Nat.le_trans (Nat.add_le_add_left hl1 _) (Nat.le_of_ble_eq_true rfl)⟩ hz1 hP hD hS 0 7 rfl rfl hxx rfl hl.1 rfl (Nat.le_of_ble_eq_true rfl) dL_law_826 ⟨Nat.le_of_ble_eq_true rfl, Nat.le_of_ble_eq_true rfl⟩ (fun H locs hP hD hS => ?_)
  refine lv_aload_n hx hb dL_law_829 rfl (lv_at hl 2 rfl) ?_
  refine lv_aload_n hx hb dL_law_830 rfl (lv_at hl 0 rfl) ?_
  refine lv_iload_n hx hb dL_law_831 rfl (lv_at hl 3 rfl) ?_
  refine lv_iconst (v := 1) hx hb dL_law_832 (by decide) ?_
  refine lv_iadd hx hb dL_law_833 ?_
  refine va_sld hx hb hX hbl hbA hS (xIn1 hx3 hj hL) dL_law_834 ?_
  refine xAllI (As := [.int (xs (x3 + (1 : Int32)).toNatClampNeg)]) (rest := [.int r]) hZ hk2 (hI2.isW.fst.trans hw1.fst.symm) m850 m851 m852 m5 m853 1 ⟨rfl, hdX8_freest⟩ ⟨Nat.le_trans (Nat.add_le_add_right hf2 1) (Nat.le_of_ble_eq_true rfl), Nat.le_trans (Nat.add_le_add_left hl2 _) (Nat.le_of_ble_eq_true rfl)⟩ hz2 hP hD hS 63 8 rfl rfl hmm rfl hl.1 rfl (Nat.le_of_ble_eq_true rfl) dL_law_835 ⟨Nat.le_of_ble_eq_true rfl, Nat.le_of_ble_eq_true rfl⟩ (fun H locs hP hD hS => ?_)
  refine lv_icmp_eq (tgt := 1278) hx hb dL_law_838 (by decide) (fun _ => ?_) (fun h => absurd rfl h)
  exact kk ws2 H locs hI2 hP hD hS
set_option maxHeartbeats 4000000 in
set_option maxRecDepth 100000 in
theorem law_case22 {p : Program} {l : Launch} {e : Env} {s : State} {m : MethodId} {below : List Frame} {meth : Method} {c : Code} {b L : Nat} {xs : Nat → Int32} (hL : L ≤ 3072) (C0 : lw_At p s m meth c b L xs) {G : xG} {tx : Nat} {wx : Nat → Nat} {tm : Nat} {wm : Nat → Nat} (hm : Amb G (fun q : Nat => s.heap.size ≤ q) s s.heap) {j c1 : Nat} {x3 : Int32} (hx3 : x3 = nI j) (hj : j + 6 ≤ L) (hc1 : c1 < 512) {H : Heap} {locs : List Loc} {ls : Array Slot} {ws : va_W} (hI : LInv G tx wx tm wm c1 ws) (hP : va_P G.1 vwCl ws H) (hD : va_D (fun q : Nat => s.heap.size ≤ q) ws) (hS : va_S (fun q : Nat => s.heap.size ≤ q) s.heap H locs) (hl : lv_has ls 4 [(0, .ref b), (1, .ref tx), (2, .ref tm), (3, .int x3)]) (kk : ∀ (ws1 : va_W) (H1 : Heap) (locs1 : List Loc), LInv G tx wx tm wm (c1 + 1) ws1 → va_P G.1 vwCl ws1 H1 → va_D (fun q : Nat => s.heap.size ≤ q) ws1 → va_S (fun q : Nat => s.heap.size ≤ q) s.heap H1 locs1 → W p l e room_1 s m #[Value.ref b] below meth c H1 locs1 78 5109 (lw_Z below #[Value.ref b] s) (F0 m 1278 ls [])) : W p l e room_1 s m #[Value.ref b] below meth c H locs 78 5109 (lw_Z below #[Value.ref b] s) (F0 m 843 ls []) := by
  obtain ⟨hx, hb, hr, hml, hown, hts, hX, hbl, hlocks, hgv⟩ := id C0
  have hbA : ¬ (fun q : Nat => s.heap.size ≤ q) b := Nat.not_le.mpr hbl
  have hZ : xAnd p m c code 4 s _ lw_tbl R_law G (fun q : Nat => s.heap.size ≤ q) := ⟨⟨hx, hb, hml, hown, hts⟩, TBL_in, fun _ h => h, hm⟩
  obtain ⟨r, ws1, ws2, ⟨rm1, hf1, hl1, hz1, hk1⟩, hw1, ⟨rm2, hf2, hl2, hz2, hk2⟩, hI2⟩ := st_odds G tx wx tm wm (xs (x3 + (1 : Int32)).toNatClampNeg) (xs (x3 + (2 : Int32)).toNatClampNeg) c1 ws hc1 hI
  obtain ⟨fx, hxx⟩ := hI.isW.x
  obtain ⟨fm, hmm⟩ := hw1.m
  refine lv_aload_n hx hb dL_law_843 rfl (lv_at hl 1 rfl) ?_
  refine lv_aload_n hx hb dL_law_844 rfl (lv_at hl 0 rfl) ?_
  refine lv_iload_n hx hb dL_law_845 rfl (lv_at hl 3 rfl) ?_
  refine lv_iconst (v := 1) hx hb dL_law_846 (by decide) ?_
  refine lv_iadd hx hb dL_law_847 ?_
  refine va_sld hx hb hX hbl hbA hS (xIn1 hx3 hj hL) dL_law_848 ?_
  refine lv_aload_n hx hb dL_law_849 rfl (lv_at hl 0 rfl) ?_
  refine lv_iload_n hx hb dL_law_850 rfl (lv_at hl 3 rfl) ?_
  refine lv_iconst (v := 2) hx hb dL_law_851 (by decide) ?_
  refine lv_iadd hx hb dL_law_852 ?_
  refine va_sld hx hb hX hbl hbA hS (xIn2 hx3 hj hL) dL_law_853 ?_
  refine xAllI (As := [.int (xs (x3 + (1 : Int32)).toNatClampNeg), .int (xs (x3 + (2 : Int32)).toNatClampNeg)]) (rest := []) hZ hk1 (hw1.fst.trans hI.isW.fst.symm) m858 m859 m860 m2 m861 2 ⟨rfl, hdX7_odds⟩ ⟨Nat.le_trans (Nat.add_le_add_right hf1 1) (Nat.le_of_ble_eq_true rfl), Nat.le_trans (Nat.add_le_add_left hl1 _) (Nat.le_of_ble_eq_true rfl)⟩ hz1 hP hD hS 0 7 rfl rfl hxx rfl hl.1 rfl (Nat.le_of_ble_eq_true rfl) dL_law_854 ⟨Nat.le_of_ble_eq_true rfl, Nat.le_of_ble_eq_true rfl⟩ (fun H locs hP hD hS => ?_)
  refine lv_aload_n hx hb dL_law_857 rfl (lv_at hl 2 rfl) ?_
  refine lv_aload_n hx hb dL_law_858 rfl (lv_at hl 0 rfl) ?_
  refine lv_iload_n hx hb dL_law_859 rfl (lv_at hl 3 rfl) ?_
  refine lv_iconst (v := 1) hx hb dL_law_860 (by decide) ?_
  refine lv_iadd hx hb dL_law_861 ?_
  refine va_sld hx hb hX hbl hbA hS (xIn1 hx3 hj hL) dL_law_862 ?_
  refine lv_aload_n hx hb dL_law_863 rfl (lv_at hl 0 rfl) ?_
  refine lv_iload_n hx hb dL_law_864 rfl (lv_at hl 3 rfl) ?_
  refine lv_iconst (v := 2) hx hb dL_law_865 (by decide) ?_
  refine lv_iadd hx hb dL_law_866 ?_
  refine va_sld hx hb hX hbl hbA hS (xIn2 hx3 hj hL) dL_law_867 ?_
  refine xAllI (As := [.int (xs (x3 + (1 : Int32)).toNatClampNeg), .int (xs (x3 + (2 : Int32)).toNatClampNeg)]) (rest := [.int r]) hZ hk2 (hI2.isW.fst.trans hw1.fst.symm) m865 m866 m867 m5 m868 2 ⟨rfl, hdX8_odds⟩ ⟨Nat.le_trans (Nat.add_le_add_right hf2 1) (Nat.le_of_ble_eq_true rfl), Nat.le_trans (Nat.add_le_add_left hl2 _) (Nat.le_of_ble_eq_true rfl)⟩ hz2 hP hD hS 63 8 rfl rfl hmm rfl hl.1 rfl (Nat.le_of_ble_eq_true rfl) dL_law_868 ⟨Nat.le_of_ble_eq_true rfl, Nat.le_of_ble_eq_true rfl⟩ (fun H locs hP hD hS => ?_)
  refine lv_icmp_eq (tgt := 1278) hx hb dL_law_871 (by decide) (fun _ => ?_) (fun h => absurd rfl h)
  exact kk ws2 H locs hI2 hP hD hS
set_option maxHeartbeats 4000000 in
set_option maxRecDepth 100000 in
theorem law_case23 {p : Program} {l : Launch} {e : Env} {s : State} {m : MethodId} {below : List Frame} {meth : Method} {c : Code} {b L : Nat} {xs : Nat → Int32} (hL : L ≤ 3072) (C0 : lw_At p s m meth c b L xs) {G : xG} {tx : Nat} {wx : Nat → Nat} {tm : Nat} {wm : Nat → Nat} (hm : Amb G (fun q : Nat => s.heap.size ≤ q) s s.heap) {j c1 : Nat} {x3 : Int32} (hx3 : x3 = nI j) (hj : j + 6 ≤ L) (hc1 : c1 < 512) {H : Heap} {locs : List Loc} {ls : Array Slot} {ws : va_W} (hI : LInv G tx wx tm wm c1 ws) (hP : va_P G.1 vwCl ws H) (hD : va_D (fun q : Nat => s.heap.size ≤ q) ws) (hS : va_S (fun q : Nat => s.heap.size ≤ q) s.heap H locs) (hl : lv_has ls 4 [(0, .ref b), (1, .ref tx), (2, .ref tm), (3, .int x3)]) (kk : ∀ (ws1 : va_W) (H1 : Heap) (locs1 : List Loc), LInv G tx wx tm wm (c1 + 1) ws1 → va_P G.1 vwCl ws1 H1 → va_D (fun q : Nat => s.heap.size ≤ q) ws1 → va_S (fun q : Nat => s.heap.size ≤ q) s.heap H1 locs1 → W p l e room_1 s m #[Value.ref b] below meth c H1 locs1 78 5109 (lw_Z below #[Value.ref b] s) (F0 m 1278 ls [])) : W p l e room_1 s m #[Value.ref b] below meth c H locs 78 5109 (lw_Z below #[Value.ref b] s) (F0 m 876 ls []) := by
  obtain ⟨hx, hb, hr, hml, hown, hts, hX, hbl, hlocks, hgv⟩ := id C0
  have hbA : ¬ (fun q : Nat => s.heap.size ≤ q) b := Nat.not_le.mpr hbl
  have hZ : xAnd p m c code 4 s _ lw_tbl R_law G (fun q : Nat => s.heap.size ≤ q) := ⟨⟨hx, hb, hml, hown, hts⟩, TBL_in, fun _ h => h, hm⟩
  obtain ⟨r, ws1, ws2, ⟨rm1, hf1, hl1, hz1, hk1⟩, hw1, ⟨rm2, hf2, hl2, hz2, hk2⟩, hI2⟩ := st_fits G tx wx tm wm (xs (x3 + (1 : Int32)).toNatClampNeg) (xs (x3 + (2 : Int32)).toNatClampNeg) c1 ws hc1 hI
  obtain ⟨fx, hxx⟩ := hI.isW.x
  obtain ⟨fm, hmm⟩ := hw1.m
  refine lv_aload_n hx hb dL_law_876 rfl (lv_at hl 1 rfl) ?_
  refine lv_aload_n hx hb dL_law_877 rfl (lv_at hl 0 rfl) ?_
  refine lv_iload_n hx hb dL_law_878 rfl (lv_at hl 3 rfl) ?_
  refine lv_iconst (v := 1) hx hb dL_law_879 (by decide) ?_
  refine lv_iadd hx hb dL_law_880 ?_
  refine va_sld hx hb hX hbl hbA hS (xIn1 hx3 hj hL) dL_law_881 ?_
  refine lv_aload_n hx hb dL_law_882 rfl (lv_at hl 0 rfl) ?_
  refine lv_iload_n hx hb dL_law_883 rfl (lv_at hl 3 rfl) ?_
  refine lv_iconst (v := 2) hx hb dL_law_884 (by decide) ?_
  refine lv_iadd hx hb dL_law_885 ?_
  refine va_sld hx hb hX hbl hbA hS (xIn2 hx3 hj hL) dL_law_886 ?_
  refine xAllI (As := [.int (xs (x3 + (1 : Int32)).toNatClampNeg), .int (xs (x3 + (2 : Int32)).toNatClampNeg)]) (rest := []) hZ hk1 (hw1.fst.trans hI.isW.fst.symm) m869 m870 m871 m2 m872 2 ⟨rfl, hdX7_fits⟩ ⟨Nat.le_trans (Nat.add_le_add_right hf1 1) (Nat.le_of_ble_eq_true rfl), Nat.le_trans (Nat.add_le_add_left hl1 _) (Nat.le_of_ble_eq_true rfl)⟩ hz1 hP hD hS 0 7 rfl rfl hxx rfl hl.1 rfl (Nat.le_of_ble_eq_true rfl) dL_law_887 ⟨Nat.le_of_ble_eq_true rfl, Nat.le_of_ble_eq_true rfl⟩ (fun H locs hP hD hS => ?_)
  refine lv_aload_n hx hb dL_law_890 rfl (lv_at hl 2 rfl) ?_
  refine lv_aload_n hx hb dL_law_891 rfl (lv_at hl 0 rfl) ?_
  refine lv_iload_n hx hb dL_law_892 rfl (lv_at hl 3 rfl) ?_
  refine lv_iconst (v := 1) hx hb dL_law_893 (by decide) ?_
  refine lv_iadd hx hb dL_law_894 ?_
  refine va_sld hx hb hX hbl hbA hS (xIn1 hx3 hj hL) dL_law_895 ?_
  refine lv_aload_n hx hb dL_law_896 rfl (lv_at hl 0 rfl) ?_
  refine lv_iload_n hx hb dL_law_897 rfl (lv_at hl 3 rfl) ?_
  refine lv_iconst (v := 2) hx hb dL_law_898 (by decide) ?_
  refine lv_iadd hx hb dL_law_899 ?_
  refine va_sld hx hb hX hbl hbA hS (xIn2 hx3 hj hL) dL_law_900 ?_
  refine xAllI (As := [.int (xs (x3 + (1 : Int32)).toNatClampNeg), .int (xs (x3 + (2 : Int32)).toNatClampNeg)]) (rest := [.int r]) hZ hk2 (hI2.isW.fst.trans hw1.fst.symm) m895 m896 m897 m5 m898 2 ⟨rfl, hdX8_fits⟩ ⟨Nat.le_trans (Nat.add_le_add_right hf2 1) (Nat.le_of_ble_eq_true rfl), Nat.le_trans (Nat.add_le_add_left hl2 _) (Nat.le_of_ble_eq_true rfl)⟩ hz2 hP hD hS 63 8 rfl rfl hmm rfl hl.1 rfl (Nat.le_of_ble_eq_true rfl) dL_law_901 ⟨Nat.le_of_ble_eq_true rfl, Nat.le_of_ble_eq_true rfl⟩ (fun H locs hP hD hS => ?_)
  refine lv_icmp_eq (tgt := 1278) hx hb dL_law_904 (by decide) (fun _ => ?_) (fun h => absurd rfl h)
  exact kk ws2 H locs hI2 hP hD hS
set_option maxHeartbeats 4000000 in
set_option maxRecDepth 100000 in
theorem law_case24 {p : Program} {l : Launch} {e : Env} {s : State} {m : MethodId} {below : List Frame} {meth : Method} {c : Code} {b L : Nat} {xs : Nat → Int32} (hL : L ≤ 3072) (C0 : lw_At p s m meth c b L xs) {G : xG} {tx : Nat} {wx : Nat → Nat} {tm : Nat} {wm : Nat → Nat} (hm : Amb G (fun q : Nat => s.heap.size ≤ q) s s.heap) {j c1 : Nat} {x3 : Int32} (hx3 : x3 = nI j) (hj : j + 6 ≤ L) (hc1 : c1 < 512) {H : Heap} {locs : List Loc} {ls : Array Slot} {ws : va_W} (hI : LInv G tx wx tm wm c1 ws) (hP : va_P G.1 vwCl ws H) (hD : va_D (fun q : Nat => s.heap.size ≤ q) ws) (hS : va_S (fun q : Nat => s.heap.size ≤ q) s.heap H locs) (hl : lv_has ls 4 [(0, .ref b), (1, .ref tx), (2, .ref tm), (3, .int x3)]) (kk : ∀ (ws1 : va_W) (H1 : Heap) (locs1 : List Loc), LInv G tx wx tm wm (c1 + 1) ws1 → va_P G.1 vwCl ws1 H1 → va_D (fun q : Nat => s.heap.size ≤ q) ws1 → va_S (fun q : Nat => s.heap.size ≤ q) s.heap H1 locs1 → W p l e room_1 s m #[Value.ref b] below meth c H1 locs1 78 5109 (lw_Z below #[Value.ref b] s) (F0 m 1278 ls [])) : W p l e room_1 s m #[Value.ref b] below meth c H locs 78 5109 (lw_Z below #[Value.ref b] s) (F0 m 909 ls []) := by
  obtain ⟨hx, hb, hr, hml, hown, hts, hX, hbl, hlocks, hgv⟩ := id C0
  have hbA : ¬ (fun q : Nat => s.heap.size ≤ q) b := Nat.not_le.mpr hbl
  have hZ : xAnd p m c code 4 s _ lw_tbl R_law G (fun q : Nat => s.heap.size ≤ q) := ⟨⟨hx, hb, hml, hown, hts⟩, TBL_in, fun _ h => h, hm⟩
  obtain ⟨r, ws1, ws2, ⟨rm1, hf1, hl1, hz1, hk1⟩, hw1, ⟨rm2, hf2, hl2, hz2, hk2⟩, hI2⟩ := st_voice G tx wx tm wm (xs (x3 + (1 : Int32)).toNatClampNeg) (xs (x3 + (2 : Int32)).toNatClampNeg) (xs (x3 + (3 : Int32)).toNatClampNeg) c1 ws hc1 hI
  obtain ⟨fx, hxx⟩ := hI.isW.x
  obtain ⟨fm, hmm⟩ := hw1.m
  refine lv_aload_n hx hb dL_law_909 rfl (lv_at hl 1 rfl) ?_
  refine lv_aload_n hx hb dL_law_910 rfl (lv_at hl 0 rfl) ?_
  refine lv_iload_n hx hb dL_law_911 rfl (lv_at hl 3 rfl) ?_
  refine lv_iconst (v := 1) hx hb dL_law_912 (by decide) ?_
  refine lv_iadd hx hb dL_law_913 ?_
  refine va_sld hx hb hX hbl hbA hS (xIn1 hx3 hj hL) dL_law_914 ?_
  refine lv_aload_n hx hb dL_law_915 rfl (lv_at hl 0 rfl) ?_
  refine lv_iload_n hx hb dL_law_916 rfl (lv_at hl 3 rfl) ?_
  refine lv_iconst (v := 2) hx hb dL_law_917 (by decide) ?_
  refine lv_iadd hx hb dL_law_918 ?_
  refine va_sld hx hb hX hbl hbA hS (xIn2 hx3 hj hL) dL_law_919 ?_
  refine lv_aload_n hx hb dL_law_920 rfl (lv_at hl 0 rfl) ?_
  refine lv_iload_n hx hb dL_law_921 rfl (lv_at hl 3 rfl) ?_
  refine lv_iconst (v := 3) hx hb dL_law_922 (by decide) ?_
  refine lv_iadd hx hb dL_law_923 ?_
  refine va_sld hx hb hX hbl hbA hS (xIn3 hx3 hj hL) dL_law_924 ?_
  refine xAllI (As := [.int (xs (x3 + (1 : Int32)).toNatClampNeg), .int (xs (x3 + (2 : Int32)).toNatClampNeg), .int (xs (x3 + (3 : Int32)).toNatClampNeg)]) (rest := []) hZ hk1 (hw1.fst.trans hI.isW.fst.symm) m906 m907 m908 m2 m909 3 ⟨rfl, hdX7_voice⟩ ⟨Nat.le_trans (Nat.add_le_add_right hf1 1) (Nat.le_of_ble_eq_true rfl), Nat.le_trans (Nat.add_le_add_left hl1 _) (Nat.le_of_ble_eq_true rfl)⟩ hz1 hP hD hS 0 7 rfl rfl hxx rfl hl.1 rfl (Nat.le_of_ble_eq_true rfl) dL_law_925 ⟨Nat.le_of_ble_eq_true rfl, Nat.le_of_ble_eq_true rfl⟩ (fun H locs hP hD hS => ?_)
  refine lv_aload_n hx hb dL_law_928 rfl (lv_at hl 2 rfl) ?_
  refine lv_aload_n hx hb dL_law_929 rfl (lv_at hl 0 rfl) ?_
  refine lv_iload_n hx hb dL_law_930 rfl (lv_at hl 3 rfl) ?_
  refine lv_iconst (v := 1) hx hb dL_law_931 (by decide) ?_
  refine lv_iadd hx hb dL_law_932 ?_
  refine va_sld hx hb hX hbl hbA hS (xIn1 hx3 hj hL) dL_law_933 ?_
  refine lv_aload_n hx hb dL_law_934 rfl (lv_at hl 0 rfl) ?_
  refine lv_iload_n hx hb dL_law_935 rfl (lv_at hl 3 rfl) ?_
  refine lv_iconst (v := 2) hx hb dL_law_936 (by decide) ?_
  refine lv_iadd hx hb dL_law_937 ?_
  refine va_sld hx hb hX hbl hbA hS (xIn2 hx3 hj hL) dL_law_938 ?_
  refine lv_aload_n hx hb dL_law_939 rfl (lv_at hl 0 rfl) ?_
  refine lv_iload_n hx hb dL_law_940 rfl (lv_at hl 3 rfl) ?_
  refine lv_iconst (v := 3) hx hb dL_law_941 (by decide) ?_
  refine lv_iadd hx hb dL_law_942 ?_
  refine va_sld hx hb hX hbl hbA hS (xIn3 hx3 hj hL) dL_law_943 ?_
  refine xAllI (As := [.int (xs (x3 + (1 : Int32)).toNatClampNeg), .int (xs (x3 + (2 : Int32)).toNatClampNeg), .int (xs (x3 + (3 : Int32)).toNatClampNeg)]) (rest := [.int r]) hZ hk2 (hI2.isW.fst.trans hw1.fst.symm) m932 m933 m934 m5 m935 3 ⟨rfl, hdX8_voice⟩ ⟨Nat.le_trans (Nat.add_le_add_right hf2 1) (Nat.le_of_ble_eq_true rfl), Nat.le_trans (Nat.add_le_add_left hl2 _) (Nat.le_of_ble_eq_true rfl)⟩ hz2 hP hD hS 63 8 rfl rfl hmm rfl hl.1 rfl (Nat.le_of_ble_eq_true rfl) dL_law_944 ⟨Nat.le_of_ble_eq_true rfl, Nat.le_of_ble_eq_true rfl⟩ (fun H locs hP hD hS => ?_)
  refine lv_icmp_eq (tgt := 1278) hx hb dL_law_947 (by decide) (fun _ => ?_) (fun h => absurd rfl h)
  exact kk ws2 H locs hI2 hP hD hS
set_option maxHeartbeats 4000000 in
set_option maxRecDepth 100000 in
theorem law_case25 {p : Program} {l : Launch} {e : Env} {s : State} {m : MethodId} {below : List Frame} {meth : Method} {c : Code} {b L : Nat} {xs : Nat → Int32} (hL : L ≤ 3072) (C0 : lw_At p s m meth c b L xs) {G : xG} {tx : Nat} {wx : Nat → Nat} {tm : Nat} {wm : Nat → Nat} (hm : Amb G (fun q : Nat => s.heap.size ≤ q) s s.heap) {j c1 : Nat} {x3 : Int32} (hx3 : x3 = nI j) (hj : j + 6 ≤ L) (hc1 : c1 < 512) {H : Heap} {locs : List Loc} {ls : Array Slot} {ws : va_W} (hI : LInv G tx wx tm wm c1 ws) (hP : va_P G.1 vwCl ws H) (hD : va_D (fun q : Nat => s.heap.size ≤ q) ws) (hS : va_S (fun q : Nat => s.heap.size ≤ q) s.heap H locs) (hl : lv_has ls 4 [(0, .ref b), (1, .ref tx), (2, .ref tm), (3, .int x3)]) (kk : ∀ (ws1 : va_W) (H1 : Heap) (locs1 : List Loc), LInv G tx wx tm wm (c1 + 1) ws1 → va_P G.1 vwCl ws1 H1 → va_D (fun q : Nat => s.heap.size ≤ q) ws1 → va_S (fun q : Nat => s.heap.size ≤ q) s.heap H1 locs1 → W p l e room_1 s m #[Value.ref b] below meth c H1 locs1 78 5109 (lw_Z below #[Value.ref b] s) (F0 m 1278 ls [])) : W p l e room_1 s m #[Value.ref b] below meth c H locs 78 5109 (lw_Z below #[Value.ref b] s) (F0 m 952 ls []) := by
  obtain ⟨hx, hb, hr, hml, hown, hts, hX, hbl, hlocks, hgv⟩ := id C0
  have hbA : ¬ (fun q : Nat => s.heap.size ≤ q) b := Nat.not_le.mpr hbl
  have hZ : xAnd p m c code 4 s _ lw_tbl R_law G (fun q : Nat => s.heap.size ≤ q) := ⟨⟨hx, hb, hml, hown, hts⟩, TBL_in, fun _ h => h, hm⟩
  obtain ⟨r, ws1, ws2, ⟨rm1, hf1, hl1, hz1, hk1⟩, hw1, ⟨rm2, hf2, hl2, hz2, hk2⟩, hI2⟩ := st_body G tx wx tm wm (xs (x3 + (1 : Int32)).toNatClampNeg) c1 ws hc1 hI
  obtain ⟨fx, hxx⟩ := hI.isW.x
  obtain ⟨fm, hmm⟩ := hw1.m
  refine lv_aload_n hx hb dL_law_952 rfl (lv_at hl 1 rfl) ?_
  refine lv_aload_n hx hb dL_law_953 rfl (lv_at hl 0 rfl) ?_
  refine lv_iload_n hx hb dL_law_954 rfl (lv_at hl 3 rfl) ?_
  refine lv_iconst (v := 1) hx hb dL_law_955 (by decide) ?_
  refine lv_iadd hx hb dL_law_956 ?_
  refine va_sld hx hb hX hbl hbA hS (xIn1 hx3 hj hL) dL_law_957 ?_
  refine xAllI (As := [.int (xs (x3 + (1 : Int32)).toNatClampNeg)]) (rest := []) hZ hk1 (hw1.fst.trans hI.isW.fst.symm) m983 m984 m985 m2 m986 1 ⟨rfl, hdX7_body⟩ ⟨Nat.le_trans (Nat.add_le_add_right hf1 1) (Nat.le_of_ble_eq_true rfl), Nat.le_trans (Nat.add_le_add_left hl1 _) (Nat.le_of_ble_eq_true rfl)⟩ hz1 hP hD hS 0 7 rfl rfl hxx rfl hl.1 rfl (Nat.le_of_ble_eq_true rfl) dL_law_958 ⟨Nat.le_of_ble_eq_true rfl, Nat.le_of_ble_eq_true rfl⟩ (fun H locs hP hD hS => ?_)
  refine lv_aload_n hx hb dL_law_961 rfl (lv_at hl 2 rfl) ?_
  refine lv_aload_n hx hb dL_law_962 rfl (lv_at hl 0 rfl) ?_
  refine lv_iload_n hx hb dL_law_963 rfl (lv_at hl 3 rfl) ?_
  refine lv_iconst (v := 1) hx hb dL_law_964 (by decide) ?_
  refine lv_iadd hx hb dL_law_965 ?_
  refine va_sld hx hb hX hbl hbA hS (xIn1 hx3 hj hL) dL_law_966 ?_
  refine xAllI (As := [.int (xs (x3 + (1 : Int32)).toNatClampNeg)]) (rest := [.int r]) hZ hk2 (hI2.isW.fst.trans hw1.fst.symm) m988 m989 m990 m5 m991 1 ⟨rfl, hdX8_body⟩ ⟨Nat.le_trans (Nat.add_le_add_right hf2 1) (Nat.le_of_ble_eq_true rfl), Nat.le_trans (Nat.add_le_add_left hl2 _) (Nat.le_of_ble_eq_true rfl)⟩ hz2 hP hD hS 63 8 rfl rfl hmm rfl hl.1 rfl (Nat.le_of_ble_eq_true rfl) dL_law_967 ⟨Nat.le_of_ble_eq_true rfl, Nat.le_of_ble_eq_true rfl⟩ (fun H locs hP hD hS => ?_)
  refine lv_icmp_eq (tgt := 1278) hx hb dL_law_970 (by decide) (fun _ => ?_) (fun h => absurd rfl h)
  exact kk ws2 H locs hI2 hP hD hS
set_option maxHeartbeats 4000000 in
set_option maxRecDepth 100000 in
theorem law_case26 {p : Program} {l : Launch} {e : Env} {s : State} {m : MethodId} {below : List Frame} {meth : Method} {c : Code} {b L : Nat} {xs : Nat → Int32} (hL : L ≤ 3072) (C0 : lw_At p s m meth c b L xs) {G : xG} {tx : Nat} {wx : Nat → Nat} {tm : Nat} {wm : Nat → Nat} (hm : Amb G (fun q : Nat => s.heap.size ≤ q) s s.heap) {j c1 : Nat} {x3 : Int32} (hx3 : x3 = nI j) (hj : j + 6 ≤ L) (hc1 : c1 < 512) {H : Heap} {locs : List Loc} {ls : Array Slot} {ws : va_W} (hI : LInv G tx wx tm wm c1 ws) (hP : va_P G.1 vwCl ws H) (hD : va_D (fun q : Nat => s.heap.size ≤ q) ws) (hS : va_S (fun q : Nat => s.heap.size ≤ q) s.heap H locs) (hl : lv_has ls 4 [(0, .ref b), (1, .ref tx), (2, .ref tm), (3, .int x3)]) (kk : ∀ (ws1 : va_W) (H1 : Heap) (locs1 : List Loc), LInv G tx wx tm wm (c1 + 1) ws1 → va_P G.1 vwCl ws1 H1 → va_D (fun q : Nat => s.heap.size ≤ q) ws1 → va_S (fun q : Nat => s.heap.size ≤ q) s.heap H1 locs1 → W p l e room_1 s m #[Value.ref b] below meth c H1 locs1 78 5109 (lw_Z below #[Value.ref b] s) (F0 m 1278 ls [])) : W p l e room_1 s m #[Value.ref b] below meth c H locs 78 5109 (lw_Z below #[Value.ref b] s) (F0 m 975 ls []) := by
  obtain ⟨hx, hb, hr, hml, hown, hts, hX, hbl, hlocks, hgv⟩ := id C0
  have hbA : ¬ (fun q : Nat => s.heap.size ≤ q) b := Nat.not_le.mpr hbl
  have hZ : xAnd p m c code 4 s _ lw_tbl R_law G (fun q : Nat => s.heap.size ≤ q) := ⟨⟨hx, hb, hml, hown, hts⟩, TBL_in, fun _ h => h, hm⟩
  obtain ⟨r, ws1, ws2, ⟨rm1, hf1, hl1, hz1, hk1⟩, hw1, ⟨rm2, hf2, hl2, hz2, hk2⟩, hI2⟩ := st_sheet G tx wx tm wm (xs (x3 + (1 : Int32)).toNatClampNeg) (xs (x3 + (2 : Int32)).toNatClampNeg) (xs (x3 + (3 : Int32)).toNatClampNeg) c1 ws hc1 hI
  obtain ⟨fx, hxx⟩ := hI.isW.x
  obtain ⟨fm, hmm⟩ := hw1.m
  refine lv_aload_n hx hb dL_law_975 rfl (lv_at hl 1 rfl) ?_
  refine lv_aload_n hx hb dL_law_976 rfl (lv_at hl 0 rfl) ?_
  refine lv_iload_n hx hb dL_law_977 rfl (lv_at hl 3 rfl) ?_
  refine lv_iconst (v := 1) hx hb dL_law_978 (by decide) ?_
  refine lv_iadd hx hb dL_law_979 ?_
  refine va_sld hx hb hX hbl hbA hS (xIn1 hx3 hj hL) dL_law_980 ?_
  refine lv_aload_n hx hb dL_law_981 rfl (lv_at hl 0 rfl) ?_
  refine lv_iload_n hx hb dL_law_982 rfl (lv_at hl 3 rfl) ?_
  refine lv_iconst (v := 2) hx hb dL_law_983 (by decide) ?_
  refine lv_iadd hx hb dL_law_984 ?_
  refine va_sld hx hb hX hbl hbA hS (xIn2 hx3 hj hL) dL_law_985 ?_
  refine lv_aload_n hx hb dL_law_986 rfl (lv_at hl 0 rfl) ?_
  refine lv_iload_n hx hb dL_law_987 rfl (lv_at hl 3 rfl) ?_
  refine lv_iconst (v := 3) hx hb dL_law_988 (by decide) ?_
  refine lv_iadd hx hb dL_law_989 ?_
  refine va_sld hx hb hX hbl hbA hS (xIn3 hx3 hj hL) dL_law_990 ?_
  refine xAllI (As := [.int (xs (x3 + (1 : Int32)).toNatClampNeg), .int (xs (x3 + (2 : Int32)).toNatClampNeg), .int (xs (x3 + (3 : Int32)).toNatClampNeg)]) (rest := []) hZ hk1 (hw1.fst.trans hI.isW.fst.symm) m992 m993 m994 m2 m995 3 ⟨rfl, hdX7_sheet⟩ ⟨Nat.le_trans (Nat.add_le_add_right hf1 1) (Nat.le_of_ble_eq_true rfl), Nat.le_trans (Nat.add_le_add_left hl1 _) (Nat.le_of_ble_eq_true rfl)⟩ hz1 hP hD hS 0 7 rfl rfl hxx rfl hl.1 rfl (Nat.le_of_ble_eq_true rfl) dL_law_991 ⟨Nat.le_of_ble_eq_true rfl, Nat.le_of_ble_eq_true rfl⟩ (fun H locs hP hD hS => ?_)
  refine lv_aload_n hx hb dL_law_994 rfl (lv_at hl 2 rfl) ?_
  refine lv_aload_n hx hb dL_law_995 rfl (lv_at hl 0 rfl) ?_
  refine lv_iload_n hx hb dL_law_996 rfl (lv_at hl 3 rfl) ?_
  refine lv_iconst (v := 1) hx hb dL_law_997 (by decide) ?_
  refine lv_iadd hx hb dL_law_998 ?_
  refine va_sld hx hb hX hbl hbA hS (xIn1 hx3 hj hL) dL_law_999 ?_
  refine lv_aload_n hx hb dL_law_1000 rfl (lv_at hl 0 rfl) ?_
  refine lv_iload_n hx hb dL_law_1001 rfl (lv_at hl 3 rfl) ?_
  refine lv_iconst (v := 2) hx hb dL_law_1002 (by decide) ?_
  refine lv_iadd hx hb dL_law_1003 ?_
  refine va_sld hx hb hX hbl hbA hS (xIn2 hx3 hj hL) dL_law_1004 ?_
  refine lv_aload_n hx hb dL_law_1005 rfl (lv_at hl 0 rfl) ?_
  refine lv_iload_n hx hb dL_law_1006 rfl (lv_at hl 3 rfl) ?_
  refine lv_iconst (v := 3) hx hb dL_law_1007 (by decide) ?_
  refine lv_iadd hx hb dL_law_1008 ?_
  refine va_sld hx hb hX hbl hbA hS (xIn3 hx3 hj hL) dL_law_1009 ?_
  refine xAllI (As := [.int (xs (x3 + (1 : Int32)).toNatClampNeg), .int (xs (x3 + (2 : Int32)).toNatClampNeg), .int (xs (x3 + (3 : Int32)).toNatClampNeg)]) (rest := [.int r]) hZ hk2 (hI2.isW.fst.trans hw1.fst.symm) m1008 m1009 m1010 m5 m1011 3 ⟨rfl, hdX8_sheet⟩ ⟨Nat.le_trans (Nat.add_le_add_right hf2 1) (Nat.le_of_ble_eq_true rfl), Nat.le_trans (Nat.add_le_add_left hl2 _) (Nat.le_of_ble_eq_true rfl)⟩ hz2 hP hD hS 63 8 rfl rfl hmm rfl hl.1 rfl (Nat.le_of_ble_eq_true rfl) dL_law_1010 ⟨Nat.le_of_ble_eq_true rfl, Nat.le_of_ble_eq_true rfl⟩ (fun H locs hP hD hS => ?_)
  refine lv_icmp_eq (tgt := 1278) hx hb dL_law_1013 (by decide) (fun _ => ?_) (fun h => absurd rfl h)
  exact kk ws2 H locs hI2 hP hD hS
set_option maxHeartbeats 4000000 in
set_option maxRecDepth 100000 in
theorem law_case27 {p : Program} {l : Launch} {e : Env} {s : State} {m : MethodId} {below : List Frame} {meth : Method} {c : Code} {b L : Nat} {xs : Nat → Int32} (hL : L ≤ 3072) (C0 : lw_At p s m meth c b L xs) {G : xG} {tx : Nat} {wx : Nat → Nat} {tm : Nat} {wm : Nat → Nat} (hm : Amb G (fun q : Nat => s.heap.size ≤ q) s s.heap) {j c1 : Nat} {x3 : Int32} (hx3 : x3 = nI j) (hj : j + 6 ≤ L) (hc1 : c1 < 512) {H : Heap} {locs : List Loc} {ls : Array Slot} {ws : va_W} (hI : LInv G tx wx tm wm c1 ws) (hP : va_P G.1 vwCl ws H) (hD : va_D (fun q : Nat => s.heap.size ≤ q) ws) (hS : va_S (fun q : Nat => s.heap.size ≤ q) s.heap H locs) (hl : lv_has ls 4 [(0, .ref b), (1, .ref tx), (2, .ref tm), (3, .int x3)]) (kk : ∀ (ws1 : va_W) (H1 : Heap) (locs1 : List Loc), LInv G tx wx tm wm (c1 + 1) ws1 → va_P G.1 vwCl ws1 H1 → va_D (fun q : Nat => s.heap.size ≤ q) ws1 → va_S (fun q : Nat => s.heap.size ≤ q) s.heap H1 locs1 → W p l e room_1 s m #[Value.ref b] below meth c H1 locs1 78 5109 (lw_Z below #[Value.ref b] s) (F0 m 1278 ls [])) : W p l e room_1 s m #[Value.ref b] below meth c H locs 78 5109 (lw_Z below #[Value.ref b] s) (F0 m 1018 ls []) := by
  obtain ⟨hx, hb, hr, hml, hown, hts, hX, hbl, hlocks, hgv⟩ := id C0
  have hbA : ¬ (fun q : Nat => s.heap.size ≤ q) b := Nat.not_le.mpr hbl
  have hZ : xAnd p m c code 4 s _ lw_tbl R_law G (fun q : Nat => s.heap.size ≤ q) := ⟨⟨hx, hb, hml, hown, hts⟩, TBL_in, fun _ h => h, hm⟩
  obtain ⟨r, ws1, ws2, ⟨rm1, hf1, hl1, hz1, hk1⟩, hw1, ⟨rm2, hf2, hl2, hz2, hk2⟩, hI2⟩ := st_put G tx wx tm wm (xs (x3 + (1 : Int32)).toNatClampNeg) (xs (x3 + (2 : Int32)).toNatClampNeg) (xs (x3 + (3 : Int32)).toNatClampNeg) c1 ws hc1 hI
  obtain ⟨fx, hxx⟩ := hI.isW.x
  obtain ⟨fm, hmm⟩ := hw1.m
  refine lv_aload_n hx hb dL_law_1018 rfl (lv_at hl 1 rfl) ?_
  refine lv_aload_n hx hb dL_law_1019 rfl (lv_at hl 0 rfl) ?_
  refine lv_iload_n hx hb dL_law_1020 rfl (lv_at hl 3 rfl) ?_
  refine lv_iconst (v := 1) hx hb dL_law_1021 (by decide) ?_
  refine lv_iadd hx hb dL_law_1022 ?_
  refine va_sld hx hb hX hbl hbA hS (xIn1 hx3 hj hL) dL_law_1023 ?_
  refine lv_aload_n hx hb dL_law_1024 rfl (lv_at hl 0 rfl) ?_
  refine lv_iload_n hx hb dL_law_1025 rfl (lv_at hl 3 rfl) ?_
  refine lv_iconst (v := 2) hx hb dL_law_1026 (by decide) ?_
  refine lv_iadd hx hb dL_law_1027 ?_
  refine va_sld hx hb hX hbl hbA hS (xIn2 hx3 hj hL) dL_law_1028 ?_
  refine lv_aload_n hx hb dL_law_1029 rfl (lv_at hl 0 rfl) ?_
  refine lv_iload_n hx hb dL_law_1030 rfl (lv_at hl 3 rfl) ?_
  refine lv_iconst (v := 3) hx hb dL_law_1031 (by decide) ?_
  refine lv_iadd hx hb dL_law_1032 ?_
  refine va_sld hx hb hX hbl hbA hS (xIn3 hx3 hj hL) dL_law_1033 ?_
  refine xAllI (As := [.int (xs (x3 + (1 : Int32)).toNatClampNeg), .int (xs (x3 + (2 : Int32)).toNatClampNeg), .int (xs (x3 + (3 : Int32)).toNatClampNeg)]) (rest := []) hZ hk1 (hw1.fst.trans hI.isW.fst.symm) m1012 m1013 m1014 m2 m1015 3 ⟨rfl, hdX7_put⟩ ⟨Nat.le_trans (Nat.add_le_add_right hf1 1) (Nat.le_of_ble_eq_true rfl), Nat.le_trans (Nat.add_le_add_left hl1 _) (Nat.le_of_ble_eq_true rfl)⟩ hz1 hP hD hS 0 7 rfl rfl hxx rfl hl.1 rfl (Nat.le_of_ble_eq_true rfl) dL_law_1034 ⟨Nat.le_of_ble_eq_true rfl, Nat.le_of_ble_eq_true rfl⟩ (fun H locs hP hD hS => ?_)
  refine lv_aload_n hx hb dL_law_1037 rfl (lv_at hl 2 rfl) ?_
  refine lv_aload_n hx hb dL_law_1038 rfl (lv_at hl 0 rfl) ?_
  refine lv_iload_n hx hb dL_law_1039 rfl (lv_at hl 3 rfl) ?_
  refine lv_iconst (v := 1) hx hb dL_law_1040 (by decide) ?_
  refine lv_iadd hx hb dL_law_1041 ?_
  refine va_sld hx hb hX hbl hbA hS (xIn1 hx3 hj hL) dL_law_1042 ?_
  refine lv_aload_n hx hb dL_law_1043 rfl (lv_at hl 0 rfl) ?_
  refine lv_iload_n hx hb dL_law_1044 rfl (lv_at hl 3 rfl) ?_
  refine lv_iconst (v := 2) hx hb dL_law_1045 (by decide) ?_
  refine lv_iadd hx hb dL_law_1046 ?_
  refine va_sld hx hb hX hbl hbA hS (xIn2 hx3 hj hL) dL_law_1047 ?_
  refine lv_aload_n hx hb dL_law_1048 rfl (lv_at hl 0 rfl) ?_
  refine lv_iload_n hx hb dL_law_1049 rfl (lv_at hl 3 rfl) ?_
  refine lv_iconst (v := 3) hx hb dL_law_1050 (by decide) ?_
  refine lv_iadd hx hb dL_law_1051 ?_
  refine va_sld hx hb hX hbl hbA hS (xIn3 hx3 hj hL) dL_law_1052 ?_
  refine xAllI (As := [.int (xs (x3 + (1 : Int32)).toNatClampNeg), .int (xs (x3 + (2 : Int32)).toNatClampNeg), .int (xs (x3 + (3 : Int32)).toNatClampNeg)]) (rest := [.int r]) hZ hk2 (hI2.isW.fst.trans hw1.fst.symm) m1020 m1021 m1022 m5 m1023 3 ⟨rfl, hdX8_put⟩ ⟨Nat.le_trans (Nat.add_le_add_right hf2 1) (Nat.le_of_ble_eq_true rfl), Nat.le_trans (Nat.add_le_add_left hl2 _) (Nat.le_of_ble_eq_true rfl)⟩ hz2 hP hD hS 63 8 rfl rfl hmm rfl hl.1 rfl (Nat.le_of_ble_eq_true rfl) dL_law_1053 ⟨Nat.le_of_ble_eq_true rfl, Nat.le_of_ble_eq_true rfl⟩ (fun H locs hP hD hS => ?_)
  refine lv_icmp_eq (tgt := 1278) hx hb dL_law_1056 (by decide) (fun _ => ?_) (fun h => absurd rfl h)
  exact kk ws2 H locs hI2 hP hD hS
set_option maxHeartbeats 4000000 in
set_option maxRecDepth 100000 in
theorem law_case28 {p : Program} {l : Launch} {e : Env} {s : State} {m : MethodId} {below : List Frame} {meth : Method} {c : Code} {b L : Nat} {xs : Nat → Int32} (hL : L ≤ 3072) (C0 : lw_At p s m meth c b L xs) {G : xG} {tx : Nat} {wx : Nat → Nat} {tm : Nat} {wm : Nat → Nat} (hm : Amb G (fun q : Nat => s.heap.size ≤ q) s s.heap) {j c1 : Nat} {x3 : Int32} (hx3 : x3 = nI j) (hj : j + 6 ≤ L) (hc1 : c1 < 512) {H : Heap} {locs : List Loc} {ls : Array Slot} {ws : va_W} (hI : LInv G tx wx tm wm c1 ws) (hP : va_P G.1 vwCl ws H) (hD : va_D (fun q : Nat => s.heap.size ≤ q) ws) (hS : va_S (fun q : Nat => s.heap.size ≤ q) s.heap H locs) (hl : lv_has ls 4 [(0, .ref b), (1, .ref tx), (2, .ref tm), (3, .int x3)]) (kk : ∀ (ws1 : va_W) (H1 : Heap) (locs1 : List Loc), LInv G tx wx tm wm (c1 + 1) ws1 → va_P G.1 vwCl ws1 H1 → va_D (fun q : Nat => s.heap.size ≤ q) ws1 → va_S (fun q : Nat => s.heap.size ≤ q) s.heap H1 locs1 → W p l e room_1 s m #[Value.ref b] below meth c H1 locs1 78 5109 (lw_Z below #[Value.ref b] s) (F0 m 1278 ls [])) : W p l e room_1 s m #[Value.ref b] below meth c H locs 78 5109 (lw_Z below #[Value.ref b] s) (F0 m 1061 ls []) := by
  obtain ⟨hx, hb, hr, hml, hown, hts, hX, hbl, hlocks, hgv⟩ := id C0
  have hbA : ¬ (fun q : Nat => s.heap.size ≤ q) b := Nat.not_le.mpr hbl
  have hZ : xAnd p m c code 4 s _ lw_tbl R_law G (fun q : Nat => s.heap.size ≤ q) := ⟨⟨hx, hb, hml, hown, hts⟩, TBL_in, fun _ h => h, hm⟩
  obtain ⟨r, ws1, ws2, ⟨rm1, hf1, hl1, hz1, hk1⟩, hw1, ⟨rm2, hf2, hl2, hz2, hk2⟩, hI2⟩ := st_move G tx wx tm wm (xs (x3 + (1 : Int32)).toNatClampNeg) (xs (x3 + (2 : Int32)).toNatClampNeg) (xs (x3 + (3 : Int32)).toNatClampNeg) (xs (x3 + (4 : Int32)).toNatClampNeg) (xs (x3 + (5 : Int32)).toNatClampNeg) c1 ws hc1 hI
  obtain ⟨fx, hxx⟩ := hI.isW.x
  obtain ⟨fm, hmm⟩ := hw1.m
  refine lv_aload_n hx hb dL_law_1061 rfl (lv_at hl 1 rfl) ?_
  refine lv_aload_n hx hb dL_law_1062 rfl (lv_at hl 0 rfl) ?_
  refine lv_iload_n hx hb dL_law_1063 rfl (lv_at hl 3 rfl) ?_
  refine lv_iconst (v := 1) hx hb dL_law_1064 (by decide) ?_
  refine lv_iadd hx hb dL_law_1065 ?_
  refine va_sld hx hb hX hbl hbA hS (xIn1 hx3 hj hL) dL_law_1066 ?_
  refine lv_aload_n hx hb dL_law_1067 rfl (lv_at hl 0 rfl) ?_
  refine lv_iload_n hx hb dL_law_1068 rfl (lv_at hl 3 rfl) ?_
  refine lv_iconst (v := 2) hx hb dL_law_1069 (by decide) ?_
  refine lv_iadd hx hb dL_law_1070 ?_
  refine va_sld hx hb hX hbl hbA hS (xIn2 hx3 hj hL) dL_law_1071 ?_
  refine lv_aload_n hx hb dL_law_1072 rfl (lv_at hl 0 rfl) ?_
  refine lv_iload_n hx hb dL_law_1073 rfl (lv_at hl 3 rfl) ?_
  refine lv_iconst (v := 3) hx hb dL_law_1074 (by decide) ?_
  refine lv_iadd hx hb dL_law_1075 ?_
  refine va_sld hx hb hX hbl hbA hS (xIn3 hx3 hj hL) dL_law_1076 ?_
  refine lv_aload_n hx hb dL_law_1077 rfl (lv_at hl 0 rfl) ?_
  refine lv_iload_n hx hb dL_law_1078 rfl (lv_at hl 3 rfl) ?_
  refine lv_iconst (v := 4) hx hb dL_law_1079 (by decide) ?_
  refine lv_iadd hx hb dL_law_1080 ?_
  refine va_sld hx hb hX hbl hbA hS (xIn4 hx3 hj hL) dL_law_1081 ?_
  refine lv_aload_n hx hb dL_law_1082 rfl (lv_at hl 0 rfl) ?_
  refine lv_iload_n hx hb dL_law_1083 rfl (lv_at hl 3 rfl) ?_
  refine lv_iconst (v := 5) hx hb dL_law_1084 (by decide) ?_
  refine lv_iadd hx hb dL_law_1085 ?_
  refine va_sld hx hb hX hbl hbA hS (xIn5 hx3 hj hL) dL_law_1086 ?_
  refine xAllI (As := [.int (xs (x3 + (1 : Int32)).toNatClampNeg), .int (xs (x3 + (2 : Int32)).toNatClampNeg), .int (xs (x3 + (3 : Int32)).toNatClampNeg), .int (xs (x3 + (4 : Int32)).toNatClampNeg), .int (xs (x3 + (5 : Int32)).toNatClampNeg)]) (rest := []) hZ hk1 (hw1.fst.trans hI.isW.fst.symm) m1028 m1029 m1030 m2 m1031 5 ⟨rfl, hdX7_move⟩ ⟨Nat.le_trans (Nat.add_le_add_right hf1 1) (Nat.le_of_ble_eq_true rfl), Nat.le_trans (Nat.add_le_add_left hl1 _) (Nat.le_of_ble_eq_true rfl)⟩ hz1 hP hD hS 0 7 rfl rfl hxx rfl hl.1 rfl (Nat.le_of_ble_eq_true rfl) dL_law_1087 ⟨Nat.le_of_ble_eq_true rfl, Nat.le_of_ble_eq_true rfl⟩ (fun H locs hP hD hS => ?_)
  refine lv_aload_n hx hb dL_law_1090 rfl (lv_at hl 2 rfl) ?_
  refine lv_aload_n hx hb dL_law_1091 rfl (lv_at hl 0 rfl) ?_
  refine lv_iload_n hx hb dL_law_1092 rfl (lv_at hl 3 rfl) ?_
  refine lv_iconst (v := 1) hx hb dL_law_1093 (by decide) ?_
  refine lv_iadd hx hb dL_law_1094 ?_
  refine va_sld hx hb hX hbl hbA hS (xIn1 hx3 hj hL) dL_law_1095 ?_
  refine lv_aload_n hx hb dL_law_1096 rfl (lv_at hl 0 rfl) ?_
  refine lv_iload_n hx hb dL_law_1097 rfl (lv_at hl 3 rfl) ?_
  refine lv_iconst (v := 2) hx hb dL_law_1098 (by decide) ?_
  refine lv_iadd hx hb dL_law_1099 ?_
  refine va_sld hx hb hX hbl hbA hS (xIn2 hx3 hj hL) dL_law_1100 ?_
  refine lv_aload_n hx hb dL_law_1101 rfl (lv_at hl 0 rfl) ?_
  refine lv_iload_n hx hb dL_law_1102 rfl (lv_at hl 3 rfl) ?_
  refine lv_iconst (v := 3) hx hb dL_law_1103 (by decide) ?_
  refine lv_iadd hx hb dL_law_1104 ?_
  refine va_sld hx hb hX hbl hbA hS (xIn3 hx3 hj hL) dL_law_1105 ?_
  refine lv_aload_n hx hb dL_law_1106 rfl (lv_at hl 0 rfl) ?_
  refine lv_iload_n hx hb dL_law_1107 rfl (lv_at hl 3 rfl) ?_
  refine lv_iconst (v := 4) hx hb dL_law_1108 (by decide) ?_
  refine lv_iadd hx hb dL_law_1109 ?_
  refine va_sld hx hb hX hbl hbA hS (xIn4 hx3 hj hL) dL_law_1110 ?_
  refine lv_aload_n hx hb dL_law_1111 rfl (lv_at hl 0 rfl) ?_
  refine lv_iload_n hx hb dL_law_1112 rfl (lv_at hl 3 rfl) ?_
  refine lv_iconst (v := 5) hx hb dL_law_1113 (by decide) ?_
  refine lv_iadd hx hb dL_law_1114 ?_
  refine va_sld hx hb hX hbl hbA hS (xIn5 hx3 hj hL) dL_law_1115 ?_
  refine xAllI (As := [.int (xs (x3 + (1 : Int32)).toNatClampNeg), .int (xs (x3 + (2 : Int32)).toNatClampNeg), .int (xs (x3 + (3 : Int32)).toNatClampNeg), .int (xs (x3 + (4 : Int32)).toNatClampNeg), .int (xs (x3 + (5 : Int32)).toNatClampNeg)]) (rest := [.int r]) hZ hk2 (hI2.isW.fst.trans hw1.fst.symm) m1035 m1036 m1037 m5 m1038 5 ⟨rfl, hdX8_move⟩ ⟨Nat.le_trans (Nat.add_le_add_right hf2 1) (Nat.le_of_ble_eq_true rfl), Nat.le_trans (Nat.add_le_add_left hl2 _) (Nat.le_of_ble_eq_true rfl)⟩ hz2 hP hD hS 63 8 rfl rfl hmm rfl hl.1 rfl (Nat.le_of_ble_eq_true rfl) dL_law_1116 ⟨Nat.le_of_ble_eq_true rfl, Nat.le_of_ble_eq_true rfl⟩ (fun H locs hP hD hS => ?_)
  refine lv_icmp_eq (tgt := 1278) hx hb dL_law_1119 (by decide) (fun _ => ?_) (fun h => absurd rfl h)
  exact kk ws2 H locs hI2 hP hD hS
set_option maxHeartbeats 4000000 in
set_option maxRecDepth 100000 in
theorem law_case29 {p : Program} {l : Launch} {e : Env} {s : State} {m : MethodId} {below : List Frame} {meth : Method} {c : Code} {b L : Nat} {xs : Nat → Int32} (hL : L ≤ 3072) (C0 : lw_At p s m meth c b L xs) {G : xG} {tx : Nat} {wx : Nat → Nat} {tm : Nat} {wm : Nat → Nat} (hm : Amb G (fun q : Nat => s.heap.size ≤ q) s s.heap) {j c1 : Nat} {x3 : Int32} (hx3 : x3 = nI j) (hj : j + 6 ≤ L) (hc1 : c1 < 512) {H : Heap} {locs : List Loc} {ls : Array Slot} {ws : va_W} (hI : LInv G tx wx tm wm c1 ws) (hP : va_P G.1 vwCl ws H) (hD : va_D (fun q : Nat => s.heap.size ≤ q) ws) (hS : va_S (fun q : Nat => s.heap.size ≤ q) s.heap H locs) (hl : lv_has ls 4 [(0, .ref b), (1, .ref tx), (2, .ref tm), (3, .int x3)]) (kk : ∀ (ws1 : va_W) (H1 : Heap) (locs1 : List Loc), LInv G tx wx tm wm (c1 + 1) ws1 → va_P G.1 vwCl ws1 H1 → va_D (fun q : Nat => s.heap.size ≤ q) ws1 → va_S (fun q : Nat => s.heap.size ≤ q) s.heap H1 locs1 → W p l e room_1 s m #[Value.ref b] below meth c H1 locs1 78 5109 (lw_Z below #[Value.ref b] s) (F0 m 1278 ls [])) : W p l e room_1 s m #[Value.ref b] below meth c H locs 78 5109 (lw_Z below #[Value.ref b] s) (F0 m 1124 ls []) := by
  obtain ⟨hx, hb, hr, hml, hown, hts, hX, hbl, hlocks, hgv⟩ := id C0
  have hbA : ¬ (fun q : Nat => s.heap.size ≤ q) b := Nat.not_le.mpr hbl
  have hZ : xAnd p m c code 4 s _ lw_tbl R_law G (fun q : Nat => s.heap.size ≤ q) := ⟨⟨hx, hb, hml, hown, hts⟩, TBL_in, fun _ h => h, hm⟩
  obtain ⟨r, ws1, ws2, ⟨rm1, hf1, hl1, hz1, hk1⟩, hw1, ⟨rm2, hf2, hl2, hz2, hk2⟩, hI2⟩ := st_signs G tx wx tm wm (xs (x3 + (1 : Int32)).toNatClampNeg) c1 ws hc1 hI
  obtain ⟨fx, hxx⟩ := hI.isW.x
  obtain ⟨fm, hmm⟩ := hw1.m
  refine lv_aload_n hx hb dL_law_1124 rfl (lv_at hl 1 rfl) ?_
  refine lv_aload_n hx hb dL_law_1125 rfl (lv_at hl 0 rfl) ?_
  refine lv_iload_n hx hb dL_law_1126 rfl (lv_at hl 3 rfl) ?_
  refine lv_iconst (v := 1) hx hb dL_law_1127 (by decide) ?_
  refine lv_iadd hx hb dL_law_1128 ?_
  refine va_sld hx hb hX hbl hbA hS (xIn1 hx3 hj hL) dL_law_1129 ?_
  refine xAllI (As := [.int (xs (x3 + (1 : Int32)).toNatClampNeg)]) (rest := []) hZ hk1 (hw1.fst.trans hI.isW.fst.symm) m1043 m1044 m1045 m2 m1046 1 ⟨rfl, hdX7_signs⟩ ⟨Nat.le_trans (Nat.add_le_add_right hf1 1) (Nat.le_of_ble_eq_true rfl), Nat.le_trans (Nat.add_le_add_left hl1 _) (Nat.le_of_ble_eq_true rfl)⟩ hz1 hP hD hS 0 7 rfl rfl hxx rfl hl.1 rfl (Nat.le_of_ble_eq_true rfl) dL_law_1130 ⟨Nat.le_of_ble_eq_true rfl, Nat.le_of_ble_eq_true rfl⟩ (fun H locs hP hD hS => ?_)
  refine lv_aload_n hx hb dL_law_1133 rfl (lv_at hl 2 rfl) ?_
  refine lv_aload_n hx hb dL_law_1134 rfl (lv_at hl 0 rfl) ?_
  refine lv_iload_n hx hb dL_law_1135 rfl (lv_at hl 3 rfl) ?_
  refine lv_iconst (v := 1) hx hb dL_law_1136 (by decide) ?_
  refine lv_iadd hx hb dL_law_1137 ?_
  refine va_sld hx hb hX hbl hbA hS (xIn1 hx3 hj hL) dL_law_1138 ?_
  refine xAllI (As := [.int (xs (x3 + (1 : Int32)).toNatClampNeg)]) (rest := [.int r]) hZ hk2 (hI2.isW.fst.trans hw1.fst.symm) m1047 m1048 m1049 m5 m1050 1 ⟨rfl, hdX8_signs⟩ ⟨Nat.le_trans (Nat.add_le_add_right hf2 1) (Nat.le_of_ble_eq_true rfl), Nat.le_trans (Nat.add_le_add_left hl2 _) (Nat.le_of_ble_eq_true rfl)⟩ hz2 hP hD hS 63 8 rfl rfl hmm rfl hl.1 rfl (Nat.le_of_ble_eq_true rfl) dL_law_1139 ⟨Nat.le_of_ble_eq_true rfl, Nat.le_of_ble_eq_true rfl⟩ (fun H locs hP hD hS => ?_)
  refine lv_icmp_eq (tgt := 1278) hx hb dL_law_1142 (by decide) (fun _ => ?_) (fun h => absurd rfl h)
  exact kk ws2 H locs hI2 hP hD hS
set_option maxHeartbeats 4000000 in
set_option maxRecDepth 100000 in
theorem law_case30 {p : Program} {l : Launch} {e : Env} {s : State} {m : MethodId} {below : List Frame} {meth : Method} {c : Code} {b L : Nat} {xs : Nat → Int32} (hL : L ≤ 3072) (C0 : lw_At p s m meth c b L xs) {G : xG} {tx : Nat} {wx : Nat → Nat} {tm : Nat} {wm : Nat → Nat} (hm : Amb G (fun q : Nat => s.heap.size ≤ q) s s.heap) {j c1 : Nat} {x3 : Int32} (hx3 : x3 = nI j) (hj : j + 6 ≤ L) (hc1 : c1 < 512) {H : Heap} {locs : List Loc} {ls : Array Slot} {ws : va_W} (hI : LInv G tx wx tm wm c1 ws) (hP : va_P G.1 vwCl ws H) (hD : va_D (fun q : Nat => s.heap.size ≤ q) ws) (hS : va_S (fun q : Nat => s.heap.size ≤ q) s.heap H locs) (hl : lv_has ls 4 [(0, .ref b), (1, .ref tx), (2, .ref tm), (3, .int x3)]) (kk : ∀ (ws1 : va_W) (H1 : Heap) (locs1 : List Loc), LInv G tx wx tm wm (c1 + 1) ws1 → va_P G.1 vwCl ws1 H1 → va_D (fun q : Nat => s.heap.size ≤ q) ws1 → va_S (fun q : Nat => s.heap.size ≤ q) s.heap H1 locs1 → W p l e room_1 s m #[Value.ref b] below meth c H1 locs1 78 5109 (lw_Z below #[Value.ref b] s) (F0 m 1278 ls [])) : W p l e room_1 s m #[Value.ref b] below meth c H locs 78 5109 (lw_Z below #[Value.ref b] s) (F0 m 1147 ls []) := by
  obtain ⟨hx, hb, hr, hml, hown, hts, hX, hbl, hlocks, hgv⟩ := id C0
  have hbA : ¬ (fun q : Nat => s.heap.size ≤ q) b := Nat.not_le.mpr hbl
  have hZ : xAnd p m c code 4 s _ lw_tbl R_law G (fun q : Nat => s.heap.size ≤ q) := ⟨⟨hx, hb, hml, hown, hts⟩, TBL_in, fun _ h => h, hm⟩
  obtain ⟨r, ws1, ws2, ⟨rm1, hf1, hl1, hz1, hk1⟩, hw1, ⟨rm2, hf2, hl2, hz2, hk2⟩, hI2⟩ := st_judge G tx wx tm wm (xs (x3 + (1 : Int32)).toNatClampNeg) c1 ws hc1 hI
  obtain ⟨fx, hxx⟩ := hI.isW.x
  obtain ⟨fm, hmm⟩ := hw1.m
  refine lv_aload_n hx hb dL_law_1147 rfl (lv_at hl 1 rfl) ?_
  refine lv_aload_n hx hb dL_law_1148 rfl (lv_at hl 0 rfl) ?_
  refine lv_iload_n hx hb dL_law_1149 rfl (lv_at hl 3 rfl) ?_
  refine lv_iconst (v := 1) hx hb dL_law_1150 (by decide) ?_
  refine lv_iadd hx hb dL_law_1151 ?_
  refine va_sld hx hb hX hbl hbA hS (xIn1 hx3 hj hL) dL_law_1152 ?_
  refine xAllI (As := [.int (xs (x3 + (1 : Int32)).toNatClampNeg)]) (rest := []) hZ hk1 (hw1.fst.trans hI.isW.fst.symm) m1051 m1052 m1053 m2 m1054 1 ⟨rfl, hdX7_judge⟩ ⟨Nat.le_trans (Nat.add_le_add_right hf1 1) (Nat.le_of_ble_eq_true rfl), Nat.le_trans (Nat.add_le_add_left hl1 _) (Nat.le_of_ble_eq_true rfl)⟩ hz1 hP hD hS 0 7 rfl rfl hxx rfl hl.1 rfl (Nat.le_of_ble_eq_true rfl) dL_law_1153 ⟨Nat.le_of_ble_eq_true rfl, Nat.le_of_ble_eq_true rfl⟩ (fun H locs hP hD hS => ?_)
  refine lv_aload_n hx hb dL_law_1156 rfl (lv_at hl 2 rfl) ?_
  refine lv_aload_n hx hb dL_law_1157 rfl (lv_at hl 0 rfl) ?_
  refine lv_iload_n hx hb dL_law_1158 rfl (lv_at hl 3 rfl) ?_
  refine lv_iconst (v := 1) hx hb dL_law_1159 (by decide) ?_
  refine lv_iadd hx hb dL_law_1160 ?_
  refine va_sld hx hb hX hbl hbA hS (xIn1 hx3 hj hL) dL_law_1161 ?_
  refine xAllI (As := [.int (xs (x3 + (1 : Int32)).toNatClampNeg)]) (rest := [.int r]) hZ hk2 (hI2.isW.fst.trans hw1.fst.symm) m1055 m1056 m1057 m5 m1058 1 ⟨rfl, hdX8_judge⟩ ⟨Nat.le_trans (Nat.add_le_add_right hf2 1) (Nat.le_of_ble_eq_true rfl), Nat.le_trans (Nat.add_le_add_left hl2 _) (Nat.le_of_ble_eq_true rfl)⟩ hz2 hP hD hS 63 8 rfl rfl hmm rfl hl.1 rfl (Nat.le_of_ble_eq_true rfl) dL_law_1162 ⟨Nat.le_of_ble_eq_true rfl, Nat.le_of_ble_eq_true rfl⟩ (fun H locs hP hD hS => ?_)
  refine lv_icmp_eq (tgt := 1278) hx hb dL_law_1165 (by decide) (fun _ => ?_) (fun h => absurd rfl h)
  exact kk ws2 H locs hI2 hP hD hS
set_option maxHeartbeats 4000000 in
set_option maxRecDepth 100000 in
theorem law_case31 {p : Program} {l : Launch} {e : Env} {s : State} {m : MethodId} {below : List Frame} {meth : Method} {c : Code} {b L : Nat} {xs : Nat → Int32} (hL : L ≤ 3072) (C0 : lw_At p s m meth c b L xs) {G : xG} {tx : Nat} {wx : Nat → Nat} {tm : Nat} {wm : Nat → Nat} (hm : Amb G (fun q : Nat => s.heap.size ≤ q) s s.heap) {j c1 : Nat} {x3 : Int32} (hx3 : x3 = nI j) (hj : j + 6 ≤ L) (hc1 : c1 < 512) {H : Heap} {locs : List Loc} {ls : Array Slot} {ws : va_W} (hI : LInv G tx wx tm wm c1 ws) (hP : va_P G.1 vwCl ws H) (hD : va_D (fun q : Nat => s.heap.size ≤ q) ws) (hS : va_S (fun q : Nat => s.heap.size ≤ q) s.heap H locs) (hl : lv_has ls 4 [(0, .ref b), (1, .ref tx), (2, .ref tm), (3, .int x3)]) (kk : ∀ (ws1 : va_W) (H1 : Heap) (locs1 : List Loc), LInv G tx wx tm wm (c1 + 1) ws1 → va_P G.1 vwCl ws1 H1 → va_D (fun q : Nat => s.heap.size ≤ q) ws1 → va_S (fun q : Nat => s.heap.size ≤ q) s.heap H1 locs1 → W p l e room_1 s m #[Value.ref b] below meth c H1 locs1 78 5109 (lw_Z below #[Value.ref b] s) (F0 m 1278 ls [])) : W p l e room_1 s m #[Value.ref b] below meth c H locs 78 5109 (lw_Z below #[Value.ref b] s) (F0 m 1170 ls []) := by
  obtain ⟨hx, hb, hr, hml, hown, hts, hX, hbl, hlocks, hgv⟩ := id C0
  have hbA : ¬ (fun q : Nat => s.heap.size ≤ q) b := Nat.not_le.mpr hbl
  have hZ : xAnd p m c code 4 s _ lw_tbl R_law G (fun q : Nat => s.heap.size ≤ q) := ⟨⟨hx, hb, hml, hown, hts⟩, TBL_in, fun _ h => h, hm⟩
  obtain ⟨r, ws1, ws2, ⟨rm1, hf1, hl1, hz1, hk1⟩, hw1, ⟨rm2, hf2, hl2, hz2, hk2⟩, hI2⟩ := st_image G tx wx tm wm  c1 ws hc1 hI
  obtain ⟨fx, hxx⟩ := hI.isW.x
  obtain ⟨fm, hmm⟩ := hw1.m
  refine lv_aload_n hx hb dL_law_1170 rfl (lv_at hl 1 rfl) ?_
  refine xAllI (As := []) (rest := []) hZ hk1 (hw1.fst.trans hI.isW.fst.symm) m1059 m1060 m1061 m2 m1062 0 ⟨rfl, hdX7_image⟩ ⟨Nat.le_trans (Nat.add_le_add_right hf1 1) (Nat.le_of_ble_eq_true rfl), Nat.le_trans (Nat.add_le_add_left hl1 _) (Nat.le_of_ble_eq_true rfl)⟩ hz1 hP hD hS 0 7 rfl rfl hxx rfl hl.1 rfl (Nat.le_of_ble_eq_true rfl) dL_law_1171 ⟨Nat.le_of_ble_eq_true rfl, Nat.le_of_ble_eq_true rfl⟩ (fun H locs hP hD hS => ?_)
  refine lv_aload_n hx hb dL_law_1174 rfl (lv_at hl 2 rfl) ?_
  refine xAllI (As := []) (rest := [.int r]) hZ hk2 (hI2.isW.fst.trans hw1.fst.symm) m1068 m1069 m1070 m5 m1071 0 ⟨rfl, hdX8_image⟩ ⟨Nat.le_trans (Nat.add_le_add_right hf2 1) (Nat.le_of_ble_eq_true rfl), Nat.le_trans (Nat.add_le_add_left hl2 _) (Nat.le_of_ble_eq_true rfl)⟩ hz2 hP hD hS 63 8 rfl rfl hmm rfl hl.1 rfl (Nat.le_of_ble_eq_true rfl) dL_law_1175 ⟨Nat.le_of_ble_eq_true rfl, Nat.le_of_ble_eq_true rfl⟩ (fun H locs hP hD hS => ?_)
  refine lv_icmp_eq (tgt := 1278) hx hb dL_law_1178 (by decide) (fun _ => ?_) (fun h => absurd rfl h)
  exact kk ws2 H locs hI2 hP hD hS
set_option maxHeartbeats 4000000 in
set_option maxRecDepth 100000 in
theorem law_case32 {p : Program} {l : Launch} {e : Env} {s : State} {m : MethodId} {below : List Frame} {meth : Method} {c : Code} {b L : Nat} {xs : Nat → Int32} (hL : L ≤ 3072) (C0 : lw_At p s m meth c b L xs) {G : xG} {tx : Nat} {wx : Nat → Nat} {tm : Nat} {wm : Nat → Nat} (hm : Amb G (fun q : Nat => s.heap.size ≤ q) s s.heap) {j c1 : Nat} {x3 : Int32} (hx3 : x3 = nI j) (hj : j + 6 ≤ L) (hc1 : c1 < 512) {H : Heap} {locs : List Loc} {ls : Array Slot} {ws : va_W} (hI : LInv G tx wx tm wm c1 ws) (hP : va_P G.1 vwCl ws H) (hD : va_D (fun q : Nat => s.heap.size ≤ q) ws) (hS : va_S (fun q : Nat => s.heap.size ≤ q) s.heap H locs) (hl : lv_has ls 4 [(0, .ref b), (1, .ref tx), (2, .ref tm), (3, .int x3)]) (kk : ∀ (ws1 : va_W) (H1 : Heap) (locs1 : List Loc), LInv G tx wx tm wm (c1 + 1) ws1 → va_P G.1 vwCl ws1 H1 → va_D (fun q : Nat => s.heap.size ≤ q) ws1 → va_S (fun q : Nat => s.heap.size ≤ q) s.heap H1 locs1 → W p l e room_1 s m #[Value.ref b] below meth c H1 locs1 78 5109 (lw_Z below #[Value.ref b] s) (F0 m 1278 ls [])) : W p l e room_1 s m #[Value.ref b] below meth c H locs 78 5109 (lw_Z below #[Value.ref b] s) (F0 m 1183 ls []) := by
  obtain ⟨hx, hb, hr, hml, hown, hts, hX, hbl, hlocks, hgv⟩ := id C0
  have hbA : ¬ (fun q : Nat => s.heap.size ≤ q) b := Nat.not_le.mpr hbl
  have hZ : xAnd p m c code 4 s _ lw_tbl R_law G (fun q : Nat => s.heap.size ≤ q) := ⟨⟨hx, hb, hml, hown, hts⟩, TBL_in, fun _ h => h, hm⟩
  obtain ⟨r, ws1, ws2, ⟨rm1, hf1, hl1, hz1, hk1⟩, hw1, ⟨rm2, hf2, hl2, hz2, hk2⟩, hI2⟩ := st_restore G tx wx tm wm  c1 ws hc1 hI
  obtain ⟨fx, hxx⟩ := hI.isW.x
  obtain ⟨fm, hmm⟩ := hw1.m
  refine lv_aload_n hx hb dL_law_1183 rfl (lv_at hl 1 rfl) ?_
  refine xAllI (As := []) (rest := []) hZ hk1 (hw1.fst.trans hI.isW.fst.symm) m1076 m1077 m1078 m2 m1079 0 ⟨rfl, hdX7_restore⟩ ⟨Nat.le_trans (Nat.add_le_add_right hf1 1) (Nat.le_of_ble_eq_true rfl), Nat.le_trans (Nat.add_le_add_left hl1 _) (Nat.le_of_ble_eq_true rfl)⟩ hz1 hP hD hS 0 7 rfl rfl hxx rfl hl.1 rfl (Nat.le_of_ble_eq_true rfl) dL_law_1184 ⟨Nat.le_of_ble_eq_true rfl, Nat.le_of_ble_eq_true rfl⟩ (fun H locs hP hD hS => ?_)
  refine lv_aload_n hx hb dL_law_1187 rfl (lv_at hl 2 rfl) ?_
  refine xAllI (As := []) (rest := [.int r]) hZ hk2 (hI2.isW.fst.trans hw1.fst.symm) m1080 m1081 m1082 m5 m1083 0 ⟨rfl, hdX8_restore⟩ ⟨Nat.le_trans (Nat.add_le_add_right hf2 1) (Nat.le_of_ble_eq_true rfl), Nat.le_trans (Nat.add_le_add_left hl2 _) (Nat.le_of_ble_eq_true rfl)⟩ hz2 hP hD hS 63 8 rfl rfl hmm rfl hl.1 rfl (Nat.le_of_ble_eq_true rfl) dL_law_1188 ⟨Nat.le_of_ble_eq_true rfl, Nat.le_of_ble_eq_true rfl⟩ (fun H locs hP hD hS => ?_)
  refine lv_icmp_eq (tgt := 1278) hx hb dL_law_1191 (by decide) (fun _ => ?_) (fun h => absurd rfl h)
  exact kk ws2 H locs hI2 hP hD hS
set_option maxHeartbeats 4000000 in
set_option maxRecDepth 100000 in
theorem law_case33 {p : Program} {l : Launch} {e : Env} {s : State} {m : MethodId} {below : List Frame} {meth : Method} {c : Code} {b L : Nat} {xs : Nat → Int32} (hL : L ≤ 3072) (C0 : lw_At p s m meth c b L xs) {G : xG} {tx : Nat} {wx : Nat → Nat} {tm : Nat} {wm : Nat → Nat} (hm : Amb G (fun q : Nat => s.heap.size ≤ q) s s.heap) {j c1 : Nat} {x3 : Int32} (hx3 : x3 = nI j) (hj : j + 6 ≤ L) (hc1 : c1 < 512) {H : Heap} {locs : List Loc} {ls : Array Slot} {ws : va_W} (hI : LInv G tx wx tm wm c1 ws) (hP : va_P G.1 vwCl ws H) (hD : va_D (fun q : Nat => s.heap.size ≤ q) ws) (hS : va_S (fun q : Nat => s.heap.size ≤ q) s.heap H locs) (hl : lv_has ls 4 [(0, .ref b), (1, .ref tx), (2, .ref tm), (3, .int x3)]) (kk : ∀ (ws1 : va_W) (H1 : Heap) (locs1 : List Loc), LInv G tx wx tm wm (c1 + 1) ws1 → va_P G.1 vwCl ws1 H1 → va_D (fun q : Nat => s.heap.size ≤ q) ws1 → va_S (fun q : Nat => s.heap.size ≤ q) s.heap H1 locs1 → W p l e room_1 s m #[Value.ref b] below meth c H1 locs1 78 5109 (lw_Z below #[Value.ref b] s) (F0 m 1278 ls [])) : W p l e room_1 s m #[Value.ref b] below meth c H locs 78 5109 (lw_Z below #[Value.ref b] s) (F0 m 1196 ls []) := by
  obtain ⟨hx, hb, hr, hml, hown, hts, hX, hbl, hlocks, hgv⟩ := id C0
  have hbA : ¬ (fun q : Nat => s.heap.size ≤ q) b := Nat.not_le.mpr hbl
  have hZ : xAnd p m c code 4 s _ lw_tbl R_law G (fun q : Nat => s.heap.size ≤ q) := ⟨⟨hx, hb, hml, hown, hts⟩, TBL_in, fun _ h => h, hm⟩
  obtain ⟨r, ws1, ws2, ⟨rm1, hf1, hl1, hz1, hk1⟩, hw1, ⟨rm2, hf2, hl2, hz2, hk2⟩, hI2⟩ := st_tell G tx wx tm wm (xs (x3 + (1 : Int32)).toNatClampNeg) c1 ws hc1 hI
  obtain ⟨fx, hxx⟩ := hI.isW.x
  obtain ⟨fm, hmm⟩ := hw1.m
  refine lv_aload_n hx hb dL_law_1196 rfl (lv_at hl 1 rfl) ?_
  refine lv_aload_n hx hb dL_law_1197 rfl (lv_at hl 0 rfl) ?_
  refine lv_iload_n hx hb dL_law_1198 rfl (lv_at hl 3 rfl) ?_
  refine lv_iconst (v := 1) hx hb dL_law_1199 (by decide) ?_
  refine lv_iadd hx hb dL_law_1200 ?_
  refine va_sld hx hb hX hbl hbA hS (xIn1 hx3 hj hL) dL_law_1201 ?_
  refine xAllI (As := [.int (xs (x3 + (1 : Int32)).toNatClampNeg)]) (rest := []) hZ hk1 (hw1.fst.trans hI.isW.fst.symm) m1084 m1085 m1086 m2 m1087 1 ⟨rfl, hdX7_tell⟩ ⟨Nat.le_trans (Nat.add_le_add_right hf1 1) (Nat.le_of_ble_eq_true rfl), Nat.le_trans (Nat.add_le_add_left hl1 _) (Nat.le_of_ble_eq_true rfl)⟩ hz1 hP hD hS 0 7 rfl rfl hxx rfl hl.1 rfl (Nat.le_of_ble_eq_true rfl) dL_law_1202 ⟨Nat.le_of_ble_eq_true rfl, Nat.le_of_ble_eq_true rfl⟩ (fun H locs hP hD hS => ?_)
  refine lv_aload_n hx hb dL_law_1205 rfl (lv_at hl 2 rfl) ?_
  refine lv_aload_n hx hb dL_law_1206 rfl (lv_at hl 0 rfl) ?_
  refine lv_iload_n hx hb dL_law_1207 rfl (lv_at hl 3 rfl) ?_
  refine lv_iconst (v := 1) hx hb dL_law_1208 (by decide) ?_
  refine lv_iadd hx hb dL_law_1209 ?_
  refine va_sld hx hb hX hbl hbA hS (xIn1 hx3 hj hL) dL_law_1210 ?_
  refine xAllI (As := [.int (xs (x3 + (1 : Int32)).toNatClampNeg)]) (rest := [.int r]) hZ hk2 (hI2.isW.fst.trans hw1.fst.symm) m1089 m1090 m1091 m5 m1092 1 ⟨rfl, hdX8_tell⟩ ⟨Nat.le_trans (Nat.add_le_add_right hf2 1) (Nat.le_of_ble_eq_true rfl), Nat.le_trans (Nat.add_le_add_left hl2 _) (Nat.le_of_ble_eq_true rfl)⟩ hz2 hP hD hS 63 8 rfl rfl hmm rfl hl.1 rfl (Nat.le_of_ble_eq_true rfl) dL_law_1211 ⟨Nat.le_of_ble_eq_true rfl, Nat.le_of_ble_eq_true rfl⟩ (fun H locs hP hD hS => ?_)
  refine lv_icmp_eq (tgt := 1278) hx hb dL_law_1214 (by decide) (fun _ => ?_) (fun h => absurd rfl h)
  exact kk ws2 H locs hI2 hP hD hS
set_option maxHeartbeats 4000000 in
set_option maxRecDepth 100000 in
theorem law_case34 {p : Program} {l : Launch} {e : Env} {s : State} {m : MethodId} {below : List Frame} {meth : Method} {c : Code} {b L : Nat} {xs : Nat → Int32} (hL : L ≤ 3072) (C0 : lw_At p s m meth c b L xs) {G : xG} {tx : Nat} {wx : Nat → Nat} {tm : Nat} {wm : Nat → Nat} (hm : Amb G (fun q : Nat => s.heap.size ≤ q) s s.heap) {j c1 : Nat} {x3 : Int32} (hx3 : x3 = nI j) (hj : j + 6 ≤ L) (hc1 : c1 < 512) {H : Heap} {locs : List Loc} {ls : Array Slot} {ws : va_W} (hI : LInv G tx wx tm wm c1 ws) (hP : va_P G.1 vwCl ws H) (hD : va_D (fun q : Nat => s.heap.size ≤ q) ws) (hS : va_S (fun q : Nat => s.heap.size ≤ q) s.heap H locs) (hl : lv_has ls 4 [(0, .ref b), (1, .ref tx), (2, .ref tm), (3, .int x3)]) (kk : ∀ (ws1 : va_W) (H1 : Heap) (locs1 : List Loc), LInv G tx wx tm wm (c1 + 1) ws1 → va_P G.1 vwCl ws1 H1 → va_D (fun q : Nat => s.heap.size ≤ q) ws1 → va_S (fun q : Nat => s.heap.size ≤ q) s.heap H1 locs1 → W p l e room_1 s m #[Value.ref b] below meth c H1 locs1 78 5109 (lw_Z below #[Value.ref b] s) (F0 m 1278 ls [])) : W p l e room_1 s m #[Value.ref b] below meth c H locs 78 5109 (lw_Z below #[Value.ref b] s) (F0 m 1219 ls []) := by
  obtain ⟨hx, hb, hr, hml, hown, hts, hX, hbl, hlocks, hgv⟩ := id C0
  have hbA : ¬ (fun q : Nat => s.heap.size ≤ q) b := Nat.not_le.mpr hbl
  have hZ : xAnd p m c code 4 s _ lw_tbl R_law G (fun q : Nat => s.heap.size ≤ q) := ⟨⟨hx, hb, hml, hown, hts⟩, TBL_in, fun _ h => h, hm⟩
  obtain ⟨r, ws1, ws2, ⟨rm1, hf1, hl1, hz1, hk1⟩, hw1, ⟨rm2, hf2, hl2, hz2, hk2⟩, hI2⟩ := st_check G tx wx tm wm  c1 ws hc1 hI
  obtain ⟨fx, hxx⟩ := hI.isW.x
  obtain ⟨fm, hmm⟩ := hw1.m
  refine lv_aload_n hx hb dL_law_1219 rfl (lv_at hl 1 rfl) ?_
  refine xAllI (As := []) (rest := []) hZ hk1 (hw1.fst.trans hI.isW.fst.symm) m1093 m1094 m1095 m2 m1096 0 ⟨rfl, hdX7_check⟩ ⟨Nat.le_trans (Nat.add_le_add_right hf1 1) (Nat.le_of_ble_eq_true rfl), Nat.le_trans (Nat.add_le_add_left hl1 _) (Nat.le_of_ble_eq_true rfl)⟩ hz1 hP hD hS 0 7 rfl rfl hxx rfl hl.1 rfl (Nat.le_of_ble_eq_true rfl) dL_law_1220 ⟨Nat.le_of_ble_eq_true rfl, Nat.le_of_ble_eq_true rfl⟩ (fun H locs hP hD hS => ?_)
  refine lv_aload_n hx hb dL_law_1223 rfl (lv_at hl 2 rfl) ?_
  refine xAllI (As := []) (rest := [.int r]) hZ hk2 (hI2.isW.fst.trans hw1.fst.symm) m1097 m1098 m1099 m5 m1100 0 ⟨rfl, hdX8_check⟩ ⟨Nat.le_trans (Nat.add_le_add_right hf2 1) (Nat.le_of_ble_eq_true rfl), Nat.le_trans (Nat.add_le_add_left hl2 _) (Nat.le_of_ble_eq_true rfl)⟩ hz2 hP hD hS 63 8 rfl rfl hmm rfl hl.1 rfl (Nat.le_of_ble_eq_true rfl) dL_law_1224 ⟨Nat.le_of_ble_eq_true rfl, Nat.le_of_ble_eq_true rfl⟩ (fun H locs hP hD hS => ?_)
  refine lv_icmp_eq (tgt := 1278) hx hb dL_law_1227 (by decide) (fun _ => ?_) (fun h => absurd rfl h)
  exact kk ws2 H locs hI2 hP hD hS
set_option maxHeartbeats 4000000 in
set_option maxRecDepth 100000 in
theorem law_case35 {p : Program} {l : Launch} {e : Env} {s : State} {m : MethodId} {below : List Frame} {meth : Method} {c : Code} {b L : Nat} {xs : Nat → Int32} (hL : L ≤ 3072) (C0 : lw_At p s m meth c b L xs) {G : xG} {tx : Nat} {wx : Nat → Nat} {tm : Nat} {wm : Nat → Nat} (hm : Amb G (fun q : Nat => s.heap.size ≤ q) s s.heap) {j c1 : Nat} {x3 : Int32} (hx3 : x3 = nI j) (hj : j + 6 ≤ L) (hc1 : c1 < 512) {H : Heap} {locs : List Loc} {ls : Array Slot} {ws : va_W} (hI : LInv G tx wx tm wm c1 ws) (hP : va_P G.1 vwCl ws H) (hD : va_D (fun q : Nat => s.heap.size ≤ q) ws) (hS : va_S (fun q : Nat => s.heap.size ≤ q) s.heap H locs) (hl : lv_has ls 4 [(0, .ref b), (1, .ref tx), (2, .ref tm), (3, .int x3)]) (kk : ∀ (ws1 : va_W) (H1 : Heap) (locs1 : List Loc), LInv G tx wx tm wm (c1 + 1) ws1 → va_P G.1 vwCl ws1 H1 → va_D (fun q : Nat => s.heap.size ≤ q) ws1 → va_S (fun q : Nat => s.heap.size ≤ q) s.heap H1 locs1 → W p l e room_1 s m #[Value.ref b] below meth c H1 locs1 78 5109 (lw_Z below #[Value.ref b] s) (F0 m 1278 ls [])) : W p l e room_1 s m #[Value.ref b] below meth c H locs 78 5109 (lw_Z below #[Value.ref b] s) (F0 m 1232 ls []) := by
  obtain ⟨hx, hb, hr, hml, hown, hts, hX, hbl, hlocks, hgv⟩ := id C0
  have hbA : ¬ (fun q : Nat => s.heap.size ≤ q) b := Nat.not_le.mpr hbl
  have hZ : xAnd p m c code 4 s _ lw_tbl R_law G (fun q : Nat => s.heap.size ≤ q) := ⟨⟨hx, hb, hml, hown, hts⟩, TBL_in, fun _ h => h, hm⟩
  obtain ⟨r, ws1, ws2, ⟨rm1, hf1, hl1, hz1, hk1⟩, hw1, ⟨rm2, hf2, hl2, hz2, hk2⟩, hI2⟩ := st_count G tx wx tm wm (xs (x3 + (1 : Int32)).toNatClampNeg) c1 ws hc1 hI
  obtain ⟨fx, hxx⟩ := hI.isW.x
  obtain ⟨fm, hmm⟩ := hw1.m
  refine lv_aload_n hx hb dL_law_1232 rfl (lv_at hl 1 rfl) ?_
  refine lv_aload_n hx hb dL_law_1233 rfl (lv_at hl 0 rfl) ?_
  refine lv_iload_n hx hb dL_law_1234 rfl (lv_at hl 3 rfl) ?_
  refine lv_iconst (v := 1) hx hb dL_law_1235 (by decide) ?_
  refine lv_iadd hx hb dL_law_1236 ?_
  refine va_sld hx hb hX hbl hbA hS (xIn1 hx3 hj hL) dL_law_1237 ?_
  refine xAllI (As := [.int (xs (x3 + (1 : Int32)).toNatClampNeg)]) (rest := []) hZ hk1 (hw1.fst.trans hI.isW.fst.symm) m1101 m1102 m1103 m2 m1104 1 ⟨rfl, hdX7_count⟩ ⟨Nat.le_trans (Nat.add_le_add_right hf1 1) (Nat.le_of_ble_eq_true rfl), Nat.le_trans (Nat.add_le_add_left hl1 _) (Nat.le_of_ble_eq_true rfl)⟩ hz1 hP hD hS 0 7 rfl rfl hxx rfl hl.1 rfl (Nat.le_of_ble_eq_true rfl) dL_law_1238 ⟨Nat.le_of_ble_eq_true rfl, Nat.le_of_ble_eq_true rfl⟩ (fun H locs hP hD hS => ?_)
  refine lv_aload_n hx hb dL_law_1241 rfl (lv_at hl 2 rfl) ?_
  refine lv_aload_n hx hb dL_law_1242 rfl (lv_at hl 0 rfl) ?_
  refine lv_iload_n hx hb dL_law_1243 rfl (lv_at hl 3 rfl) ?_
  refine lv_iconst (v := 1) hx hb dL_law_1244 (by decide) ?_
  refine lv_iadd hx hb dL_law_1245 ?_
  refine va_sld hx hb hX hbl hbA hS (xIn1 hx3 hj hL) dL_law_1246 ?_
  refine xAllI (As := [.int (xs (x3 + (1 : Int32)).toNatClampNeg)]) (rest := [.int r]) hZ hk2 (hI2.isW.fst.trans hw1.fst.symm) m1105 m1106 m1107 m5 m1108 1 ⟨rfl, hdX8_count⟩ ⟨Nat.le_trans (Nat.add_le_add_right hf2 1) (Nat.le_of_ble_eq_true rfl), Nat.le_trans (Nat.add_le_add_left hl2 _) (Nat.le_of_ble_eq_true rfl)⟩ hz2 hP hD hS 63 8 rfl rfl hmm rfl hl.1 rfl (Nat.le_of_ble_eq_true rfl) dL_law_1247 ⟨Nat.le_of_ble_eq_true rfl, Nat.le_of_ble_eq_true rfl⟩ (fun H locs hP hD hS => ?_)
  refine lv_icmp_eq (tgt := 1278) hx hb dL_law_1250 (by decide) (fun _ => ?_) (fun h => absurd rfl h)
  exact kk ws2 H locs hI2 hP hD hS
set_option maxHeartbeats 4000000 in
set_option maxRecDepth 100000 in
theorem law_case36 {p : Program} {l : Launch} {e : Env} {s : State} {m : MethodId} {below : List Frame} {meth : Method} {c : Code} {b L : Nat} {xs : Nat → Int32} (hL : L ≤ 3072) (C0 : lw_At p s m meth c b L xs) {G : xG} {tx : Nat} {wx : Nat → Nat} {tm : Nat} {wm : Nat → Nat} (hm : Amb G (fun q : Nat => s.heap.size ≤ q) s s.heap) {j c1 : Nat} {x3 : Int32} (hx3 : x3 = nI j) (hj : j + 6 ≤ L) (hc1 : c1 < 512) {H : Heap} {locs : List Loc} {ls : Array Slot} {ws : va_W} (hI : LInv G tx wx tm wm c1 ws) (hP : va_P G.1 vwCl ws H) (hD : va_D (fun q : Nat => s.heap.size ≤ q) ws) (hS : va_S (fun q : Nat => s.heap.size ≤ q) s.heap H locs) (hl : lv_has ls 4 [(0, .ref b), (1, .ref tx), (2, .ref tm), (3, .int x3)]) (kk : ∀ (ws1 : va_W) (H1 : Heap) (locs1 : List Loc), LInv G tx wx tm wm (c1 + 1) ws1 → va_P G.1 vwCl ws1 H1 → va_D (fun q : Nat => s.heap.size ≤ q) ws1 → va_S (fun q : Nat => s.heap.size ≤ q) s.heap H1 locs1 → W p l e room_1 s m #[Value.ref b] below meth c H1 locs1 78 5109 (lw_Z below #[Value.ref b] s) (F0 m 1278 ls [])) : W p l e room_1 s m #[Value.ref b] below meth c H locs 78 5109 (lw_Z below #[Value.ref b] s) (F0 m 1255 ls []) := by
  obtain ⟨hx, hb, hr, hml, hown, hts, hX, hbl, hlocks, hgv⟩ := id C0
  have hbA : ¬ (fun q : Nat => s.heap.size ≤ q) b := Nat.not_le.mpr hbl
  have hZ : xAnd p m c code 4 s _ lw_tbl R_law G (fun q : Nat => s.heap.size ≤ q) := ⟨⟨hx, hb, hml, hown, hts⟩, TBL_in, fun _ h => h, hm⟩
  obtain ⟨r, ws1, ws2, ⟨rm1, hf1, hl1, hz1, hk1⟩, hw1, ⟨rm2, hf2, hl2, hz2, hk2⟩, hI2⟩ := st_told G tx wx tm wm (xs (x3 + (1 : Int32)).toNatClampNeg) c1 ws hc1 hI
  obtain ⟨fx, hxx⟩ := hI.isW.x
  obtain ⟨fm, hmm⟩ := hw1.m
  refine lv_aload_n hx hb dL_law_1255 rfl (lv_at hl 1 rfl) ?_
  refine lv_aload_n hx hb dL_law_1256 rfl (lv_at hl 0 rfl) ?_
  refine lv_iload_n hx hb dL_law_1257 rfl (lv_at hl 3 rfl) ?_
  refine lv_iconst (v := 1) hx hb dL_law_1258 (by decide) ?_
  refine lv_iadd hx hb dL_law_1259 ?_
  refine va_sld hx hb hX hbl hbA hS (xIn1 hx3 hj hL) dL_law_1260 ?_
  refine xAllI (As := [.int (xs (x3 + (1 : Int32)).toNatClampNeg)]) (rest := []) hZ hk1 (hw1.fst.trans hI.isW.fst.symm) m1109 m1110 m1111 m2 m1112 1 ⟨rfl, hdX7_told⟩ ⟨Nat.le_trans (Nat.add_le_add_right hf1 1) (Nat.le_of_ble_eq_true rfl), Nat.le_trans (Nat.add_le_add_left hl1 _) (Nat.le_of_ble_eq_true rfl)⟩ hz1 hP hD hS 0 7 rfl rfl hxx rfl hl.1 rfl (Nat.le_of_ble_eq_true rfl) dL_law_1261 ⟨Nat.le_of_ble_eq_true rfl, Nat.le_of_ble_eq_true rfl⟩ (fun H locs hP hD hS => ?_)
  refine lv_aload_n hx hb dL_law_1264 rfl (lv_at hl 2 rfl) ?_
  refine lv_aload_n hx hb dL_law_1265 rfl (lv_at hl 0 rfl) ?_
  refine lv_iload_n hx hb dL_law_1266 rfl (lv_at hl 3 rfl) ?_
  refine lv_iconst (v := 1) hx hb dL_law_1267 (by decide) ?_
  refine lv_iadd hx hb dL_law_1268 ?_
  refine va_sld hx hb hX hbl hbA hS (xIn1 hx3 hj hL) dL_law_1269 ?_
  refine xAllI (As := [.int (xs (x3 + (1 : Int32)).toNatClampNeg)]) (rest := [.int r]) hZ hk2 (hI2.isW.fst.trans hw1.fst.symm) m1113 m1114 m1115 m5 m1116 1 ⟨rfl, hdX8_told⟩ ⟨Nat.le_trans (Nat.add_le_add_right hf2 1) (Nat.le_of_ble_eq_true rfl), Nat.le_trans (Nat.add_le_add_left hl2 _) (Nat.le_of_ble_eq_true rfl)⟩ hz2 hP hD hS 63 8 rfl rfl hmm rfl hl.1 rfl (Nat.le_of_ble_eq_true rfl) dL_law_1270 ⟨Nat.le_of_ble_eq_true rfl, Nat.le_of_ble_eq_true rfl⟩ (fun H locs hP hD hS => ?_)
  refine lv_icmp_eq (tgt := 1278) hx hb dL_law_1273 (by decide) (fun _ => ?_) (fun h => absurd rfl h)
  exact kk ws2 H locs hI2 hP hD hS
