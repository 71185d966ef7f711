def F_X8_twoOf (sg : Int32) (ia : Int32) (ib : Int32) : Option Int32 := if sg = (37 : Int32) then (if ib = 0 then (some (0 : Int32)) else (if ib = 0 then none else (some (ia - ia / ib * ib)))) else (if sg = (38 : Int32) then (if ia = 0 then (some (0 : Int32)) else (if ib = 0 then (some (0 : Int32)) else (some (1 : Int32)))) else (if sg = (42 : Int32) then (some (ia * ib)) else (if sg = (43 : Int32) then (some (ia + ib)) else (if sg = (45 : Int32) then (some (ia - ib)) else (if sg = (47 : Int32) then (if ib = 0 then (some (0 : Int32)) else (if ib = 0 then none else (some (ia / ib)))) else (if sg = (60 : Int32) then (if ib ≤ ia then (some (0 : Int32)) else (some (1 : Int32))) else (if sg = (61 : Int32) then (if ia = ib then (some (1 : Int32)) else (some (0 : Int32))) else (if sg = (62 : Int32) then (if ia ≤ ib then (some (0 : Int32)) else (some (1 : Int32))) else (if ia = 0 then (if ib = 0 then (some (0 : Int32)) else (some (1 : Int32))) else (some (1 : Int32)))))))))))
theorem hdX8_twoOf : yX8_twoOf.cls ≠ "java/lang/invoke/MethodHandle" ∧ yX8_twoOf.cls ≠ "java/lang/invoke/VarHandle" ∧ (parseMethodDescriptor yX8_twoOf.desc).map (fun d => d.parameters.length) = some 3 := by decide +kernel
set_option maxHeartbeats 4000000 in
set_option maxRecDepth 100000 in
theorem c_X8_twoOf (G : xG) (sg : Int32) (ia : Int32) (ib : Int32)  (u : Int32) (hF : F_X8_twoOf sg ia ib = some u) : Ki G .int yX8_twoOf (Cond.code yX8_twoOf cX8_twoOf 3 (some .int) :: TBL) { frames := 0, cells := 0, slots := 0, locals := 0 } [.int sg, .int ia, .int ib] [] [] u := by
  intro l sz
  refine Met.ofW (cc := cX8_twoOf) (maxL := 3) (ret := (some .int)) (by decide) rfl ?_
  intro p e s m args below meth c s₁ B hml hv
  obtain ⟨rfl, hsz, hP, hD0, hm⟩ := hv
  have hx := B.exec
  have hb := B.bytes
  have hr := B.returns
  have hts := atoms_spec (ws := Cond.code yX8_twoOf cX8_twoOf 3 (some .int) :: TBL) B.pre
  have hown : s.vm.findClass RX8 = some m.cls := findClass_of_methodNamed B.named
  have hlocks := B.notSynchronized
  subst hsz
  have hD := hD0.self (sz := s.heap.size)
  generalize hAe : va_A [] s.heap.size = A at hD hm ⊢
  have hA : ∀ q : Nat, s.heap.size ≤ q → A q := fun q h => by rw [← hAe]; exact Or.inr h
  have hK := hm.1
  have hZ : xAnd p m c cX8_twoOf 3 s _ (Cond.code yX8_twoOf cX8_twoOf 3 (some .int) :: TBL) RX8 G A := ⟨⟨hx, hb, hml, hown, hts⟩, tcons, hA, hm⟩
  have hP : va_P G.1 vwCl [] s.heap := hP
  have hl := lv_entry ([.int sg, .int ia, .int ib]) (n := 3) (Nat.le_of_ble_eq_true rfl)
  rw [lg_entry_eq]
  generalize (lg_sl ([.int sg, .int ia, .int ib]) ++ List.replicate (3 - (lg_sl ([.int sg, .int ia, .int ib])).length) Slot.unset).toArray = ls at hl ⊢
  have hl : lv_has ls 3 [(0, .int sg), (1, .int ia), (2, .int ib)] := hl
  generalize hQ : MQ below _ _ s _ _ _ = Q
  refine xGo (A := A) hP (fun H locs hP hS => ?_)
  unfold F_X8_twoOf at hF
  refine lv_iload_n hx hb dX8_twoOf_0 rfl (lv_at hl 0 rfl) ?_
  by_cases c1_0 : sg = (37 : Int32)
  · have hF := itP c1_0 hF
    refine lv_tableIn (off := 143) (tgt := 144) hx hb dX8_twoOf_1 (by rw [c1_0]; decide) (by rw [c1_0]; decide) (by rw [c1_0]; rfl) (by decide) ?_
    refine lv_iload_n hx hb dX8_twoOf_144 rfl (lv_at hl 2 rfl) ?_
    refine lv_if_ne (tgt := 152) hx hb dX8_twoOf_145 (by decide) (fun c145 => ?_) (fun c145 => ?_)
    · have hF := itN c145 hF
      refine lv_iload_n hx hb dX8_twoOf_152 rfl (lv_at hl 1 rfl) ?_
      refine lv_iload_n hx hb dX8_twoOf_153 rfl (lv_at hl 2 rfl) ?_
      obtain ⟨g154, hF⟩ := gdS hF
      refine lv_irem hx hb dX8_twoOf_154 g154 ?_
      obtain rfl := Option.some.inj hF
      rw [← hQ]
      exact W.iret (v := (ia - ia / ib * ib)) hx hb hr (fun t ht hW => ⟨⟨_, (), rfl, ⟨rfl, rfl⟩, xLf hP ht⟩, hS.F ht⟩) hS.2.2 dX8_twoOf_155
    · have hF := itP c145 hF
      refine lv_iconst (v := 0) hx hb dX8_twoOf_148 (by decide) ?_
      refine lv_goto (tgt := 155) hx hb dX8_twoOf_149 (by decide) ?_
      obtain rfl := Option.some.inj hF
      rw [← hQ]
      exact W.iret (v := (0 : Int32)) hx hb hr (fun t ht hW => ⟨⟨_, (), rfl, ⟨rfl, rfl⟩, xLf hP ht⟩, hS.F ht⟩) hS.2.2 dX8_twoOf_155
  · have hF := itN c1_0 hF
    by_cases c1_1 : sg = (38 : Int32)
    · have hF := itP c1_1 hF
      refine lv_tableIn (off := 188) (tgt := 189) hx hb dX8_twoOf_1 (by rw [c1_1]; decide) (by rw [c1_1]; decide) (by rw [c1_1]; rfl) (by decide) ?_
      refine lv_iload_n hx hb dX8_twoOf_189 rfl (lv_at hl 1 rfl) ?_
      refine lv_if_eq (tgt := 201) hx hb dX8_twoOf_190 (by decide) (fun c190 => ?_) (fun c190 => ?_)
      · have hF := itP c190 hF
        refine lv_iconst (v := 0) hx hb dX8_twoOf_201 (by decide) ?_
        obtain rfl := Option.some.inj hF
        rw [← hQ]
        exact W.iret (v := (0 : Int32)) hx hb hr (fun t ht hW => ⟨⟨_, (), rfl, ⟨rfl, rfl⟩, xLf hP ht⟩, hS.F ht⟩) hS.2.2 dX8_twoOf_202
      · have hF := itN c190 hF
        refine lv_iload_n hx hb dX8_twoOf_193 rfl (lv_at hl 2 rfl) ?_
        refine lv_if_eq (tgt := 201) hx hb dX8_twoOf_194 (by decide) (fun c194 => ?_) (fun c194 => ?_)
        · have hF := itP c194 hF
          refine lv_iconst (v := 0) hx hb dX8_twoOf_201 (by decide) ?_
          obtain rfl := Option.some.inj hF
          rw [← hQ]
          exact W.iret (v := (0 : Int32)) hx hb hr (fun t ht hW => ⟨⟨_, (), rfl, ⟨rfl, rfl⟩, xLf hP ht⟩, hS.F ht⟩) hS.2.2 dX8_twoOf_202
        · have hF := itN c194 hF
          refine lv_iconst (v := 1) hx hb dX8_twoOf_197 (by decide) ?_
          refine lv_goto (tgt := 202) hx hb dX8_twoOf_198 (by decide) ?_
          obtain rfl := Option.some.inj hF
          rw [← hQ]
          exact W.iret (v := (1 : Int32)) hx hb hr (fun t ht hW => ⟨⟨_, (), rfl, ⟨rfl, rfl⟩, xLf hP ht⟩, hS.F ht⟩) hS.2.2 dX8_twoOf_202
    · have hF := itN c1_1 hF
      by_cases c1_2 : sg = (42 : Int32)
      · have hF := itP c1_2 hF
        refine lv_tableIn (off := 127) (tgt := 128) hx hb dX8_twoOf_1 (by rw [c1_2]; decide) (by rw [c1_2]; decide) (by rw [c1_2]; rfl) (by decide) ?_
        refine lv_iload_n hx hb dX8_twoOf_128 rfl (lv_at hl 1 rfl) ?_
        refine lv_iload_n hx hb dX8_twoOf_129 rfl (lv_at hl 2 rfl) ?_
        refine lv_imul hx hb dX8_twoOf_130 ?_
        obtain rfl := Option.some.inj hF
        rw [← hQ]
        exact W.iret (v := (ia * ib)) hx hb hr (fun t ht hW => ⟨⟨_, (), rfl, ⟨rfl, rfl⟩, xLf hP ht⟩, hS.F ht⟩) hS.2.2 dX8_twoOf_131
      · have hF := itN c1_2 hF
        by_cases c1_3 : sg = (43 : Int32)
        · have hF := itP c1_3 hF
          refine lv_tableIn (off := 119) (tgt := 120) hx hb dX8_twoOf_1 (by rw [c1_3]; decide) (by rw [c1_3]; decide) (by rw [c1_3]; rfl) (by decide) ?_
          refine lv_iload_n hx hb dX8_twoOf_120 rfl (lv_at hl 1 rfl) ?_
          refine lv_iload_n hx hb dX8_twoOf_121 rfl (lv_at hl 2 rfl) ?_
          refine lv_iadd hx hb dX8_twoOf_122 ?_
          obtain rfl := Option.some.inj hF
          rw [← hQ]
          exact W.iret (v := (ia + ib)) hx hb hr (fun t ht hW => ⟨⟨_, (), rfl, ⟨rfl, rfl⟩, xLf hP ht⟩, hS.F ht⟩) hS.2.2 dX8_twoOf_123
        · have hF := itN c1_3 hF
          by_cases c1_4 : sg = (45 : Int32)
          · have hF := itP c1_4 hF
            refine lv_tableIn (off := 123) (tgt := 124) hx hb dX8_twoOf_1 (by rw [c1_4]; decide) (by rw [c1_4]; decide) (by rw [c1_4]; rfl) (by decide) ?_
            refine lv_iload_n hx hb dX8_twoOf_124 rfl (lv_at hl 1 rfl) ?_
            refine lv_iload_n hx hb dX8_twoOf_125 rfl (lv_at hl 2 rfl) ?_
            refine lv_isub hx hb dX8_twoOf_126 ?_
            obtain rfl := Option.some.inj hF
            rw [← hQ]
            exact W.iret (v := (ia - ib)) hx hb hr (fun t ht hW => ⟨⟨_, (), rfl, ⟨rfl, rfl⟩, xLf hP ht⟩, hS.F ht⟩) hS.2.2 dX8_twoOf_127
          · have hF := itN c1_4 hF
            by_cases c1_5 : sg = (47 : Int32)
            · have hF := itP c1_5 hF
              refine lv_tableIn (off := 131) (tgt := 132) hx hb dX8_twoOf_1 (by rw [c1_5]; decide) (by rw [c1_5]; decide) (by rw [c1_5]; rfl) (by decide) ?_
              refine lv_iload_n hx hb dX8_twoOf_132 rfl (lv_at hl 2 rfl) ?_
              refine lv_if_ne (tgt := 140) hx hb dX8_twoOf_133 (by decide) (fun c133 => ?_) (fun c133 => ?_)
              · have hF := itN c133 hF
                refine lv_iload_n hx hb dX8_twoOf_140 rfl (lv_at hl 1 rfl) ?_
                refine lv_iload_n hx hb dX8_twoOf_141 rfl (lv_at hl 2 rfl) ?_
                obtain ⟨g142, hF⟩ := gdS hF
                refine lv_idiv hx hb dX8_twoOf_142 g142 ?_
                obtain rfl := Option.some.inj hF
                rw [← hQ]
                exact W.iret (v := (ia / ib)) hx hb hr (fun t ht hW => ⟨⟨_, (), rfl, ⟨rfl, rfl⟩, xLf hP ht⟩, hS.F ht⟩) hS.2.2 dX8_twoOf_143
              · have hF := itP c133 hF
                refine lv_iconst (v := 0) hx hb dX8_twoOf_136 (by decide) ?_
                refine lv_goto (tgt := 143) hx hb dX8_twoOf_137 (by decide) ?_
                obtain rfl := Option.some.inj hF
                rw [← hQ]
                exact W.iret (v := (0 : Int32)) hx hb hr (fun t ht hW => ⟨⟨_, (), rfl, ⟨rfl, rfl⟩, xLf hP ht⟩, hS.F ht⟩) hS.2.2 dX8_twoOf_143
            · have hF := itN c1_5 hF
              by_cases c1_6 : sg = (60 : Int32)
              · have hF := itP c1_6 hF
                refine lv_tableIn (off := 155) (tgt := 156) hx hb dX8_twoOf_1 (by rw [c1_6]; decide) (by rw [c1_6]; decide) (by rw [c1_6]; rfl) (by decide) ?_
                refine lv_iload_n hx hb dX8_twoOf_156 rfl (lv_at hl 1 rfl) ?_
                refine lv_iload_n hx hb dX8_twoOf_157 rfl (lv_at hl 2 rfl) ?_
                refine lv_icmp_ge (tgt := 165) hx hb dX8_twoOf_158 (by decide) (fun c158 => ?_) (fun c158 => ?_)
                · have hF := itP c158 hF
                  refine lv_iconst (v := 0) hx hb dX8_twoOf_165 (by decide) ?_
                  obtain rfl := Option.some.inj hF
                  rw [← hQ]
                  exact W.iret (v := (0 : Int32)) hx hb hr (fun t ht hW => ⟨⟨_, (), rfl, ⟨rfl, rfl⟩, xLf hP ht⟩, hS.F ht⟩) hS.2.2 dX8_twoOf_166
                · have hF := itN c158 hF
                  refine lv_iconst (v := 1) hx hb dX8_twoOf_161 (by decide) ?_
                  refine lv_goto (tgt := 166) hx hb dX8_twoOf_162 (by decide) ?_
                  obtain rfl := Option.some.inj hF
                  rw [← hQ]
                  exact W.iret (v := (1 : Int32)) hx hb hr (fun t ht hW => ⟨⟨_, (), rfl, ⟨rfl, rfl⟩, xLf hP ht⟩, hS.F ht⟩) hS.2.2 dX8_twoOf_166
              · have hF := itN c1_6 hF
                by_cases c1_7 : sg = (61 : Int32)
                · have hF := itP c1_7 hF
                  refine lv_tableIn (off := 166) (tgt := 167) hx hb dX8_twoOf_1 (by rw [c1_7]; decide) (by rw [c1_7]; decide) (by rw [c1_7]; rfl) (by decide) ?_
                  refine lv_iload_n hx hb dX8_twoOf_167 rfl (lv_at hl 1 rfl) ?_
                  refine lv_iload_n hx hb dX8_twoOf_168 rfl (lv_at hl 2 rfl) ?_
                  refine lv_icmp_ne (tgt := 176) hx hb dX8_twoOf_169 (by decide) (fun c169 => ?_) (fun c169 => ?_)
                  · have hF := itN c169 hF
                    refine lv_iconst (v := 0) hx hb dX8_twoOf_176 (by decide) ?_
                    obtain rfl := Option.some.inj hF
                    rw [← hQ]
                    exact W.iret (v := (0 : Int32)) hx hb hr (fun t ht hW => ⟨⟨_, (), rfl, ⟨rfl, rfl⟩, xLf hP ht⟩, hS.F ht⟩) hS.2.2 dX8_twoOf_177
                  · have hF := itP c169 hF
                    refine lv_iconst (v := 1) hx hb dX8_twoOf_172 (by decide) ?_
                    refine lv_goto (tgt := 177) hx hb dX8_twoOf_173 (by decide) ?_
                    obtain rfl := Option.some.inj hF
                    rw [← hQ]
                    exact W.iret (v := (1 : Int32)) hx hb hr (fun t ht hW => ⟨⟨_, (), rfl, ⟨rfl, rfl⟩, xLf hP ht⟩, hS.F ht⟩) hS.2.2 dX8_twoOf_177
                · have hF := itN c1_7 hF
                  by_cases c1_8 : sg = (62 : Int32)
                  · have hF := itP c1_8 hF
                    refine lv_tableIn (off := 177) (tgt := 178) hx hb dX8_twoOf_1 (by rw [c1_8]; decide) (by rw [c1_8]; decide) (by rw [c1_8]; rfl) (by decide) ?_
                    refine lv_iload_n hx hb dX8_twoOf_178 rfl (lv_at hl 1 rfl) ?_
                    refine lv_iload_n hx hb dX8_twoOf_179 rfl (lv_at hl 2 rfl) ?_
                    refine lv_icmp_le (tgt := 187) hx hb dX8_twoOf_180 (by decide) (fun c180 => ?_) (fun c180 => ?_)
                    · have hF := itP c180 hF
                      refine lv_iconst (v := 0) hx hb dX8_twoOf_187 (by decide) ?_
                      obtain rfl := Option.some.inj hF
                      rw [← hQ]
                      exact W.iret (v := (0 : Int32)) hx hb hr (fun t ht hW => ⟨⟨_, (), rfl, ⟨rfl, rfl⟩, xLf hP ht⟩, hS.F ht⟩) hS.2.2 dX8_twoOf_188
                    · have hF := itN c180 hF
                      refine lv_iconst (v := 1) hx hb dX8_twoOf_183 (by decide) ?_
                      refine lv_goto (tgt := 188) hx hb dX8_twoOf_184 (by decide) ?_
                      obtain rfl := Option.some.inj hF
                      rw [← hQ]
                      exact W.iret (v := (1 : Int32)) hx hb hr (fun t ht hW => ⟨⟨_, (), rfl, ⟨rfl, rfl⟩, xLf hP ht⟩, hS.F ht⟩) hS.2.2 dX8_twoOf_188
                  · have hF := itN c1_8 hF
                    refine xTab (tgt := 203) hx hb dX8_twoOf_1 (by have h0 : sg.toInt ≠ 37 := xNe c1_0; have h1 : sg.toInt ≠ 38 := xNe c1_1; have h2 : sg.toInt ≠ 42 := xNe c1_2; have h3 : sg.toInt ≠ 43 := xNe c1_3; have h4 : sg.toInt ≠ 45 := xNe c1_4; have h5 : sg.toInt ≠ 47 := xNe c1_5; have h6 : sg.toInt ≠ 60 := xNe c1_6; have h7 : sg.toInt ≠ 61 := xNe c1_7; have h8 : sg.toInt ≠ 62 := xNe c1_8; rcases (show sg.toInt < 37 ∨ 62 < sg.toInt ∨ sg.toInt = 39 ∨ sg.toInt = 40 ∨ sg.toInt = 41 ∨ sg.toInt = 44 ∨ sg.toInt = 46 ∨ sg.toInt = 48 ∨ sg.toInt = 49 ∨ sg.toInt = 50 ∨ sg.toInt = 51 ∨ sg.toInt = 52 ∨ sg.toInt = 53 ∨ sg.toInt = 54 ∨ sg.toInt = 55 ∨ sg.toInt = 56 ∨ sg.toInt = 57 ∨ sg.toInt = 58 ∨ sg.toInt = 59 by omega) with h | h | h | h | h | h | h | h | h | h | h | h | h | h | h | h | h | h | h; exact Or.inl h; exact Or.inr (Or.inl h); all_goals exact Or.inr (Or.inr (by rw [h]; rfl))) (by decide) ?_
                    refine lv_iload_n hx hb dX8_twoOf_203 rfl (lv_at hl 1 rfl) ?_
                    refine lv_if_ne (tgt := 211) hx hb dX8_twoOf_204 (by decide) (fun c204 => ?_) (fun c204 => ?_)
                    · have hF := itN c204 hF
                      refine lv_iconst (v := 1) hx hb dX8_twoOf_211 (by decide) ?_
                      refine lv_goto (tgt := 216) hx hb dX8_twoOf_212 (by decide) ?_
                      obtain rfl := Option.some.inj hF
                      rw [← hQ]
                      exact W.iret (v := (1 : Int32)) hx hb hr (fun t ht hW => ⟨⟨_, (), rfl, ⟨rfl, rfl⟩, xLf hP ht⟩, hS.F ht⟩) hS.2.2 dX8_twoOf_216
                    · have hF := itP c204 hF
                      refine lv_iload_n hx hb dX8_twoOf_207 rfl (lv_at hl 2 rfl) ?_
                      refine lv_if_eq (tgt := 215) hx hb dX8_twoOf_208 (by decide) (fun c208 => ?_) (fun c208 => ?_)
                      · have hF := itP c208 hF
                        refine lv_iconst (v := 0) hx hb dX8_twoOf_215 (by decide) ?_
                        obtain rfl := Option.some.inj hF
                        rw [← hQ]
                        exact W.iret (v := (0 : Int32)) hx hb hr (fun t ht hW => ⟨⟨_, (), rfl, ⟨rfl, rfl⟩, xLf hP ht⟩, hS.F ht⟩) hS.2.2 dX8_twoOf_216
                      · have hF := itN c208 hF
                        refine lv_iconst (v := 1) hx hb dX8_twoOf_211 (by decide) ?_
                        refine lv_goto (tgt := 216) hx hb dX8_twoOf_212 (by decide) ?_
                        obtain rfl := Option.some.inj hF
                        rw [← hQ]
                        exact W.iret (v := (1 : Int32)) hx hb hr (fun t ht hW => ⟨⟨_, (), rfl, ⟨rfl, rfl⟩, xLf hP ht⟩, hS.F ht⟩) hS.2.2 dX8_twoOf_216
def B_X8_works_4 (row_f : Nat → Int32) (facts_f : Nat → Int32) (pos : Int32) (k4 : (Int32 × Int32 × (Nat → Int32)) → Option (Int32 × (Nat → Int32))) (v4 : (Int32 × Int32 × (Nat → Int32))) : Option (Int32 × (Nat → Int32)) := if (pos < 0 ∨ 400 ≤ pos.toNatClampNeg) then none else (if (row_f pos.toNatClampNeg) ≤ v4.2.1 then (some ((v4.2.2 (0 : Int32).toNatClampNeg), v4.2.2)) else (if (((pos + (1 : Int32)) + v4.2.1) < 0 ∨ 400 ≤ ((pos + (1 : Int32)) + v4.2.1).toNatClampNeg) then none else (if (row_f ((pos + (1 : Int32)) + v4.2.1).toNatClampNeg) = (1 : Int32) then (if (row_f ((pos + (1 : Int32)) + v4.2.1).toNatClampNeg) = (1 : Int32) then (if (((pos + (61 : Int32)) + v4.2.1) < 0 ∨ 400 ≤ ((pos + (61 : Int32)) + v4.2.1).toNatClampNeg) then none else (if (v4.1 < 0 ∨ 60 ≤ v4.1.toNatClampNeg) then none else (k4 ((v4.1 + (1 : Int32)), (v4.2.1 + (1 : Int32)), (upd v4.2.2 v4.1.toNatClampNeg (row_f ((pos + (61 : Int32)) + v4.2.1).toNatClampNeg)))))) else (if (((pos + (61 : Int32)) + v4.2.1) < 0 ∨ 400 ≤ ((pos + (61 : Int32)) + v4.2.1).toNatClampNeg) then none else (if ((row_f ((pos + (61 : Int32)) + v4.2.1).toNatClampNeg) < 0 ∨ 3 ≤ (row_f ((pos + (61 : Int32)) + v4.2.1).toNatClampNeg).toNatClampNeg) then none else (if (v4.1 < 0 ∨ 60 ≤ v4.1.toNatClampNeg) then none else (k4 ((v4.1 + (1 : Int32)), (v4.2.1 + (1 : Int32)), (upd v4.2.2 v4.1.toNatClampNeg (facts_f (row_f ((pos + (61 : Int32)) + v4.2.1).toNatClampNeg).toNatClampNeg)))))))) else (if (row_f ((pos + (1 : Int32)) + v4.2.1).toNatClampNeg) = (2 : Int32) then (if (row_f ((pos + (1 : Int32)) + v4.2.1).toNatClampNeg) = (1 : Int32) then (if (((pos + (61 : Int32)) + v4.2.1) < 0 ∨ 400 ≤ ((pos + (61 : Int32)) + v4.2.1).toNatClampNeg) then none else (if (v4.1 < 0 ∨ 60 ≤ v4.1.toNatClampNeg) then none else (k4 ((v4.1 + (1 : Int32)), (v4.2.1 + (1 : Int32)), (upd v4.2.2 v4.1.toNatClampNeg (row_f ((pos + (61 : Int32)) + v4.2.1).toNatClampNeg)))))) else (if (((pos + (61 : Int32)) + v4.2.1) < 0 ∨ 400 ≤ ((pos + (61 : Int32)) + v4.2.1).toNatClampNeg) then none else (if ((row_f ((pos + (61 : Int32)) + v4.2.1).toNatClampNeg) < 0 ∨ 3 ≤ (row_f ((pos + (61 : Int32)) + v4.2.1).toNatClampNeg).toNatClampNeg) then none else (if (v4.1 < 0 ∨ 60 ≤ v4.1.toNatClampNeg) then none else (k4 ((v4.1 + (1 : Int32)), (v4.2.1 + (1 : Int32)), (upd v4.2.2 v4.1.toNatClampNeg (facts_f (row_f ((pos + (61 : Int32)) + v4.2.1).toNatClampNeg).toNatClampNeg)))))))) else (if (row_f ((pos + (1 : Int32)) + v4.2.1).toNatClampNeg) = (3 : Int32) then (if ((v4.1 - (1 : Int32)) < 0 ∨ 60 ≤ (v4.1 - (1 : Int32)).toNatClampNeg) then none else (if (v4.2.2 (v4.1 - (1 : Int32)).toNatClampNeg) = 0 then (if ((v4.1 - (1 : Int32)) < 0 ∨ 60 ≤ (v4.1 - (1 : Int32)).toNatClampNeg) then none else (k4 (v4.1, (v4.2.1 + (1 : Int32)), (upd v4.2.2 (v4.1 - (1 : Int32)).toNatClampNeg (1 : Int32))))) else (if ((v4.1 - (1 : Int32)) < 0 ∨ 60 ≤ (v4.1 - (1 : Int32)).toNatClampNeg) then none else (k4 (v4.1, (v4.2.1 + (1 : Int32)), (upd v4.2.2 (v4.1 - (1 : Int32)).toNatClampNeg (0 : Int32))))))) else (if (((v4.1 + (-1 : Int32)) - (1 : Int32)) < 0 ∨ 60 ≤ ((v4.1 + (-1 : Int32)) - (1 : Int32)).toNatClampNeg) then none else (if ((v4.1 + (-1 : Int32)) < 0 ∨ 60 ≤ (v4.1 + (-1 : Int32)).toNatClampNeg) then none else (bd (F_X8_twoOf (row_f ((pos + (1 : Int32)) + v4.2.1).toNatClampNeg) (v4.2.2 ((v4.1 + (-1 : Int32)) - (1 : Int32)).toNatClampNeg) (v4.2.2 (v4.1 + (-1 : Int32)).toNatClampNeg)) (fun (u1 : Int32) => if (((v4.1 + (-1 : Int32)) - (1 : Int32)) < 0 ∨ 60 ≤ ((v4.1 + (-1 : Int32)) - (1 : Int32)).toNatClampNeg) then none else (k4 ((v4.1 + (-1 : Int32)), (v4.2.1 + (1 : Int32)), (upd v4.2.2 ((v4.1 + (-1 : Int32)) - (1 : Int32)).toNatClampNeg u1))))))))))))
def F_X8_works (row_f : Nat → Int32) (facts_f : Nat → Int32) (pile_f : Nat → Int32) (pos : Int32) : Option (Int32 × (Nat → Int32)) := lp (B_X8_works_4 row_f facts_f pos) fuelC ((0 : Int32), (0 : Int32), pile_f)
theorem hdX8_works : yX8_works.cls ≠ "java/lang/invoke/MethodHandle" ∧ yX8_works.cls ≠ "java/lang/invoke/VarHandle" ∧ (parseMethodDescriptor yX8_works.desc).map (fun d => d.parameters.length) = some 1 := by decide +kernel
set_option maxHeartbeats 4000000 in
set_option maxRecDepth 100000 in
theorem c_X8_works (G : xG) (t : Nat) (row : Nat) (kpt : Nat) (errs : Nat) (bitsOf : Nat) (sizeOf : Nat) (cels : Nat) (broken : Nat) (isFit : Nat) (breaks : Nat) (act : Nat) (wth : Nat) (facts : Nat) (pile : Nat) (trc : Nat) (images : Int32) (mfit : Int32) (known : Int32) (laid : Int32) (hre : Int32) (opnd : Int32) (bad : Int32) (usg : Int32) (trcd : Int32) (isP : Int32) (row_f : Nat → Int32) (facts_f : Nat → Int32) (pile_f : Nat → Int32) (pos : Int32)  (u : (Int32 × (Nat → Int32))) (hF : F_X8_works row_f facts_f pile_f pos = some u) : Ki G .int yX8_works (Cond.code yX8_works cX8_works 5 (some .int) :: TBL) { frames := 1, cells := 0, slots := 0, locals := 22 } [.ref t, .int pos] [(t, .inr (8, [.ref row, .ref kpt, .int images, .ref errs, .ref bitsOf, .ref sizeOf, .ref cels, .ref broken, .ref isFit, .ref breaks, .int mfit, .int known, .ref act, .ref wth, .ref facts, .ref pile, .int laid, .int hre, .int opnd, .int bad, .int usg, .ref trc, .int trcd, .int isP])), (row, .inl (xI G, 400, .inl row_f)), (facts, .inl (xI G, 3, .inl facts_f)), (pile, .inl (xI G, 60, .inl pile_f))] [(t, .inr (8, [.ref row, .ref kpt, .int images, .ref errs, .ref bitsOf, .ref sizeOf, .ref cels, .ref broken, .ref isFit, .ref breaks, .int mfit, .int known, .ref act, .ref wth, .ref facts, .ref pile, .int laid, .int hre, .int opnd, .int bad, .int usg, .ref trc, .int trcd, .int isP])), (row, .inl (xI G, 400, .inl row_f)), (facts, .inl (xI G, 3, .inl facts_f)), (pile, .inl (xI G, 60, .inl u.2))] u.1 := by
  intro l sz
  refine Met.ofW (cc := cX8_works) (maxL := 5) (ret := (some .int)) (by decide) rfl ?_
  intro p e s m args below meth c s₁ B hml hv
  obtain ⟨rfl, hsz, hP, hD0, hm⟩ := hv
  have hx := B.exec
  have hb := B.bytes
  have hr := B.returns
  have hts := atoms_spec (ws := Cond.code yX8_works cX8_works 5 (some .int) :: TBL) B.pre
  have hown : s.vm.findClass RX8 = some m.cls := findClass_of_methodNamed B.named
  have hlocks := B.notSynchronized
  subst hsz
  have hD := hD0.self (sz := s.heap.size)
  generalize hAe : va_A [(t, .inr (8, [.ref row, .ref kpt, .int images, .ref errs, .ref bitsOf, .ref sizeOf, .ref cels, .ref broken, .ref isFit, .ref breaks, .int mfit, .int known, .ref act, .ref wth, .ref facts, .ref pile, .int laid, .int hre, .int opnd, .int bad, .int usg, .ref trc, .int trcd, .int isP])), (row, .inl (xI G, 400, .inl row_f)), (facts, .inl (xI G, 3, .inl facts_f)), (pile, .inl (xI G, 60, .inl pile_f))] s.heap.size = A at hD hm ⊢
  have hA : ∀ q : Nat, s.heap.size ≤ q → A q := fun q h => by rw [← hAe]; exact Or.inr h
  have hK := hm.1
  have hZ : xAnd p m c cX8_works 5 s _ (Cond.code yX8_works cX8_works 5 (some .int) :: TBL) RX8 G A := ⟨⟨hx, hb, hml, hown, hts⟩, tcons, hA, hm⟩
  have hP : va_P G.1 vwCl [(t, .inr (8, [.ref row, .ref kpt, .int images, .ref errs, .ref bitsOf, .ref sizeOf, .ref cels, .ref broken, .ref isFit, .ref breaks, .int mfit, .int known, .ref act, .ref wth, .ref facts, .ref pile, .int laid, .int hre, .int opnd, .int bad, .int usg, .ref trc, .int trcd, .int isP])), (row, .inl (xI G, 400, .inl row_f)), (facts, .inl (xI G, 3, .inl facts_f)), (pile, .inl (xI G, 60, .inl pile_f))] s.heap := hP
  have hl := lv_entry ([.ref t, .int pos]) (n := 5) (Nat.le_of_ble_eq_true rfl)
  rw [lg_entry_eq]
  generalize (lg_sl ([.ref t, .int pos]) ++ List.replicate (5 - (lg_sl ([.ref t, .int pos])).length) Slot.unset).toArray = ls at hl ⊢
  have hl : lv_has ls 5 [(0, .ref t), (1, .int pos)] := hl
  generalize hQ : MQ below _ _ s _ _ _ = Q
  refine xGo (A := A) hP (fun H locs hP hS => ?_)
  unfold F_X8_works at hF
  refine lv_iconst (v := 0) hx hb dX8_works_0 (by decide) ?_
  refine lv_istore_n (lv' := [(2, .int (0 : Int32)), (0, .ref t), (1, .int pos)]) hx hb dX8_works_1 rfl hl (by decide) rfl (fun ls hl => ?_)
  refine lv_iconst (v := 0) hx hb dX8_works_2 (by decide) ?_
  refine lv_istore_n (lv' := [(3, .int (0 : Int32)), (2, .int (0 : Int32)), (0, .ref t), (1, .int pos)]) hx hb dX8_works_3 rfl hl (by decide) rfl (fun ls hl => ?_)
  refine xLoop3 (body := (B_X8_works_4 row_f facts_f pos)) (fun (v4_0 : Int32) (v4_1 : Int32) (v4_2 : Nat → Int32) H locs ls => va_P G.1 vwCl [(t, .inr (8, [.ref row, .ref kpt, .int images, .ref errs, .ref bitsOf, .ref sizeOf, .ref cels, .ref broken, .ref isFit, .ref breaks, .int mfit, .int known, .ref act, .ref wth, .ref facts, .ref pile, .int laid, .int hre, .int opnd, .int bad, .int usg, .ref trc, .int trcd, .int isP])), (row, .inl (xI G, 400, .inl row_f)), (facts, .inl (xI G, 3, .inl facts_f)), (pile, .inl (xI G, 60, .inl v4_2))] H ∧ va_D A [(t, .inr (8, [.ref row, .ref kpt, .int images, .ref errs, .ref bitsOf, .ref sizeOf, .ref cels, .ref broken, .ref isFit, .ref breaks, .int mfit, .int known, .ref act, .ref wth, .ref facts, .ref pile, .int laid, .int hre, .int opnd, .int bad, .int usg, .ref trc, .int trcd, .int isP])), (row, .inl (xI G, 400, .inl row_f)), (facts, .inl (xI G, 3, .inl facts_f)), (pile, .inl (xI G, 60, .inl v4_2))] ∧ va_S A s.heap H locs ∧ lv_has ls 5 [(0, .ref t), (1, .int pos), (2, .int v4_0), (3, .int v4_1)]) (fun N4 v4_0 v4_1 v4_2 ih4 H locs ls hI hF => ?_) fuelC (0 : Int32) (0 : Int32) pile_f H locs ls ⟨hP, hD, hS, lv_sub hl [2, 3, 1, 0] rfl⟩ hF
  obtain ⟨hP, hD, hS, hl⟩ := hI
  unfold B_X8_works_4 at hF
  refine lv_iload_n hx hb dX8_works_4 rfl (lv_at hl 3 rfl) ?_
  refine lv_aload_n hx hb dX8_works_5 rfl (lv_at hl 0 rfl) ?_
  refine va_get (ci := 8) (v := .ref row) (C := RX8) (T := TX8) (N := 24) hx hb hts (fun w h => tcons w (xin8 w h)) hown hK hP 0 rfl rfl 0 (by decide) (hts _ (tcons _ m137)) (fun _ h9 => h9) rfl dX8_works_6 ?_
  refine lv_iload_n hx hb dX8_works_9 rfl (lv_at hl 1 rfl) ?_
  obtain ⟨g10, hF⟩ := gdS hF
  refine va_iald hx hb hK hP 1 0 rfl rfl g10 dX8_works_10 ?_
  refine lv_icmp_ge (tgt := 155) hx hb dX8_works_11 (by decide) (fun c11 => ?_) (fun c11 => ?_)
  · have hF := itP c11 hF
    refine lv_aload_n hx hb dX8_works_155 rfl (lv_at hl 0 rfl) ?_
    refine va_get (ci := 8) (v := .ref pile) (C := RX8) (T := TX8) (N := 24) hx hb hts (fun w h => tcons w (xin8 w h)) hown hK hP 0 rfl rfl 15 (by decide) (hts _ (tcons _ m149)) (fun _ h9 => h9) rfl dX8_works_156 ?_
    refine lv_iconst (v := 0) hx hb dX8_works_159 (by decide) ?_
    refine va_iald hx hb hK hP 3 0 rfl rfl (by unfold vp_in; decide) dX8_works_160 ?_
    obtain rfl := Option.some.inj hF
    rw [← hQ]
    exact W.iret (v := (v4_2 (0 : Int32).toNatClampNeg)) hx hb hr (fun t ht hW => ⟨⟨_, (), rfl, ⟨rfl, rfl⟩, xLf hP ht⟩, hS.F ht⟩) hS.2.2 dX8_works_161
  · have hF := itN c11 hF
    refine lv_aload_n hx hb dX8_works_14 rfl (lv_at hl 0 rfl) ?_
    refine va_get (ci := 8) (v := .ref row) (C := RX8) (T := TX8) (N := 24) hx hb hts (fun w h => tcons w (xin8 w h)) hown hK hP 0 rfl rfl 0 (by decide) (hts _ (tcons _ m137)) (fun _ h9 => h9) rfl dX8_works_15 ?_
    refine lv_iload_n hx hb dX8_works_18 rfl (lv_at hl 1 rfl) ?_
    refine lv_iconst (v := 1) hx hb dX8_works_19 (by decide) ?_
    refine lv_iadd hx hb dX8_works_20 ?_
    refine lv_iload_n hx hb dX8_works_21 rfl (lv_at hl 3 rfl) ?_
    refine lv_iadd hx hb dX8_works_22 ?_
    obtain ⟨g23, hF⟩ := gdS hF
    refine va_iald hx hb hK hP 1 0 rfl rfl g23 dX8_works_23 ?_
    refine lv_istore (lv' := [(4, .int (row_f ((pos + (1 : Int32)) + v4_1).toNatClampNeg)), (0, .ref t), (1, .int pos), (2, .int v4_0), (3, .int v4_1)]) hx hb dX8_works_24 hl (by decide) rfl (fun ls hl => ?_)
    refine lv_iload hx hb dX8_works_26 (lv_at hl 0 rfl) ?_
    refine lv_iconst (v := 1) hx hb dX8_works_28 (by decide) ?_
    refine lv_icmp_eq (tgt := 38) hx hb dX8_works_29 (by decide) (fun c29 => ?_) (fun c29 => ?_)
    · have hF := itP c29 hF
      refine lv_aload_n hx hb dX8_works_38 rfl (lv_at hl 1 rfl) ?_
      refine va_get (ci := 8) (v := .ref pile) (C := RX8) (T := TX8) (N := 24) hx hb hts (fun w h => tcons w (xin8 w h)) hown hK hP 0 rfl rfl 15 (by decide) (hts _ (tcons _ m149)) (fun _ h9 => h9) rfl dX8_works_39 ?_
      refine lv_iload_n hx hb dX8_works_42 rfl (lv_at hl 3 rfl) ?_
      refine lv_iload hx hb dX8_works_43 (lv_at hl 0 rfl) ?_
      refine lv_iconst (v := 1) hx hb dX8_works_45 (by decide) ?_
      refine lv_icmp_ne (tgt := 63) hx hb dX8_works_46 (by decide) (fun c46 => ?_) (fun c46 => ?_)
      · have hF := itN c46 hF
        refine lv_aload_n hx hb dX8_works_63 rfl (lv_at hl 1 rfl) ?_
        refine va_get (ci := 8) (v := .ref facts) (C := RX8) (T := TX8) (N := 24) hx hb hts (fun w h => tcons w (xin8 w h)) hown hK hP 0 rfl rfl 14 (by decide) (hts _ (tcons _ m148)) (fun _ h9 => h9) rfl dX8_works_64 ?_
        refine lv_aload_n hx hb dX8_works_67 rfl (lv_at hl 1 rfl) ?_
        refine va_get (ci := 8) (v := .ref row) (C := RX8) (T := TX8) (N := 24) hx hb hts (fun w h => tcons w (xin8 w h)) hown hK hP 0 rfl rfl 0 (by decide) (hts _ (tcons _ m137)) (fun _ h9 => h9) rfl dX8_works_68 ?_
        refine lv_iload_n hx hb dX8_works_71 rfl (lv_at hl 2 rfl) ?_
        refine lv_bipush (v := 61) hx hb dX8_works_72 (by decide) ?_
        refine lv_iadd hx hb dX8_works_74 ?_
        refine lv_iload_n hx hb dX8_works_75 rfl (lv_at hl 4 rfl) ?_
        refine lv_iadd hx hb dX8_works_76 ?_
        obtain ⟨g77, hF⟩ := gdS hF
        refine va_iald hx hb hK hP 1 0 rfl rfl g77 dX8_works_77 ?_
        obtain ⟨g78, hF⟩ := gdS hF
        refine va_iald hx hb hK hP 2 0 rfl rfl g78 dX8_works_78 ?_
        obtain ⟨g79, hF⟩ := gdS hF
        refine va_iast hx hb hK hP hD hS 3 0 rfl rfl g79 dX8_works_79 (fun H locs hP hD hS => ?_)
        have hP : va_P G.1 vwCl [(t, .inr (8, [.ref row, .ref kpt, .int images, .ref errs, .ref bitsOf, .ref sizeOf, .ref cels, .ref broken, .ref isFit, .ref breaks, .int mfit, .int known, .ref act, .ref wth, .ref facts, .ref pile, .int laid, .int hre, .int opnd, .int bad, .int usg, .ref trc, .int trcd, .int isP])), (row, .inl (xI G, 400, .inl row_f)), (facts, .inl (xI G, 3, .inl facts_f)), (pile, .inl (xI G, 60, .inl (upd v4_2 v4_0.toNatClampNeg (facts_f (row_f ((pos + (61 : Int32)) + v4_1).toNatClampNeg).toNatClampNeg))))] H := hP
        have hD : va_D A [(t, .inr (8, [.ref row, .ref kpt, .int images, .ref errs, .ref bitsOf, .ref sizeOf, .ref cels, .ref broken, .ref isFit, .ref breaks, .int mfit, .int known, .ref act, .ref wth, .ref facts, .ref pile, .int laid, .int hre, .int opnd, .int bad, .int usg, .ref trc, .int trcd, .int isP])), (row, .inl (xI G, 400, .inl row_f)), (facts, .inl (xI G, 3, .inl facts_f)), (pile, .inl (xI G, 60, .inl (upd v4_2 v4_0.toNatClampNeg (facts_f (row_f ((pos + (61 : Int32)) + v4_1).toNatClampNeg).toNatClampNeg))))] := hD
        refine lv_iinc (v := (v4_0 + (1 : Int32))) (lv' := [(2, .int (v4_0 + (1 : Int32))), (4, .int (row_f ((pos + (1 : Int32)) + v4_1).toNatClampNeg)), (0, .ref t), (1, .int pos), (3, .int v4_1)]) hx hb dX8_works_80 hl (k := 3) rfl (xInc_1 _) (by decide) rfl (fun ls hl => ?_)
        refine lv_goto (tgt := 149) hx hb dX8_works_83 (by decide) ?_
        refine lv_iinc (v := (v4_1 + (1 : Int32))) (lv' := [(3, .int (v4_1 + (1 : Int32))), (2, .int (v4_0 + (1 : Int32))), (4, .int (row_f ((pos + (1 : Int32)) + v4_1).toNatClampNeg)), (0, .ref t), (1, .int pos)]) hx hb dX8_works_149 hl (k := 4) rfl (xInc_1 _) (by decide) rfl (fun ls hl => ?_)
        refine lv_goto (tgt := 4) hx hb dX8_works_152 (by decide) ?_
        exact ih4 (v4_0 + (1 : Int32)) (v4_1 + (1 : Int32)) (upd v4_2 v4_0.toNatClampNeg (facts_f (row_f ((pos + (61 : Int32)) + v4_1).toNatClampNeg).toNatClampNeg)) H locs ls ⟨hP, hD, hS, lv_sub hl [3, 4, 1, 0] rfl⟩ hF
      · have hF := itP c46 hF
        refine lv_aload_n hx hb dX8_works_49 rfl (lv_at hl 1 rfl) ?_
        refine va_get (ci := 8) (v := .ref row) (C := RX8) (T := TX8) (N := 24) hx hb hts (fun w h => tcons w (xin8 w h)) hown hK hP 0 rfl rfl 0 (by decide) (hts _ (tcons _ m137)) (fun _ h9 => h9) rfl dX8_works_50 ?_
        refine lv_iload_n hx hb dX8_works_53 rfl (lv_at hl 2 rfl) ?_
        refine lv_bipush (v := 61) hx hb dX8_works_54 (by decide) ?_
        refine lv_iadd hx hb dX8_works_56 ?_
        refine lv_iload_n hx hb dX8_works_57 rfl (lv_at hl 4 rfl) ?_
        refine lv_iadd hx hb dX8_works_58 ?_
        obtain ⟨g59, hF⟩ := gdS hF
        refine va_iald hx hb hK hP 1 0 rfl rfl g59 dX8_works_59 ?_
        refine lv_goto (tgt := 79) hx hb dX8_works_60 (by decide) ?_
        obtain ⟨g79, hF⟩ := gdS hF
        refine va_iast hx hb hK hP hD hS 3 0 rfl rfl g79 dX8_works_79 (fun H locs hP hD hS => ?_)
        have hP : va_P G.1 vwCl [(t, .inr (8, [.ref row, .ref kpt, .int images, .ref errs, .ref bitsOf, .ref sizeOf, .ref cels, .ref broken, .ref isFit, .ref breaks, .int mfit, .int known, .ref act, .ref wth, .ref facts, .ref pile, .int laid, .int hre, .int opnd, .int bad, .int usg, .ref trc, .int trcd, .int isP])), (row, .inl (xI G, 400, .inl row_f)), (facts, .inl (xI G, 3, .inl facts_f)), (pile, .inl (xI G, 60, .inl (upd v4_2 v4_0.toNatClampNeg (row_f ((pos + (61 : Int32)) + v4_1).toNatClampNeg))))] H := hP
        have hD : va_D A [(t, .inr (8, [.ref row, .ref kpt, .int images, .ref errs, .ref bitsOf, .ref sizeOf, .ref cels, .ref broken, .ref isFit, .ref breaks, .int mfit, .int known, .ref act, .ref wth, .ref facts, .ref pile, .int laid, .int hre, .int opnd, .int bad, .int usg, .ref trc, .int trcd, .int isP])), (row, .inl (xI G, 400, .inl row_f)), (facts, .inl (xI G, 3, .inl facts_f)), (pile, .inl (xI G, 60, .inl (upd v4_2 v4_0.toNatClampNeg (row_f ((pos + (61 : Int32)) + v4_1).toNatClampNeg))))] := hD
        refine lv_iinc (v := (v4_0 + (1 : Int32))) (lv' := [(2, .int (v4_0 + (1 : Int32))), (4, .int (row_f ((pos + (1 : Int32)) + v4_1).toNatClampNeg)), (0, .ref t), (1, .int pos), (3, .int v4_1)]) hx hb dX8_works_80 hl (k := 3) rfl (xInc_1 _) (by decide) rfl (fun ls hl => ?_)
        refine lv_goto (tgt := 149) hx hb dX8_works_83 (by decide) ?_
        refine lv_iinc (v := (v4_1 + (1 : Int32))) (lv' := [(3, .int (v4_1 + (1 : Int32))), (2, .int (v4_0 + (1 : Int32))), (4, .int (row_f ((pos + (1 : Int32)) + v4_1).toNatClampNeg)), (0, .ref t), (1, .int pos)]) hx hb dX8_works_149 hl (k := 4) rfl (xInc_1 _) (by decide) rfl (fun ls hl => ?_)
        refine lv_goto (tgt := 4) hx hb dX8_works_152 (by decide) ?_
        exact ih4 (v4_0 + (1 : Int32)) (v4_1 + (1 : Int32)) (upd v4_2 v4_0.toNatClampNeg (row_f ((pos + (61 : Int32)) + v4_1).toNatClampNeg)) H locs ls ⟨hP, hD, hS, lv_sub hl [3, 4, 1, 0] rfl⟩ hF
    · have hF := itN c29 hF
      refine lv_iload hx hb dX8_works_32 (lv_at hl 0 rfl) ?_
      refine lv_iconst (v := 2) hx hb dX8_works_34 (by decide) ?_
      refine lv_icmp_ne (tgt := 86) hx hb dX8_works_35 (by decide) (fun c35 => ?_) (fun c35 => ?_)
      · have hF := itN c35 hF
        refine lv_iload hx hb dX8_works_86 (lv_at hl 0 rfl) ?_
        refine lv_iconst (v := 3) hx hb dX8_works_88 (by decide) ?_
        refine lv_icmp_ne (tgt := 119) hx hb dX8_works_89 (by decide) (fun c89 => ?_) (fun c89 => ?_)
        · have hF := itN c89 hF
          refine lv_iinc (v := (v4_0 + (-1 : Int32))) (lv' := [(2, .int (v4_0 + (-1 : Int32))), (4, .int (row_f ((pos + (1 : Int32)) + v4_1).toNatClampNeg)), (0, .ref t), (1, .int pos), (3, .int v4_1)]) hx hb dX8_works_119 hl (k := 3) rfl (xInc_m1 _) (by decide) rfl (fun ls hl => ?_)
          refine lv_aload_n hx hb dX8_works_122 rfl (lv_at hl 2 rfl) ?_
          refine va_get (ci := 8) (v := .ref pile) (C := RX8) (T := TX8) (N := 24) hx hb hts (fun w h => tcons w (xin8 w h)) hown hK hP 0 rfl rfl 15 (by decide) (hts _ (tcons _ m149)) (fun _ h9 => h9) rfl dX8_works_123 ?_
          refine lv_iload_n hx hb dX8_works_126 rfl (lv_at hl 0 rfl) ?_
          refine lv_iconst (v := 1) hx hb dX8_works_127 (by decide) ?_
          refine lv_isub hx hb dX8_works_128 ?_
          refine lv_iload hx hb dX8_works_129 (lv_at hl 1 rfl) ?_
          refine lv_aload_n hx hb dX8_works_131 rfl (lv_at hl 2 rfl) ?_
          refine va_get (ci := 8) (v := .ref pile) (C := RX8) (T := TX8) (N := 24) hx hb hts (fun w h => tcons w (xin8 w h)) hown hK hP 0 rfl rfl 15 (by decide) (hts _ (tcons _ m149)) (fun _ h9 => h9) rfl dX8_works_132 ?_
          refine lv_iload_n hx hb dX8_works_135 rfl (lv_at hl 0 rfl) ?_
          refine lv_iconst (v := 1) hx hb dX8_works_136 (by decide) ?_
          refine lv_isub hx hb dX8_works_137 ?_
          obtain ⟨g138, hF⟩ := gdS hF
          refine va_iald hx hb hK hP 3 0 rfl rfl g138 dX8_works_138 ?_
          refine lv_aload_n hx hb dX8_works_139 rfl (lv_at hl 2 rfl) ?_
          refine va_get (ci := 8) (v := .ref pile) (C := RX8) (T := TX8) (N := 24) hx hb hts (fun w h => tcons w (xin8 w h)) hown hK hP 0 rfl rfl 15 (by decide) (hts _ (tcons _ m149)) (fun _ h9 => h9) rfl dX8_works_140 ?_
          refine lv_iload_n hx hb dX8_works_143 rfl (lv_at hl 0 rfl) ?_
          obtain ⟨g144, hF⟩ := gdS hF
          refine va_iald hx hb hK hP 3 0 rfl rfl g144 dX8_works_144 ?_
          obtain ⟨u1, e1, hF⟩ := bdS hF
          refine xEndI (xRunS (As := [.int (row_f ((pos + (1 : Int32)) + v4_1).toNatClampNeg), .int (v4_2 ((v4_0 + (-1 : Int32)) - (1 : Int32)).toNatClampNeg), .int (v4_2 (v4_0 + (-1 : Int32)).toNatClampNeg)]) (rest := [.int ((v4_0 + (-1 : Int32)) - (1 : Int32)), .ref pile]) hZ (c_X8_twoOf G (row_f ((pos + (1 : Int32)) + v4_1).toNatClampNeg) (v4_2 ((v4_0 + (-1 : Int32)) - (1 : Int32)).toNatClampNeg) (v4_2 (v4_0 + (-1 : Int32)).toNatClampNeg) u1 e1 l H.size) m333 m334 m5 m335 3 hdX8_twoOf ⟨Nat.le_of_ble_eq_true rfl, Nat.le_of_ble_eq_true rfl⟩ ⟨rfl, rfl⟩ hP hD hS [] rfl rfl rfl hl.1 rfl (Nat.le_of_ble_eq_true rfl) dX8_works_145 ⟨Nat.zero_le _, Nat.zero_le _⟩) hP hD hS hA [] rfl rfl rfl (fun H locs n1 hP hD hS => ?_)
          have hP : va_P G.1 vwCl [(t, .inr (8, [.ref row, .ref kpt, .int images, .ref errs, .ref bitsOf, .ref sizeOf, .ref cels, .ref broken, .ref isFit, .ref breaks, .int mfit, .int known, .ref act, .ref wth, .ref facts, .ref pile, .int laid, .int hre, .int opnd, .int bad, .int usg, .ref trc, .int trcd, .int isP])), (row, .inl (xI G, 400, .inl row_f)), (facts, .inl (xI G, 3, .inl facts_f)), (pile, .inl (xI G, 60, .inl v4_2))] H := hP
          have hD : va_D A [(t, .inr (8, [.ref row, .ref kpt, .int images, .ref errs, .ref bitsOf, .ref sizeOf, .ref cels, .ref broken, .ref isFit, .ref breaks, .int mfit, .int known, .ref act, .ref wth, .ref facts, .ref pile, .int laid, .int hre, .int opnd, .int bad, .int usg, .ref trc, .int trcd, .int isP])), (row, .inl (xI G, 400, .inl row_f)), (facts, .inl (xI G, 3, .inl facts_f)), (pile, .inl (xI G, 60, .inl v4_2))] := hD
          obtain ⟨g148, hF⟩ := gdS hF
          refine va_iast hx hb hK hP hD hS 3 0 rfl rfl g148 dX8_works_148 (fun H locs hP hD hS => ?_)
          have hP : va_P G.1 vwCl [(t, .inr (8, [.ref row, .ref kpt, .int images, .ref errs, .ref bitsOf, .ref sizeOf, .ref cels, .ref broken, .ref isFit, .ref breaks, .int mfit, .int known, .ref act, .ref wth, .ref facts, .ref pile, .int laid, .int hre, .int opnd, .int bad, .int usg, .ref trc, .int trcd, .int isP])), (row, .inl (xI G, 400, .inl row_f)), (facts, .inl (xI G, 3, .inl facts_f)), (pile, .inl (xI G, 60, .inl (upd v4_2 ((v4_0 + (-1 : Int32)) - (1 : Int32)).toNatClampNeg u1)))] H := hP
          have hD : va_D A [(t, .inr (8, [.ref row, .ref kpt, .int images, .ref errs, .ref bitsOf, .ref sizeOf, .ref cels, .ref broken, .ref isFit, .ref breaks, .int mfit, .int known, .ref act, .ref wth, .ref facts, .ref pile, .int laid, .int hre, .int opnd, .int bad, .int usg, .ref trc, .int trcd, .int isP])), (row, .inl (xI G, 400, .inl row_f)), (facts, .inl (xI G, 3, .inl facts_f)), (pile, .inl (xI G, 60, .inl (upd v4_2 ((v4_0 + (-1 : Int32)) - (1 : Int32)).toNatClampNeg u1)))] := hD
          refine lv_iinc (v := (v4_1 + (1 : Int32))) (lv' := [(3, .int (v4_1 + (1 : Int32))), (2, .int (v4_0 + (-1 : Int32))), (4, .int (row_f ((pos + (1 : Int32)) + v4_1).toNatClampNeg)), (0, .ref t), (1, .int pos)]) hx hb dX8_works_149 hl (k := 4) rfl (xInc_1 _) (by decide) rfl (fun ls hl => ?_)
          refine lv_goto (tgt := 4) hx hb dX8_works_152 (by decide) ?_
          exact ih4 (v4_0 + (-1 : Int32)) (v4_1 + (1 : Int32)) (upd v4_2 ((v4_0 + (-1 : Int32)) - (1 : Int32)).toNatClampNeg u1) H locs ls ⟨hP, hD, hS, lv_sub hl [3, 4, 1, 0] rfl⟩ hF
        · have hF := itP c89 hF
          refine lv_aload_n hx hb dX8_works_92 rfl (lv_at hl 1 rfl) ?_
          refine va_get (ci := 8) (v := .ref pile) (C := RX8) (T := TX8) (N := 24) hx hb hts (fun w h => tcons w (xin8 w h)) hown hK hP 0 rfl rfl 15 (by decide) (hts _ (tcons _ m149)) (fun _ h9 => h9) rfl dX8_works_93 ?_
          refine lv_iload_n hx hb dX8_works_96 rfl (lv_at hl 3 rfl) ?_
          refine lv_iconst (v := 1) hx hb dX8_works_97 (by decide) ?_
          refine lv_isub hx hb dX8_works_98 ?_
          refine lv_aload_n hx hb dX8_works_99 rfl (lv_at hl 1 rfl) ?_
          refine va_get (ci := 8) (v := .ref pile) (C := RX8) (T := TX8) (N := 24) hx hb hts (fun w h => tcons w (xin8 w h)) hown hK hP 0 rfl rfl 15 (by decide) (hts _ (tcons _ m149)) (fun _ h9 => h9) rfl dX8_works_100 ?_
          refine lv_iload_n hx hb dX8_works_103 rfl (lv_at hl 3 rfl) ?_
          refine lv_iconst (v := 1) hx hb dX8_works_104 (by decide) ?_
          refine lv_isub hx hb dX8_works_105 ?_
          obtain ⟨g106, hF⟩ := gdS hF
          refine va_iald hx hb hK hP 3 0 rfl rfl g106 dX8_works_106 ?_
          refine lv_if_ne (tgt := 114) hx hb dX8_works_107 (by decide) (fun c107 => ?_) (fun c107 => ?_)
          · have hF := itN c107 hF
            refine lv_iconst (v := 0) hx hb dX8_works_114 (by decide) ?_
            obtain ⟨g115, hF⟩ := gdS hF
            refine va_iast hx hb hK hP hD hS 3 0 rfl rfl g115 dX8_works_115 (fun H locs hP hD hS => ?_)
            have hP : va_P G.1 vwCl [(t, .inr (8, [.ref row, .ref kpt, .int images, .ref errs, .ref bitsOf, .ref sizeOf, .ref cels, .ref broken, .ref isFit, .ref breaks, .int mfit, .int known, .ref act, .ref wth, .ref facts, .ref pile, .int laid, .int hre, .int opnd, .int bad, .int usg, .ref trc, .int trcd, .int isP])), (row, .inl (xI G, 400, .inl row_f)), (facts, .inl (xI G, 3, .inl facts_f)), (pile, .inl (xI G, 60, .inl (upd v4_2 (v4_0 - (1 : Int32)).toNatClampNeg (0 : Int32))))] H := hP
            have hD : va_D A [(t, .inr (8, [.ref row, .ref kpt, .int images, .ref errs, .ref bitsOf, .ref sizeOf, .ref cels, .ref broken, .ref isFit, .ref breaks, .int mfit, .int known, .ref act, .ref wth, .ref facts, .ref pile, .int laid, .int hre, .int opnd, .int bad, .int usg, .ref trc, .int trcd, .int isP])), (row, .inl (xI G, 400, .inl row_f)), (facts, .inl (xI G, 3, .inl facts_f)), (pile, .inl (xI G, 60, .inl (upd v4_2 (v4_0 - (1 : Int32)).toNatClampNeg (0 : Int32))))] := hD
            refine lv_goto (tgt := 149) hx hb dX8_works_116 (by decide) ?_
            refine lv_iinc (v := (v4_1 + (1 : Int32))) (lv' := [(3, .int (v4_1 + (1 : Int32))), (4, .int (row_f ((pos + (1 : Int32)) + v4_1).toNatClampNeg)), (0, .ref t), (1, .int pos), (2, .int v4_0)]) hx hb dX8_works_149 hl (k := 4) rfl (xInc_1 _) (by decide) rfl (fun ls hl => ?_)
            refine lv_goto (tgt := 4) hx hb dX8_works_152 (by decide) ?_
            exact ih4 v4_0 (v4_1 + (1 : Int32)) (upd v4_2 (v4_0 - (1 : Int32)).toNatClampNeg (0 : Int32)) H locs ls ⟨hP, hD, hS, lv_sub hl [2, 3, 4, 0] rfl⟩ hF
          · have hF := itP c107 hF
            refine lv_iconst (v := 1) hx hb dX8_works_110 (by decide) ?_
            refine lv_goto (tgt := 115) hx hb dX8_works_111 (by decide) ?_
            obtain ⟨g115, hF⟩ := gdS hF
            refine va_iast hx hb hK hP hD hS 3 0 rfl rfl g115 dX8_works_115 (fun H locs hP hD hS => ?_)
            have hP : va_P G.1 vwCl [(t, .inr (8, [.ref row, .ref kpt, .int images, .ref errs, .ref bitsOf, .ref sizeOf, .ref cels, .ref broken, .ref isFit, .ref breaks, .int mfit, .int known, .ref act, .ref wth, .ref facts, .ref pile, .int laid, .int hre, .int opnd, .int bad, .int usg, .ref trc, .int trcd, .int isP])), (row, .inl (xI G, 400, .inl row_f)), (facts, .inl (xI G, 3, .inl facts_f)), (pile, .inl (xI G, 60, .inl (upd v4_2 (v4_0 - (1 : Int32)).toNatClampNeg (1 : Int32))))] H := hP
            have hD : va_D A [(t, .inr (8, [.ref row, .ref kpt, .int images, .ref errs, .ref bitsOf, .ref sizeOf, .ref cels, .ref broken, .ref isFit, .ref breaks, .int mfit, .int known, .ref act, .ref wth, .ref facts, .ref pile, .int laid, .int hre, .int opnd, .int bad, .int usg, .ref trc, .int trcd, .int isP])), (row, .inl (xI G, 400, .inl row_f)), (facts, .inl (xI G, 3, .inl facts_f)), (pile, .inl (xI G, 60, .inl (upd v4_2 (v4_0 - (1 : Int32)).toNatClampNeg (1 : Int32))))] := hD
            refine lv_goto (tgt := 149) hx hb dX8_works_116 (by decide) ?_
            refine lv_iinc (v := (v4_1 + (1 : Int32))) (lv' := [(3, .int (v4_1 + (1 : Int32))), (4, .int (row_f ((pos + (1 : Int32)) + v4_1).toNatClampNeg)), (0, .ref t), (1, .int pos), (2, .int v4_0)]) hx hb dX8_works_149 hl (k := 4) rfl (xInc_1 _) (by decide) rfl (fun ls hl => ?_)
            refine lv_goto (tgt := 4) hx hb dX8_works_152 (by decide) ?_
            exact ih4 v4_0 (v4_1 + (1 : Int32)) (upd v4_2 (v4_0 - (1 : Int32)).toNatClampNeg (1 : Int32)) H locs ls ⟨hP, hD, hS, lv_sub hl [2, 3, 4, 0] rfl⟩ hF
      · have hF := itP c35 hF
        refine lv_aload_n hx hb dX8_works_38 rfl (lv_at hl 1 rfl) ?_
        refine va_get (ci := 8) (v := .ref pile) (C := RX8) (T := TX8) (N := 24) hx hb hts (fun w h => tcons w (xin8 w h)) hown hK hP 0 rfl rfl 15 (by decide) (hts _ (tcons _ m149)) (fun _ h9 => h9) rfl dX8_works_39 ?_
        refine lv_iload_n hx hb dX8_works_42 rfl (lv_at hl 3 rfl) ?_
        refine lv_iload hx hb dX8_works_43 (lv_at hl 0 rfl) ?_
        refine lv_iconst (v := 1) hx hb dX8_works_45 (by decide) ?_
        refine lv_icmp_ne (tgt := 63) hx hb dX8_works_46 (by decide) (fun c46 => ?_) (fun c46 => ?_)
        · have hF := itN c46 hF
          refine lv_aload_n hx hb dX8_works_63 rfl (lv_at hl 1 rfl) ?_
          refine va_get (ci := 8) (v := .ref facts) (C := RX8) (T := TX8) (N := 24) hx hb hts (fun w h => tcons w (xin8 w h)) hown hK hP 0 rfl rfl 14 (by decide) (hts _ (tcons _ m148)) (fun _ h9 => h9) rfl dX8_works_64 ?_
          refine lv_aload_n hx hb dX8_works_67 rfl (lv_at hl 1 rfl) ?_
          refine va_get (ci := 8) (v := .ref row) (C := RX8) (T := TX8) (N := 24) hx hb hts (fun w h => tcons w (xin8 w h)) hown hK hP 0 rfl rfl 0 (by decide) (hts _ (tcons _ m137)) (fun _ h9 => h9) rfl dX8_works_68 ?_
          refine lv_iload_n hx hb dX8_works_71 rfl (lv_at hl 2 rfl) ?_
          refine lv_bipush (v := 61) hx hb dX8_works_72 (by decide) ?_
          refine lv_iadd hx hb dX8_works_74 ?_
          refine lv_iload_n hx hb dX8_works_75 rfl (lv_at hl 4 rfl) ?_
          refine lv_iadd hx hb dX8_works_76 ?_
          obtain ⟨g77, hF⟩ := gdS hF
          refine va_iald hx hb hK hP 1 0 rfl rfl g77 dX8_works_77 ?_
          obtain ⟨g78, hF⟩ := gdS hF
          refine va_iald hx hb hK hP 2 0 rfl rfl g78 dX8_works_78 ?_
          obtain ⟨g79, hF⟩ := gdS hF
          refine va_iast hx hb hK hP hD hS 3 0 rfl rfl g79 dX8_works_79 (fun H locs hP hD hS => ?_)
          have hP : va_P G.1 vwCl [(t, .inr (8, [.ref row, .ref kpt, .int images, .ref errs, .ref bitsOf, .ref sizeOf, .ref cels, .ref broken, .ref isFit, .ref breaks, .int mfit, .int known, .ref act, .ref wth, .ref facts, .ref pile, .int laid, .int hre, .int opnd, .int bad, .int usg, .ref trc, .int trcd, .int isP])), (row, .inl (xI G, 400, .inl row_f)), (facts, .inl (xI G, 3, .inl facts_f)), (pile, .inl (xI G, 60, .inl (upd v4_2 v4_0.toNatClampNeg (facts_f (row_f ((pos + (61 : Int32)) + v4_1).toNatClampNeg).toNatClampNeg))))] H := hP
          have hD : va_D A [(t, .inr (8, [.ref row, .ref kpt, .int images, .ref errs, .ref bitsOf, .ref sizeOf, .ref cels, .ref broken, .ref isFit, .ref breaks, .int mfit, .int known, .ref act, .ref wth, .ref facts, .ref pile, .int laid, .int hre, .int opnd, .int bad, .int usg, .ref trc, .int trcd, .int isP])), (row, .inl (xI G, 400, .inl row_f)), (facts, .inl (xI G, 3, .inl facts_f)), (pile, .inl (xI G, 60, .inl (upd v4_2 v4_0.toNatClampNeg (facts_f (row_f ((pos + (61 : Int32)) + v4_1).toNatClampNeg).toNatClampNeg))))] := hD
          refine lv_iinc (v := (v4_0 + (1 : Int32))) (lv' := [(2, .int (v4_0 + (1 : Int32))), (4, .int (row_f ((pos + (1 : Int32)) + v4_1).toNatClampNeg)), (0, .ref t), (1, .int pos), (3, .int v4_1)]) hx hb dX8_works_80 hl (k := 3) rfl (xInc_1 _) (by decide) rfl (fun ls hl => ?_)
          refine lv_goto (tgt := 149) hx hb dX8_works_83 (by decide) ?_
          refine lv_iinc (v := (v4_1 + (1 : Int32))) (lv' := [(3, .int (v4_1 + (1 : Int32))), (2, .int (v4_0 + (1 : Int32))), (4, .int (row_f ((pos + (1 : Int32)) + v4_1).toNatClampNeg)), (0, .ref t), (1, .int pos)]) hx hb dX8_works_149 hl (k := 4) rfl (xInc_1 _) (by decide) rfl (fun ls hl => ?_)
          refine lv_goto (tgt := 4) hx hb dX8_works_152 (by decide) ?_
          exact ih4 (v4_0 + (1 : Int32)) (v4_1 + (1 : Int32)) (upd v4_2 v4_0.toNatClampNeg (facts_f (row_f ((pos + (61 : Int32)) + v4_1).toNatClampNeg).toNatClampNeg)) H locs ls ⟨hP, hD, hS, lv_sub hl [3, 4, 1, 0] rfl⟩ hF
        · have hF := itP c46 hF
          refine lv_aload_n hx hb dX8_works_49 rfl (lv_at hl 1 rfl) ?_
          refine va_get (ci := 8) (v := .ref row) (C := RX8) (T := TX8) (N := 24) hx hb hts (fun w h => tcons w (xin8 w h)) hown hK hP 0 rfl rfl 0 (by decide) (hts _ (tcons _ m137)) (fun _ h9 => h9) rfl dX8_works_50 ?_
          refine lv_iload_n hx hb dX8_works_53 rfl (lv_at hl 2 rfl) ?_
          refine lv_bipush (v := 61) hx hb dX8_works_54 (by decide) ?_
          refine lv_iadd hx hb dX8_works_56 ?_
          refine lv_iload_n hx hb dX8_works_57 rfl (lv_at hl 4 rfl) ?_
          refine lv_iadd hx hb dX8_works_58 ?_
          obtain ⟨g59, hF⟩ := gdS hF
          refine va_iald hx hb hK hP 1 0 rfl rfl g59 dX8_works_59 ?_
          refine lv_goto (tgt := 79) hx hb dX8_works_60 (by decide) ?_
          obtain ⟨g79, hF⟩ := gdS hF
          refine va_iast hx hb hK hP hD hS 3 0 rfl rfl g79 dX8_works_79 (fun H locs hP hD hS => ?_)
          have hP : va_P G.1 vwCl [(t, .inr (8, [.ref row, .ref kpt, .int images, .ref errs, .ref bitsOf, .ref sizeOf, .ref cels, .ref broken, .ref isFit, .ref breaks, .int mfit, .int known, .ref act, .ref wth, .ref facts, .ref pile, .int laid, .int hre, .int opnd, .int bad, .int usg, .ref trc, .int trcd, .int isP])), (row, .inl (xI G, 400, .inl row_f)), (facts, .inl (xI G, 3, .inl facts_f)), (pile, .inl (xI G, 60, .inl (upd v4_2 v4_0.toNatClampNeg (row_f ((pos + (61 : Int32)) + v4_1).toNatClampNeg))))] H := hP
          have hD : va_D A [(t, .inr (8, [.ref row, .ref kpt, .int images, .ref errs, .ref bitsOf, .ref sizeOf, .ref cels, .ref broken, .ref isFit, .ref breaks, .int mfit, .int known, .ref act, .ref wth, .ref facts, .ref pile, .int laid, .int hre, .int opnd, .int bad, .int usg, .ref trc, .int trcd, .int isP])), (row, .inl (xI G, 400, .inl row_f)), (facts, .inl (xI G, 3, .inl facts_f)), (pile, .inl (xI G, 60, .inl (upd v4_2 v4_0.toNatClampNeg (row_f ((pos + (61 : Int32)) + v4_1).toNatClampNeg))))] := hD
          refine lv_iinc (v := (v4_0 + (1 : Int32))) (lv' := [(2, .int (v4_0 + (1 : Int32))), (4, .int (row_f ((pos + (1 : Int32)) + v4_1).toNatClampNeg)), (0, .ref t), (1, .int pos), (3, .int v4_1)]) hx hb dX8_works_80 hl (k := 3) rfl (xInc_1 _) (by decide) rfl (fun ls hl => ?_)
          refine lv_goto (tgt := 149) hx hb dX8_works_83 (by decide) ?_
          refine lv_iinc (v := (v4_1 + (1 : Int32))) (lv' := [(3, .int (v4_1 + (1 : Int32))), (2, .int (v4_0 + (1 : Int32))), (4, .int (row_f ((pos + (1 : Int32)) + v4_1).toNatClampNeg)), (0, .ref t), (1, .int pos)]) hx hb dX8_works_149 hl (k := 4) rfl (xInc_1 _) (by decide) rfl (fun ls hl => ?_)
          refine lv_goto (tgt := 4) hx hb dX8_works_152 (by decide) ?_
          exact ih4 (v4_0 + (1 : Int32)) (v4_1 + (1 : Int32)) (upd v4_2 v4_0.toNatClampNeg (row_f ((pos + (61 : Int32)) + v4_1).toNatClampNeg)) H locs ls ⟨hP, hD, hS, lv_sub hl [3, 4, 1, 0] rfl⟩ hF
def F_X8_gives (row_f : Nat → Int32) (facts_f : Nat → Int32) (pile_f : Nat → Int32) (us : Int32) (ia : Int32) (ib : Int32) (ic : Int32) : Option (Int32 × (Nat → Int32) × (Nat → Int32)) := if (((158 : Int32) + ((121 : Int32) * us)) < 0 ∨ 400 ≤ ((158 : Int32) + ((121 : Int32) * us)).toNatClampNeg) then none else (if (row_f ((158 : Int32) + ((121 : Int32) * us)).toNatClampNeg) ≤ 0 then (if us = 0 then (bd (F_X8_held ia (0 : Int32) (1 : Int32)) (fun (u1 : Int32) => some (u1, (upd (upd (upd facts_f (0 : Int32).toNatClampNeg ia) (1 : Int32).toNatClampNeg ib) (2 : Int32).toNatClampNeg ic), pile_f))) else (bd (F_X8_held ia (0 : Int32) (99 : Int32)) (fun (u1 : Int32) => some (u1, (upd (upd (upd facts_f (0 : Int32).toNatClampNeg ia) (1 : Int32).toNatClampNeg ib) (2 : Int32).toNatClampNeg ic), pile_f)))) else (bd (F_X8_works row_f (upd (upd (upd facts_f (0 : Int32).toNatClampNeg ia) (1 : Int32).toNatClampNeg ib) (2 : Int32).toNatClampNeg ic) pile_f ((158 : Int32) + ((121 : Int32) * us))) (fun (u1 : (Int32 × (Nat → Int32))) => if us = 0 then (bd (F_X8_held u1.1 (0 : Int32) (1 : Int32)) (fun (u2 : Int32) => some (u2, (upd (upd (upd facts_f (0 : Int32).toNatClampNeg ia) (1 : Int32).toNatClampNeg ib) (2 : Int32).toNatClampNeg ic), u1.2))) else (bd (F_X8_held u1.1 (0 : Int32) (99 : Int32)) (fun (u2 : Int32) => some (u2, (upd (upd (upd facts_f (0 : Int32).toNatClampNeg ia) (1 : Int32).toNatClampNeg ib) (2 : Int32).toNatClampNeg ic), u1.2))))))
theorem hdX8_gives : yX8_gives.cls ≠ "java/lang/invoke/MethodHandle" ∧ yX8_gives.cls ≠ "java/lang/invoke/VarHandle" ∧ (parseMethodDescriptor yX8_gives.desc).map (fun d => d.parameters.length) = some 4 := by decide +kernel
set_option maxHeartbeats 4000000 in
set_option maxRecDepth 100000 in
theorem c_X8_gives (G : xG) (t : Nat) (row : Nat) (kpt : Nat) (errs : Nat) (bitsOf : Nat) (sizeOf : Nat) (cels : Nat) (broken : Nat) (isFit : Nat) (breaks : Nat) (act : Nat) (wth : Nat) (facts : Nat) (pile : Nat) (trc : Nat) (images : Int32) (mfit : Int32) (known : Int32) (laid : Int32) (hre : Int32) (opnd : Int32) (bad : Int32) (usg : Int32) (trcd : Int32) (isP : Int32) (row_f : Nat → Int32) (facts_f : Nat → Int32) (pile_f : Nat → Int32) (us : Int32) (ia : Int32) (ib : Int32) (ic : Int32)  (u : (Int32 × (Nat → Int32) × (Nat → Int32))) (hF : F_X8_gives row_f facts_f pile_f us ia ib ic = some u) : Ki G .int yX8_gives (Cond.code yX8_gives cX8_gives 7 (some .int) :: TBL) { frames := 2, cells := 0, slots := 0, locals := 46 } [.ref t, .int us, .int ia, .int ib, .int ic] [(t, .inr (8, [.ref row, .ref kpt, .int images, .ref errs, .ref bitsOf, .ref sizeOf, .ref cels, .ref broken, .ref isFit, .ref breaks, .int mfit, .int known, .ref act, .ref wth, .ref facts, .ref pile, .int laid, .int hre, .int opnd, .int bad, .int usg, .ref trc, .int trcd, .int isP])), (row, .inl (xI G, 400, .inl row_f)), (facts, .inl (xI G, 3, .inl facts_f)), (pile, .inl (xI G, 60, .inl pile_f))] [(t, .inr (8, [.ref row, .ref kpt, .int images, .ref errs, .ref bitsOf, .ref sizeOf, .ref cels, .ref broken, .ref isFit, .ref breaks, .int mfit, .int known, .ref act, .ref wth, .ref facts, .ref pile, .int laid, .int hre, .int opnd, .int bad, .int usg, .ref trc, .int trcd, .int isP])), (row, .inl (xI G, 400, .inl row_f)), (facts, .inl (xI G, 3, .inl u.2.1)), (pile, .inl (xI G, 60, .inl u.2.2))] u.1 := by
  intro l sz
  refine Met.ofW (cc := cX8_gives) (maxL := 7) (ret := (some .int)) (by decide) rfl ?_
  intro p e s m args below meth c s₁ B hml hv
  obtain ⟨rfl, hsz, hP, hD0, hm⟩ := hv
  have hx := B.exec
  have hb := B.bytes
  have hr := B.returns
  have hts := atoms_spec (ws := Cond.code yX8_gives cX8_gives 7 (some .int) :: TBL) B.pre
  have hown : s.vm.findClass RX8 = some m.cls := findClass_of_methodNamed B.named
  have hlocks := B.notSynchronized
  subst hsz
  have hD := hD0.self (sz := s.heap.size)
  generalize hAe : va_A [(t, .inr (8, [.ref row, .ref kpt, .int images, .ref errs, .ref bitsOf, .ref sizeOf, .ref cels, .ref broken, .ref isFit, .ref breaks, .int mfit, .int known, .ref act, .ref wth, .ref facts, .ref pile, .int laid, .int hre, .int opnd, .int bad, .int usg, .ref trc, .int trcd, .int isP])), (row, .inl (xI G, 400, .inl row_f)), (facts, .inl (xI G, 3, .inl facts_f)), (pile, .inl (xI G, 60, .inl pile_f))] s.heap.size = A at hD hm ⊢
  have hA : ∀ q : Nat, s.heap.size ≤ q → A q := fun q h => by rw [← hAe]; exact Or.inr h
  have hK := hm.1
  have hZ : xAnd p m c cX8_gives 7 s _ (Cond.code yX8_gives cX8_gives 7 (some .int) :: TBL) RX8 G A := ⟨⟨hx, hb, hml, hown, hts⟩, tcons, hA, hm⟩
  have hP : va_P G.1 vwCl [(t, .inr (8, [.ref row, .ref kpt, .int images, .ref errs, .ref bitsOf, .ref sizeOf, .ref cels, .ref broken, .ref isFit, .ref breaks, .int mfit, .int known, .ref act, .ref wth, .ref facts, .ref pile, .int laid, .int hre, .int opnd, .int bad, .int usg, .ref trc, .int trcd, .int isP])), (row, .inl (xI G, 400, .inl row_f)), (facts, .inl (xI G, 3, .inl facts_f)), (pile, .inl (xI G, 60, .inl pile_f))] s.heap := hP
  have hl := lv_entry ([.ref t, .int us, .int ia, .int ib, .int ic]) (n := 7) (Nat.le_of_ble_eq_true rfl)
  rw [lg_entry_eq]
  generalize (lg_sl ([.ref t, .int us, .int ia, .int ib, .int ic]) ++ List.replicate (7 - (lg_sl ([.ref t, .int us, .int ia, .int ib, .int ic])).length) Slot.unset).toArray = ls at hl ⊢
  have hl : lv_has ls 7 [(0, .ref t), (1, .int us), (2, .int ia), (3, .int ib), (4, .int ic)] := hl
  generalize hQ : MQ below _ _ s _ _ _ = Q
  refine xGo (A := A) hP (fun H locs hP hS => ?_)
  unfold F_X8_gives at hF
  refine lv_sipush (v := 158) hx hb dX8_gives_0 (by decide) ?_
  refine lv_bipush (v := 121) hx hb dX8_gives_3 (by decide) ?_
  refine lv_iload_n hx hb dX8_gives_5 rfl (lv_at hl 1 rfl) ?_
  refine lv_imul hx hb dX8_gives_6 ?_
  refine lv_iadd hx hb dX8_gives_7 ?_
  refine lv_istore (lv' := [(5, .int ((158 : Int32) + ((121 : Int32) * us))), (0, .ref t), (1, .int us), (2, .int ia), (3, .int ib), (4, .int ic)]) hx hb dX8_gives_8 hl (by decide) rfl (fun ls hl => ?_)
  refine lv_aload_n hx hb dX8_gives_10 rfl (lv_at hl 1 rfl) ?_
  refine va_get (ci := 8) (v := .ref facts) (C := RX8) (T := TX8) (N := 24) hx hb hts (fun w h => tcons w (xin8 w h)) hown hK hP 0 rfl rfl 14 (by decide) (hts _ (tcons _ m148)) (fun _ h9 => h9) rfl dX8_gives_11 ?_
  refine lv_iconst (v := 0) hx hb dX8_gives_14 (by decide) ?_
  refine lv_iload_n hx hb dX8_gives_15 rfl (lv_at hl 3 rfl) ?_
  refine va_iast hx hb hK hP hD hS 2 0 rfl rfl (by unfold vp_in; decide) dX8_gives_16 (fun H locs hP hD hS => ?_)
  have hP : va_P G.1 vwCl [(t, .inr (8, [.ref row, .ref kpt, .int images, .ref errs, .ref bitsOf, .ref sizeOf, .ref cels, .ref broken, .ref isFit, .ref breaks, .int mfit, .int known, .ref act, .ref wth, .ref facts, .ref pile, .int laid, .int hre, .int opnd, .int bad, .int usg, .ref trc, .int trcd, .int isP])), (row, .inl (xI G, 400, .inl row_f)), (facts, .inl (xI G, 3, .inl (upd facts_f (0 : Int32).toNatClampNeg ia))), (pile, .inl (xI G, 60, .inl pile_f))] H := hP
  have hD : va_D A [(t, .inr (8, [.ref row, .ref kpt, .int images, .ref errs, .ref bitsOf, .ref sizeOf, .ref cels, .ref broken, .ref isFit, .ref breaks, .int mfit, .int known, .ref act, .ref wth, .ref facts, .ref pile, .int laid, .int hre, .int opnd, .int bad, .int usg, .ref trc, .int trcd, .int isP])), (row, .inl (xI G, 400, .inl row_f)), (facts, .inl (xI G, 3, .inl (upd facts_f (0 : Int32).toNatClampNeg ia))), (pile, .inl (xI G, 60, .inl pile_f))] := hD
  refine lv_aload_n hx hb dX8_gives_17 rfl (lv_at hl 1 rfl) ?_
  refine va_get (ci := 8) (v := .ref facts) (C := RX8) (T := TX8) (N := 24) hx hb hts (fun w h => tcons w (xin8 w h)) hown hK hP 0 rfl rfl 14 (by decide) (hts _ (tcons _ m148)) (fun _ h9 => h9) rfl dX8_gives_18 ?_
  refine lv_iconst (v := 1) hx hb dX8_gives_21 (by decide) ?_
  refine lv_iload_n hx hb dX8_gives_22 rfl (lv_at hl 4 rfl) ?_
  refine va_iast hx hb hK hP hD hS 2 0 rfl rfl (by unfold vp_in; decide) dX8_gives_23 (fun H locs hP hD hS => ?_)
  have hP : va_P G.1 vwCl [(t, .inr (8, [.ref row, .ref kpt, .int images, .ref errs, .ref bitsOf, .ref sizeOf, .ref cels, .ref broken, .ref isFit, .ref breaks, .int mfit, .int known, .ref act, .ref wth, .ref facts, .ref pile, .int laid, .int hre, .int opnd, .int bad, .int usg, .ref trc, .int trcd, .int isP])), (row, .inl (xI G, 400, .inl row_f)), (facts, .inl (xI G, 3, .inl (upd (upd facts_f (0 : Int32).toNatClampNeg ia) (1 : Int32).toNatClampNeg ib))), (pile, .inl (xI G, 60, .inl pile_f))] H := hP
  have hD : va_D A [(t, .inr (8, [.ref row, .ref kpt, .int images, .ref errs, .ref bitsOf, .ref sizeOf, .ref cels, .ref broken, .ref isFit, .ref breaks, .int mfit, .int known, .ref act, .ref wth, .ref facts, .ref pile, .int laid, .int hre, .int opnd, .int bad, .int usg, .ref trc, .int trcd, .int isP])), (row, .inl (xI G, 400, .inl row_f)), (facts, .inl (xI G, 3, .inl (upd (upd facts_f (0 : Int32).toNatClampNeg ia) (1 : Int32).toNatClampNeg ib))), (pile, .inl (xI G, 60, .inl pile_f))] := hD
  refine lv_aload_n hx hb dX8_gives_24 rfl (lv_at hl 1 rfl) ?_
  refine va_get (ci := 8) (v := .ref facts) (C := RX8) (T := TX8) (N := 24) hx hb hts (fun w h => tcons w (xin8 w h)) hown hK hP 0 rfl rfl 14 (by decide) (hts _ (tcons _ m148)) (fun _ h9 => h9) rfl dX8_gives_25 ?_
  refine lv_iconst (v := 2) hx hb dX8_gives_28 (by decide) ?_
  refine lv_iload hx hb dX8_gives_29 (lv_at hl 5 rfl) ?_
  refine va_iast hx hb hK hP hD hS 2 0 rfl rfl (by unfold vp_in; decide) dX8_gives_31 (fun H locs hP hD hS => ?_)
  have hP : va_P G.1 vwCl [(t, .inr (8, [.ref row, .ref kpt, .int images, .ref errs, .ref bitsOf, .ref sizeOf, .ref cels, .ref broken, .ref isFit, .ref breaks, .int mfit, .int known, .ref act, .ref wth, .ref facts, .ref pile, .int laid, .int hre, .int opnd, .int bad, .int usg, .ref trc, .int trcd, .int isP])), (row, .inl (xI G, 400, .inl row_f)), (facts, .inl (xI G, 3, .inl (upd (upd (upd facts_f (0 : Int32).toNatClampNeg ia) (1 : Int32).toNatClampNeg ib) (2 : Int32).toNatClampNeg ic))), (pile, .inl (xI G, 60, .inl pile_f))] H := hP
  have hD : va_D A [(t, .inr (8, [.ref row, .ref kpt, .int images, .ref errs, .ref bitsOf, .ref sizeOf, .ref cels, .ref broken, .ref isFit, .ref breaks, .int mfit, .int known, .ref act, .ref wth, .ref facts, .ref pile, .int laid, .int hre, .int opnd, .int bad, .int usg, .ref trc, .int trcd, .int isP])), (row, .inl (xI G, 400, .inl row_f)), (facts, .inl (xI G, 3, .inl (upd (upd (upd facts_f (0 : Int32).toNatClampNeg ia) (1 : Int32).toNatClampNeg ib) (2 : Int32).toNatClampNeg ic))), (pile, .inl (xI G, 60, .inl pile_f))] := hD
  refine lv_aload_n hx hb dX8_gives_32 rfl (lv_at hl 1 rfl) ?_
  refine va_get (ci := 8) (v := .ref row) (C := RX8) (T := TX8) (N := 24) hx hb hts (fun w h => tcons w (xin8 w h)) hown hK hP 0 rfl rfl 0 (by decide) (hts _ (tcons _ m137)) (fun _ h9 => h9) rfl dX8_gives_33 ?_
  refine lv_iload hx hb dX8_gives_36 (lv_at hl 0 rfl) ?_
  obtain ⟨g38, hF⟩ := gdS hF
  refine va_iald hx hb hK hP 1 0 rfl rfl g38 dX8_gives_38 ?_
  refine lv_if_le (tgt := 51) hx hb dX8_gives_39 (by decide) (fun c39 => ?_) (fun c39 => ?_)
  · have hF := itP c39 hF
    refine lv_iload_n hx hb dX8_gives_51 rfl (lv_at hl 3 rfl) ?_
    refine lv_istore (lv' := [(6, .int ia), (5, .int ((158 : Int32) + ((121 : Int32) * us))), (0, .ref t), (1, .int us), (2, .int ia), (3, .int ib), (4, .int ic)]) hx hb dX8_gives_52 hl (by decide) rfl (fun ls hl => ?_)
    refine lv_iload_n hx hb dX8_gives_54 rfl (lv_at hl 3 rfl) ?_
    refine lv_if_ne (tgt := 68) hx hb dX8_gives_55 (by decide) (fun c55 => ?_) (fun c55 => ?_)
    · have hF := itN c55 hF
      refine lv_iload hx hb dX8_gives_68 (lv_at hl 0 rfl) ?_
      refine lv_iconst (v := 0) hx hb dX8_gives_70 (by decide) ?_
      refine lv_bipush (v := 99) hx hb dX8_gives_71 (by decide) ?_
      obtain ⟨u1, e1, hF⟩ := bdS hF
      refine xEndI (xRunS (As := [.int ia, .int (0 : Int32), .int (99 : Int32)]) (rest := []) hZ (c_X8_held G ia (0 : Int32) (99 : Int32) u1 e1 l H.size) m336 m337 m5 m338 3 hdX8_held ⟨Nat.le_of_ble_eq_true rfl, Nat.le_of_ble_eq_true rfl⟩ ⟨rfl, rfl⟩ hP hD hS [] rfl rfl rfl hl.1 rfl (Nat.le_of_ble_eq_true rfl) dX8_gives_73 ⟨Nat.zero_le _, Nat.zero_le _⟩) hP hD hS hA [] rfl rfl rfl (fun H locs n1 hP hD hS => ?_)
      have hP : va_P G.1 vwCl [(t, .inr (8, [.ref row, .ref kpt, .int images, .ref errs, .ref bitsOf, .ref sizeOf, .ref cels, .ref broken, .ref isFit, .ref breaks, .int mfit, .int known, .ref act, .ref wth, .ref facts, .ref pile, .int laid, .int hre, .int opnd, .int bad, .int usg, .ref trc, .int trcd, .int isP])), (row, .inl (xI G, 400, .inl row_f)), (facts, .inl (xI G, 3, .inl (upd (upd (upd facts_f (0 : Int32).toNatClampNeg ia) (1 : Int32).toNatClampNeg ib) (2 : Int32).toNatClampNeg ic))), (pile, .inl (xI G, 60, .inl pile_f))] H := hP
      have hD : va_D A [(t, .inr (8, [.ref row, .ref kpt, .int images, .ref errs, .ref bitsOf, .ref sizeOf, .ref cels, .ref broken, .ref isFit, .ref breaks, .int mfit, .int known, .ref act, .ref wth, .ref facts, .ref pile, .int laid, .int hre, .int opnd, .int bad, .int usg, .ref trc, .int trcd, .int isP])), (row, .inl (xI G, 400, .inl row_f)), (facts, .inl (xI G, 3, .inl (upd (upd (upd facts_f (0 : Int32).toNatClampNeg ia) (1 : Int32).toNatClampNeg ib) (2 : Int32).toNatClampNeg ic))), (pile, .inl (xI G, 60, .inl pile_f))] := hD
      obtain rfl := Option.some.inj hF
      rw [← hQ]
      exact W.iret (v := u1) hx hb hr (fun t ht hW => ⟨⟨_, (), rfl, ⟨rfl, rfl⟩, xLf hP ht⟩, hS.F ht⟩) hS.2.2 dX8_gives_76
    · have hF := itP c55 hF
      refine lv_iload hx hb dX8_gives_58 (lv_at hl 0 rfl) ?_
      refine lv_iconst (v := 0) hx hb dX8_gives_60 (by decide) ?_
      refine lv_iconst (v := 1) hx hb dX8_gives_61 (by decide) ?_
      obtain ⟨u1, e1, hF⟩ := bdS hF
      refine xEndI (xRunS (As := [.int ia, .int (0 : Int32), .int (1 : Int32)]) (rest := []) hZ (c_X8_held G ia (0 : Int32) (1 : Int32) u1 e1 l H.size) m336 m337 m5 m338 3 hdX8_held ⟨Nat.le_of_ble_eq_true rfl, Nat.le_of_ble_eq_true rfl⟩ ⟨rfl, rfl⟩ hP hD hS [] rfl rfl rfl hl.1 rfl (Nat.le_of_ble_eq_true rfl) dX8_gives_62 ⟨Nat.zero_le _, Nat.zero_le _⟩) hP hD hS hA [] rfl rfl rfl (fun H locs n1 hP hD hS => ?_)
      have hP : va_P G.1 vwCl [(t, .inr (8, [.ref row, .ref kpt, .int images, .ref errs, .ref bitsOf, .ref sizeOf, .ref cels, .ref broken, .ref isFit, .ref breaks, .int mfit, .int known, .ref act, .ref wth, .ref facts, .ref pile, .int laid, .int hre, .int opnd, .int bad, .int usg, .ref trc, .int trcd, .int isP])), (row, .inl (xI G, 400, .inl row_f)), (facts, .inl (xI G, 3, .inl (upd (upd (upd facts_f (0 : Int32).toNatClampNeg ia) (1 : Int32).toNatClampNeg ib) (2 : Int32).toNatClampNeg ic))), (pile, .inl (xI G, 60, .inl pile_f))] H := hP
      have hD : va_D A [(t, .inr (8, [.ref row, .ref kpt, .int images, .ref errs, .ref bitsOf, .ref sizeOf, .ref cels, .ref broken, .ref isFit, .ref breaks, .int mfit, .int known, .ref act, .ref wth, .ref facts, .ref pile, .int laid, .int hre, .int opnd, .int bad, .int usg, .ref trc, .int trcd, .int isP])), (row, .inl (xI G, 400, .inl row_f)), (facts, .inl (xI G, 3, .inl (upd (upd (upd facts_f (0 : Int32).toNatClampNeg ia) (1 : Int32).toNatClampNeg ib) (2 : Int32).toNatClampNeg ic))), (pile, .inl (xI G, 60, .inl pile_f))] := hD
      refine lv_goto (tgt := 76) hx hb dX8_gives_65 (by decide) ?_
      obtain rfl := Option.some.inj hF
      rw [← hQ]
      exact W.iret (v := u1) hx hb hr (fun t ht hW => ⟨⟨_, (), rfl, ⟨rfl, rfl⟩, xLf hP ht⟩, hS.F ht⟩) hS.2.2 dX8_gives_76
  · have hF := itN c39 hF
    refine lv_aload_n hx hb dX8_gives_42 rfl (lv_at hl 1 rfl) ?_
    refine lv_iload hx hb dX8_gives_43 (lv_at hl 0 rfl) ?_
    obtain ⟨u1, e1, hF⟩ := bdS hF
    refine xEndI (xRunV (As := [.int ((158 : Int32) + ((121 : Int32) * us))]) (rest := []) hZ (c_X8_works G t row kpt errs bitsOf sizeOf cels broken isFit breaks act wth facts pile trc images mfit known laid hre opnd bad usg trcd isP row_f (upd (upd (upd facts_f (0 : Int32).toNatClampNeg ia) (1 : Int32).toNatClampNeg ib) (2 : Int32).toNatClampNeg ic) pile_f ((158 : Int32) + ((121 : Int32) * us)) u1 e1 l H.size) m329 m330 m331 m5 m332 1 ⟨rfl, hdX8_works⟩ ⟨Nat.le_of_ble_eq_true rfl, Nat.le_of_ble_eq_true rfl⟩ ⟨rfl, rfl⟩ hP hD hS 0 8 rfl rfl rfl [0, 1, 2, 3] rfl rfl rfl hl.1 rfl (Nat.le_of_ble_eq_true rfl) dX8_gives_45 ⟨Nat.zero_le _, Nat.zero_le _⟩) hP hD hS hA [0, 1, 2, 3] rfl rfl rfl (fun H locs n1 hP hD hS => ?_)
    have hP : va_P G.1 vwCl [(t, .inr (8, [.ref row, .ref kpt, .int images, .ref errs, .ref bitsOf, .ref sizeOf, .ref cels, .ref broken, .ref isFit, .ref breaks, .int mfit, .int known, .ref act, .ref wth, .ref facts, .ref pile, .int laid, .int hre, .int opnd, .int bad, .int usg, .ref trc, .int trcd, .int isP])), (row, .inl (xI G, 400, .inl row_f)), (facts, .inl (xI G, 3, .inl (upd (upd (upd facts_f (0 : Int32).toNatClampNeg ia) (1 : Int32).toNatClampNeg ib) (2 : Int32).toNatClampNeg ic))), (pile, .inl (xI G, 60, .inl u1.2))] H := hP
    have hD : va_D A [(t, .inr (8, [.ref row, .ref kpt, .int images, .ref errs, .ref bitsOf, .ref sizeOf, .ref cels, .ref broken, .ref isFit, .ref breaks, .int mfit, .int known, .ref act, .ref wth, .ref facts, .ref pile, .int laid, .int hre, .int opnd, .int bad, .int usg, .ref trc, .int trcd, .int isP])), (row, .inl (xI G, 400, .inl row_f)), (facts, .inl (xI G, 3, .inl (upd (upd (upd facts_f (0 : Int32).toNatClampNeg ia) (1 : Int32).toNatClampNeg ib) (2 : Int32).toNatClampNeg ic))), (pile, .inl (xI G, 60, .inl u1.2))] := hD
    refine lv_goto (tgt := 52) hx hb dX8_gives_48 (by decide) ?_
    refine lv_istore (lv' := [(6, .int u1.1), (5, .int ((158 : Int32) + ((121 : Int32) * us))), (0, .ref t), (1, .int us), (2, .int ia), (3, .int ib), (4, .int ic)]) hx hb dX8_gives_52 hl (by decide) rfl (fun ls hl => ?_)
    refine lv_iload_n hx hb dX8_gives_54 rfl (lv_at hl 3 rfl) ?_
    refine lv_if_ne (tgt := 68) hx hb dX8_gives_55 (by decide) (fun c55 => ?_) (fun c55 => ?_)
    · have hF := itN c55 hF
      refine lv_iload hx hb dX8_gives_68 (lv_at hl 0 rfl) ?_
      refine lv_iconst (v := 0) hx hb dX8_gives_70 (by decide) ?_
      refine lv_bipush (v := 99) hx hb dX8_gives_71 (by decide) ?_
      obtain ⟨u2, e2, hF⟩ := bdS hF
      refine xEndI (xRunS (As := [.int u1.1, .int (0 : Int32), .int (99 : Int32)]) (rest := []) hZ (c_X8_held G u1.1 (0 : Int32) (99 : Int32) u2 e2 l H.size) m336 m337 m5 m338 3 hdX8_held ⟨Nat.le_of_ble_eq_true rfl, Nat.le_of_ble_eq_true rfl⟩ ⟨rfl, rfl⟩ hP hD hS [] rfl rfl rfl hl.1 rfl (Nat.le_of_ble_eq_true rfl) dX8_gives_73 ⟨Nat.zero_le _, Nat.zero_le _⟩) hP hD hS hA [] rfl rfl rfl (fun H locs n2 hP hD hS => ?_)
      have hP : va_P G.1 vwCl [(t, .inr (8, [.ref row, .ref kpt, .int images, .ref errs, .ref bitsOf, .ref sizeOf, .ref cels, .ref broken, .ref isFit, .ref breaks, .int mfit, .int known, .ref act, .ref wth, .ref facts, .ref pile, .int laid, .int hre, .int opnd, .int bad, .int usg, .ref trc, .int trcd, .int isP])), (row, .inl (xI G, 400, .inl row_f)), (facts, .inl (xI G, 3, .inl (upd (upd (upd facts_f (0 : Int32).toNatClampNeg ia) (1 : Int32).toNatClampNeg ib) (2 : Int32).toNatClampNeg ic))), (pile, .inl (xI G, 60, .inl u1.2))] H := hP
      have hD : va_D A [(t, .inr (8, [.ref row, .ref kpt, .int images, .ref errs, .ref bitsOf, .ref sizeOf, .ref cels, .ref broken, .ref isFit, .ref breaks, .int mfit, .int known, .ref act, .ref wth, .ref facts, .ref pile, .int laid, .int hre, .int opnd, .int bad, .int usg, .ref trc, .int trcd, .int isP])), (row, .inl (xI G, 400, .inl row_f)), (facts, .inl (xI G, 3, .inl (upd (upd (upd facts_f (0 : Int32).toNatClampNeg ia) (1 : Int32).toNatClampNeg ib) (2 : Int32).toNatClampNeg ic))), (pile, .inl (xI G, 60, .inl u1.2))] := hD
      obtain rfl := Option.some.inj hF
      rw [← hQ]
      exact W.iret (v := u2) hx hb hr (fun t ht hW => ⟨⟨_, (), rfl, ⟨rfl, rfl⟩, xLf hP ht⟩, hS.F ht⟩) hS.2.2 dX8_gives_76
    · have hF := itP c55 hF
      refine lv_iload hx hb dX8_gives_58 (lv_at hl 0 rfl) ?_
      refine lv_iconst (v := 0) hx hb dX8_gives_60 (by decide) ?_
      refine lv_iconst (v := 1) hx hb dX8_gives_61 (by decide) ?_
      obtain ⟨u2, e2, hF⟩ := bdS hF
      refine xEndI (xRunS (As := [.int u1.1, .int (0 : Int32), .int (1 : Int32)]) (rest := []) hZ (c_X8_held G u1.1 (0 : Int32) (1 : Int32) u2 e2 l H.size) m336 m337 m5 m338 3 hdX8_held ⟨Nat.le_of_ble_eq_true rfl, Nat.le_of_ble_eq_true rfl⟩ ⟨rfl, rfl⟩ hP hD hS [] rfl rfl rfl hl.1 rfl (Nat.le_of_ble_eq_true rfl) dX8_gives_62 ⟨Nat.zero_le _, Nat.zero_le _⟩) hP hD hS hA [] rfl rfl rfl (fun H locs n2 hP hD hS => ?_)
      have hP : va_P G.1 vwCl [(t, .inr (8, [.ref row, .ref kpt, .int images, .ref errs, .ref bitsOf, .ref sizeOf, .ref cels, .ref broken, .ref isFit, .ref breaks, .int mfit, .int known, .ref act, .ref wth, .ref facts, .ref pile, .int laid, .int hre, .int opnd, .int bad, .int usg, .ref trc, .int trcd, .int isP])), (row, .inl (xI G, 400, .inl row_f)), (facts, .inl (xI G, 3, .inl (upd (upd (upd facts_f (0 : Int32).toNatClampNeg ia) (1 : Int32).toNatClampNeg ib) (2 : Int32).toNatClampNeg ic))), (pile, .inl (xI G, 60, .inl u1.2))] H := hP
      have hD : va_D A [(t, .inr (8, [.ref row, .ref kpt, .int images, .ref errs, .ref bitsOf, .ref sizeOf, .ref cels, .ref broken, .ref isFit, .ref breaks, .int mfit, .int known, .ref act, .ref wth, .ref facts, .ref pile, .int laid, .int hre, .int opnd, .int bad, .int usg, .ref trc, .int trcd, .int isP])), (row, .inl (xI G, 400, .inl row_f)), (facts, .inl (xI G, 3, .inl (upd (upd (upd facts_f (0 : Int32).toNatClampNeg ia) (1 : Int32).toNatClampNeg ib) (2 : Int32).toNatClampNeg ic))), (pile, .inl (xI G, 60, .inl u1.2))] := hD
      refine lv_goto (tgt := 76) hx hb dX8_gives_65 (by decide) ?_
      obtain rfl := Option.some.inj hF
      rw [← hQ]
      exact W.iret (v := u2) hx hb hr (fun t ht hW => ⟨⟨_, (), rfl, ⟨rfl, rfl⟩, xLf hP ht⟩, hS.F ht⟩) hS.2.2 dX8_gives_76
def F_X8_doesShun (mfit : Int32) (known : Int32) (row_f : Nat → Int32) (broken_f : Nat → Int64) (isFit_f : Nat → Int32) (breaks_f : Nat → Int32) (br : Int32) (sy : Int32) : Option (Int32 × Int32 × Int32 × (Nat → Int32) × (Nat → Int32)) := bd (F_X8_of row_f br (1 : Int32)) (fun (u1 : Int32) => bd (F_X8_breaksBy mfit known row_f broken_f isFit_f breaks_f sy) (fun (u2 : (Int32 × Int32 × Int32 × (Nat → Int32) × (Nat → Int32))) => if ((10 : Int32) * u2.1) ≤ (u1 * u2.2.1) then (if ((2 : Int32) * u2.1) ≤ u2.2.1 then (bd (F_X8_of row_f br (0 : Int32)) (fun (u3 : Int32) => if u3 = (1 : Int32) then (if u2.1 ≤ 0 then (some ((0 : Int32), u2.2.1, u2.2.2.1, u2.2.2.2.1, u2.2.2.2.2)) else (some ((1 : Int32), u2.2.1, u2.2.2.1, u2.2.2.2.1, u2.2.2.2.2))) else (if u3 = (2 : Int32) then (some ((0 : Int32), u2.2.1, u2.2.2.1, u2.2.2.2.1, u2.2.2.2.2)) else (if u3 = (3 : Int32) then (some ((0 : Int32), u2.2.1, u2.2.2.1, u2.2.2.2.1, u2.2.2.2.2)) else (if u3 = (4 : Int32) then (if 0 < u2.1 then (some ((1 : Int32), u2.2.1, u2.2.2.1, u2.2.2.2.1, u2.2.2.2.2)) else (if (sy - sy / (2 : Int32) * (2 : Int32)) = (u1 - u1 / (2 : Int32) * (2 : Int32)) then (some ((1 : Int32), u2.2.1, u2.2.2.1, u2.2.2.2.1, u2.2.2.2.2)) else (some ((0 : Int32), u2.2.1, u2.2.2.1, u2.2.2.2.1, u2.2.2.2.2)))) else (if u3 = (5 : Int32) then (some ((0 : Int32), u2.2.1, u2.2.2.1, u2.2.2.2.1, u2.2.2.2.2)) else (if u3 = (6 : Int32) then (if sy = u1 then (some ((1 : Int32), u2.2.1, u2.2.2.1, u2.2.2.2.1, u2.2.2.2.2)) else (some ((0 : Int32), u2.2.1, u2.2.2.1, u2.2.2.2.1, u2.2.2.2.2))) else (some ((0 : Int32), u2.2.1, u2.2.2.1, u2.2.2.2.1, u2.2.2.2.2))))))))) else (bd (F_X8_of row_f br (0 : Int32)) (fun (u3 : Int32) => if u3 = (1 : Int32) then (if u2.1 ≤ 0 then (some ((0 : Int32), u2.2.1, u2.2.2.1, u2.2.2.2.1, u2.2.2.2.2)) else (some ((1 : Int32), u2.2.1, u2.2.2.1, u2.2.2.2.1, u2.2.2.2.2))) else (if u3 = (2 : Int32) then (some ((1 : Int32), u2.2.1, u2.2.2.1, u2.2.2.2.1, u2.2.2.2.2)) else (if u3 = (3 : Int32) then (some ((0 : Int32), u2.2.1, u2.2.2.1, u2.2.2.2.1, u2.2.2.2.2)) else (if u3 = (4 : Int32) then (if 0 < u2.1 then (some ((1 : Int32), u2.2.1, u2.2.2.1, u2.2.2.2.1, u2.2.2.2.2)) else (if (sy - sy / (2 : Int32) * (2 : Int32)) = (u1 - u1 / (2 : Int32) * (2 : Int32)) then (some ((1 : Int32), u2.2.1, u2.2.2.1, u2.2.2.2.1, u2.2.2.2.2)) else (some ((0 : Int32), u2.2.1, u2.2.2.1, u2.2.2.2.1, u2.2.2.2.2)))) else (if u3 = (5 : Int32) then (if u2.1 = u2.2.1 then (some ((1 : Int32), u2.2.1, u2.2.2.1, u2.2.2.2.1, u2.2.2.2.2)) else (some ((0 : Int32), u2.2.1, u2.2.2.1, u2.2.2.2.1, u2.2.2.2.2))) else (if u3 = (6 : Int32) then (if sy = u1 then (some ((1 : Int32), u2.2.1, u2.2.2.1, u2.2.2.2.1, u2.2.2.2.2)) else (some ((0 : Int32), u2.2.1, u2.2.2.1, u2.2.2.2.1, u2.2.2.2.2))) else (some ((0 : Int32), u2.2.1, u2.2.2.1, u2.2.2.2.1, u2.2.2.2.2)))))))))) else (if ((2 : Int32) * u2.1) ≤ u2.2.1 then (bd (F_X8_of row_f br (0 : Int32)) (fun (u3 : Int32) => if u3 = (1 : Int32) then (if u2.1 ≤ 0 then (some ((0 : Int32), u2.2.1, u2.2.2.1, u2.2.2.2.1, u2.2.2.2.2)) else (some ((1 : Int32), u2.2.1, u2.2.2.1, u2.2.2.2.1, u2.2.2.2.2))) else (if u3 = (2 : Int32) then (some ((0 : Int32), u2.2.1, u2.2.2.1, u2.2.2.2.1, u2.2.2.2.2)) else (if u3 = (3 : Int32) then (if ((row_f (0 : Int32).toNatClampNeg) - (row_f (0 : Int32).toNatClampNeg) / (7 : Int32) * (7 : Int32)) = (2 : Int32) then (some ((1 : Int32), u2.2.1, u2.2.2.1, u2.2.2.2.1, u2.2.2.2.2)) else (some ((0 : Int32), u2.2.1, u2.2.2.1, u2.2.2.2.1, u2.2.2.2.2))) else (if u3 = (4 : Int32) then (if 0 < u2.1 then (some ((1 : Int32), u2.2.1, u2.2.2.1, u2.2.2.2.1, u2.2.2.2.2)) else (if (sy - sy / (2 : Int32) * (2 : Int32)) = (u1 - u1 / (2 : Int32) * (2 : Int32)) then (some ((1 : Int32), u2.2.1, u2.2.2.1, u2.2.2.2.1, u2.2.2.2.2)) else (some ((0 : Int32), u2.2.1, u2.2.2.1, u2.2.2.2.1, u2.2.2.2.2)))) else (if u3 = (5 : Int32) then (some ((0 : Int32), u2.2.1, u2.2.2.1, u2.2.2.2.1, u2.2.2.2.2)) else (if u3 = (6 : Int32) then (if sy = u1 then (some ((1 : Int32), u2.2.1, u2.2.2.1, u2.2.2.2.1, u2.2.2.2.2)) else (some ((0 : Int32), u2.2.1, u2.2.2.1, u2.2.2.2.1, u2.2.2.2.2))) else (some ((1 : Int32), u2.2.1, u2.2.2.1, u2.2.2.2.1, u2.2.2.2.2))))))))) else (bd (F_X8_of row_f br (0 : Int32)) (fun (u3 : Int32) => if u3 = (1 : Int32) then (if u2.1 ≤ 0 then (some ((0 : Int32), u2.2.1, u2.2.2.1, u2.2.2.2.1, u2.2.2.2.2)) else (some ((1 : Int32), u2.2.1, u2.2.2.1, u2.2.2.2.1, u2.2.2.2.2))) else (if u3 = (2 : Int32) then (some ((1 : Int32), u2.2.1, u2.2.2.1, u2.2.2.2.1, u2.2.2.2.2)) else (if u3 = (3 : Int32) then (if ((row_f (0 : Int32).toNatClampNeg) - (row_f (0 : Int32).toNatClampNeg) / (7 : Int32) * (7 : Int32)) = (2 : Int32) then (some ((1 : Int32), u2.2.1, u2.2.2.1, u2.2.2.2.1, u2.2.2.2.2)) else (some ((0 : Int32), u2.2.1, u2.2.2.1, u2.2.2.2.1, u2.2.2.2.2))) else (if u3 = (4 : Int32) then (if 0 < u2.1 then (some ((1 : Int32), u2.2.1, u2.2.2.1, u2.2.2.2.1, u2.2.2.2.2)) else (if (sy - sy / (2 : Int32) * (2 : Int32)) = (u1 - u1 / (2 : Int32) * (2 : Int32)) then (some ((1 : Int32), u2.2.1, u2.2.2.1, u2.2.2.2.1, u2.2.2.2.2)) else (some ((0 : Int32), u2.2.1, u2.2.2.1, u2.2.2.2.1, u2.2.2.2.2)))) else (if u3 = (5 : Int32) then (if u2.1 = u2.2.1 then (some ((1 : Int32), u2.2.1, u2.2.2.1, u2.2.2.2.1, u2.2.2.2.2)) else (some ((0 : Int32), u2.2.1, u2.2.2.1, u2.2.2.2.1, u2.2.2.2.2))) else (if u3 = (6 : Int32) then (if sy = u1 then (some ((1 : Int32), u2.2.1, u2.2.2.1, u2.2.2.2.1, u2.2.2.2.2)) else (some ((0 : Int32), u2.2.1, u2.2.2.1, u2.2.2.2.1, u2.2.2.2.2))) else (some ((1 : Int32), u2.2.1, u2.2.2.1, u2.2.2.2.1, u2.2.2.2.2))))))))))))
theorem hdX8_doesShun : yX8_doesShun.cls ≠ "java/lang/invoke/MethodHandle" ∧ yX8_doesShun.cls ≠ "java/lang/invoke/VarHandle" ∧ (parseMethodDescriptor yX8_doesShun.desc).map (fun d => d.parameters.length) = some 2 := by decide +kernel
set_option maxHeartbeats 4000000 in
set_option maxRecDepth 100000 in
theorem c_X8_doesShun (G : xG) (t : Nat) (row : Nat) (kpt : Nat) (errs : Nat) (bitsOf : Nat) (sizeOf : Nat) (cels : Nat) (broken : Nat) (isFit : Nat) (breaks : Nat) (act : Nat) (wth : Nat) (facts : Nat) (pile : Nat) (trc : Nat) (images : Int32) (mfit : Int32) (known : Int32) (laid : Int32) (hre : Int32) (opnd : Int32) (bad : Int32) (usg : Int32) (trcd : Int32) (isP : Int32) (row_f : Nat → Int32) (broken_f : Nat → Int64) (isFit_f : Nat → Int32) (breaks_f : Nat → Int32) (br : Int32) (sy : Int32)  (u : (Int32 × Int32 × Int32 × (Nat → Int32) × (Nat → Int32))) (hF : F_X8_doesShun mfit known row_f broken_f isFit_f breaks_f br sy = some u) : Ki G .boolean yX8_doesShun (Cond.code yX8_doesShun cX8_doesShun 7 (some .boolean) :: TBL) { frames := 4, cells := 0, slots := 0, locals := 88 } [.ref t, .int br, .int sy] [(t, .inr (8, [.ref row, .ref kpt, .int images, .ref errs, .ref bitsOf, .ref sizeOf, .ref cels, .ref broken, .ref isFit, .ref breaks, .int mfit, .int known, .ref act, .ref wth, .ref facts, .ref pile, .int laid, .int hre, .int opnd, .int bad, .int usg, .ref trc, .int trcd, .int isP])), (row, .inl (xI G, 400, .inl row_f)), (broken, .inl (xJ G, 729, .inr (.inl broken_f))), (isFit, .inl (xZ G, 729, .inl isFit_f)), (breaks, .inl (xI G, 64, .inl breaks_f))] [(t, .inr (8, [.ref row, .ref kpt, .int images, .ref errs, .ref bitsOf, .ref sizeOf, .ref cels, .ref broken, .ref isFit, .ref breaks, .int u.2.1, .int u.2.2.1, .ref act, .ref wth, .ref facts, .ref pile, .int laid, .int hre, .int opnd, .int bad, .int usg, .ref trc, .int trcd, .int isP])), (row, .inl (xI G, 400, .inl row_f)), (broken, .inl (xJ G, 729, .inr (.inl broken_f))), (isFit, .inl (xZ G, 729, .inl u.2.2.2.1)), (breaks, .inl (xI G, 64, .inl u.2.2.2.2))] u.1 := by
  intro l sz
  refine Met.ofW (cc := cX8_doesShun) (maxL := 7) (ret := (some .boolean)) (by decide) rfl ?_
  intro p e s m args below meth c s₁ B hml hv
  obtain ⟨rfl, hsz, hP, hD0, hm⟩ := hv
  have hx := B.exec
  have hb := B.bytes
  have hr := B.returns
  have hts := atoms_spec (ws := Cond.code yX8_doesShun cX8_doesShun 7 (some .boolean) :: TBL) B.pre
  have hown : s.vm.findClass RX8 = some m.cls := findClass_of_methodNamed B.named
  have hlocks := B.notSynchronized
  subst hsz
  have hD := hD0.self (sz := s.heap.size)
  generalize hAe : va_A [(t, .inr (8, [.ref row, .ref kpt, .int images, .ref errs, .ref bitsOf, .ref sizeOf, .ref cels, .ref broken, .ref isFit, .ref breaks, .int mfit, .int known, .ref act, .ref wth, .ref facts, .ref pile, .int laid, .int hre, .int opnd, .int bad, .int usg, .ref trc, .int trcd, .int isP])), (row, .inl (xI G, 400, .inl row_f)), (broken, .inl (xJ G, 729, .inr (.inl broken_f))), (isFit, .inl (xZ G, 729, .inl isFit_f)), (breaks, .inl (xI G, 64, .inl breaks_f))] s.heap.size = A at hD hm ⊢
  have hA : ∀ q : Nat, s.heap.size ≤ q → A q := fun q h => by rw [← hAe]; exact Or.inr h
  have hK := hm.1
  have hZ : xAnd p m c cX8_doesShun 7 s _ (Cond.code yX8_doesShun cX8_doesShun 7 (some .boolean) :: TBL) RX8 G A := ⟨⟨hx, hb, hml, hown, hts⟩, tcons, hA, hm⟩
  have hP : va_P G.1 vwCl [(t, .inr (8, [.ref row, .ref kpt, .int images, .ref errs, .ref bitsOf, .ref sizeOf, .ref cels, .ref broken, .ref isFit, .ref breaks, .int mfit, .int known, .ref act, .ref wth, .ref facts, .ref pile, .int laid, .int hre, .int opnd, .int bad, .int usg, .ref trc, .int trcd, .int isP])), (row, .inl (xI G, 400, .inl row_f)), (broken, .inl (xJ G, 729, .inr (.inl broken_f))), (isFit, .inl (xZ G, 729, .inl isFit_f)), (breaks, .inl (xI G, 64, .inl breaks_f))] s.heap := hP
  have hl := lv_entry ([.ref t, .int br, .int sy]) (n := 7) (Nat.le_of_ble_eq_true rfl)
  rw [lg_entry_eq]
  generalize (lg_sl ([.ref t, .int br, .int sy]) ++ List.replicate (7 - (lg_sl ([.ref t, .int br, .int sy])).length) Slot.unset).toArray = ls at hl ⊢
  have hl : lv_has ls 7 [(0, .ref t), (1, .int br), (2, .int sy)] := hl
  generalize hQ : MQ below _ _ s _ _ _ = Q
  refine xGo (A := A) hP (fun H locs hP hS => ?_)
  unfold F_X8_doesShun at hF
  refine lv_aload_n hx hb dX8_doesShun_0 rfl (lv_at hl 0 rfl) ?_
  refine lv_iload_n hx hb dX8_doesShun_1 rfl (lv_at hl 1 rfl) ?_
  refine lv_iconst (v := 1) hx hb dX8_doesShun_2 (by decide) ?_
  obtain ⟨u1, e1, hF⟩ := bdS hF
  refine xEndI (xRunV (As := [.int br, .int (1 : Int32)]) (rest := []) hZ (c_X8_of G t row kpt errs bitsOf sizeOf cels broken isFit breaks act wth facts pile trc images mfit known laid hre opnd bad usg trcd isP row_f br (1 : Int32) u1 e1 l H.size) m291 m292 m293 m5 m294 2 ⟨rfl, hdX8_of⟩ ⟨Nat.le_of_ble_eq_true rfl, Nat.le_of_ble_eq_true rfl⟩ ⟨rfl, rfl⟩ hP hD hS 0 8 rfl rfl rfl [0, 1] rfl rfl rfl hl.1 rfl (Nat.le_of_ble_eq_true rfl) dX8_doesShun_3 ⟨Nat.zero_le _, Nat.zero_le _⟩) hP hD hS hA [0, 1] rfl rfl rfl (fun H locs n1 hP hD hS => ?_)
  have hP : va_P G.1 vwCl [(t, .inr (8, [.ref row, .ref kpt, .int images, .ref errs, .ref bitsOf, .ref sizeOf, .ref cels, .ref broken, .ref isFit, .ref breaks, .int mfit, .int known, .ref act, .ref wth, .ref facts, .ref pile, .int laid, .int hre, .int opnd, .int bad, .int usg, .ref trc, .int trcd, .int isP])), (row, .inl (xI G, 400, .inl row_f)), (broken, .inl (xJ G, 729, .inr (.inl broken_f))), (isFit, .inl (xZ G, 729, .inl isFit_f)), (breaks, .inl (xI G, 64, .inl breaks_f))] H := hP
  have hD : va_D A [(t, .inr (8, [.ref row, .ref kpt, .int images, .ref errs, .ref bitsOf, .ref sizeOf, .ref cels, .ref broken, .ref isFit, .ref breaks, .int mfit, .int known, .ref act, .ref wth, .ref facts, .ref pile, .int laid, .int hre, .int opnd, .int bad, .int usg, .ref trc, .int trcd, .int isP])), (row, .inl (xI G, 400, .inl row_f)), (broken, .inl (xJ G, 729, .inr (.inl broken_f))), (isFit, .inl (xZ G, 729, .inl isFit_f)), (breaks, .inl (xI G, 64, .inl breaks_f))] := hD
  refine lv_istore_n (lv' := [(3, .int u1), (0, .ref t), (1, .int br), (2, .int sy)]) hx hb dX8_doesShun_6 rfl hl (by decide) rfl (fun ls hl => ?_)
  refine lv_aload_n hx hb dX8_doesShun_7 rfl (lv_at hl 1 rfl) ?_
  refine lv_iload_n hx hb dX8_doesShun_8 rfl (lv_at hl 3 rfl) ?_
  obtain ⟨u2, e2, hF⟩ := bdS hF
  refine xEndI (xRunV (As := [.int sy]) (rest := []) hZ (c_X8_breaksBy G t row kpt errs bitsOf sizeOf cels broken isFit breaks act wth facts pile trc images mfit known laid hre opnd bad usg trcd isP row_f broken_f isFit_f breaks_f sy u2 e2 l H.size) m308 m309 m310 m5 m311 1 ⟨rfl, hdX8_breaksBy⟩ ⟨Nat.le_of_ble_eq_true rfl, Nat.le_of_ble_eq_true rfl⟩ ⟨rfl, rfl⟩ hP hD hS 0 8 rfl rfl rfl [0, 1, 2, 3, 4] rfl rfl rfl hl.1 rfl (Nat.le_of_ble_eq_true rfl) dX8_doesShun_9 ⟨Nat.zero_le _, Nat.zero_le _⟩) hP hD hS hA [0, 1, 2, 3, 4] rfl rfl rfl (fun H locs n2 hP hD hS => ?_)
  have hP : va_P G.1 vwCl [(t, .inr (8, [.ref row, .ref kpt, .int images, .ref errs, .ref bitsOf, .ref sizeOf, .ref cels, .ref broken, .ref isFit, .ref breaks, .int u2.2.1, .int u2.2.2.1, .ref act, .ref wth, .ref facts, .ref pile, .int laid, .int hre, .int opnd, .int bad, .int usg, .ref trc, .int trcd, .int isP])), (row, .inl (xI G, 400, .inl row_f)), (broken, .inl (xJ G, 729, .inr (.inl broken_f))), (isFit, .inl (xZ G, 729, .inl u2.2.2.2.1)), (breaks, .inl (xI G, 64, .inl u2.2.2.2.2))] H := hP
  have hD : va_D A [(t, .inr (8, [.ref row, .ref kpt, .int images, .ref errs, .ref bitsOf, .ref sizeOf, .ref cels, .ref broken, .ref isFit, .ref breaks, .int u2.2.1, .int u2.2.2.1, .ref act, .ref wth, .ref facts, .ref pile, .int laid, .int hre, .int opnd, .int bad, .int usg, .ref trc, .int trcd, .int isP])), (row, .inl (xI G, 400, .inl row_f)), (broken, .inl (xJ G, 729, .inr (.inl broken_f))), (isFit, .inl (xZ G, 729, .inl u2.2.2.2.1)), (breaks, .inl (xI G, 64, .inl u2.2.2.2.2))] := hD
  refine lv_istore (lv' := [(4, .int u2.1), (3, .int u1), (0, .ref t), (1, .int br), (2, .int sy)]) hx hb dX8_doesShun_12 hl (by decide) rfl (fun ls hl => ?_)
  refine lv_bipush (v := 10) hx hb dX8_doesShun_14 (by decide) ?_
  refine lv_iload hx hb dX8_doesShun_16 (lv_at hl 0 rfl) ?_
  refine lv_imul hx hb dX8_doesShun_18 ?_
  refine lv_iload_n hx hb dX8_doesShun_19 rfl (lv_at hl 1 rfl) ?_
  refine lv_aload_n hx hb dX8_doesShun_20 rfl (lv_at hl 2 rfl) ?_
  refine va_get (ci := 8) (v := .int u2.2.1) (C := RX8) (T := TX8) (N := 24) hx hb hts (fun w h => tcons w (xin8 w h)) hown hK hP 0 rfl rfl 10 (by decide) (hts _ (tcons _ m303)) (fun _ h9 => h9) rfl dX8_doesShun_21 ?_
  refine lv_imul hx hb dX8_doesShun_24 ?_
  refine lv_icmp_le (tgt := 32) hx hb dX8_doesShun_25 (by decide) (fun c25 => ?_) (fun c25 => ?_)
  · have hF := itP c25 hF
    refine lv_iconst (v := 0) hx hb dX8_doesShun_32 (by decide) ?_
    refine lv_istore (lv' := [(5, .int (0 : Int32)), (4, .int u2.1), (3, .int u1), (0, .ref t), (1, .int br), (2, .int sy)]) hx hb dX8_doesShun_33 hl (by decide) rfl (fun ls hl => ?_)
    refine lv_iconst (v := 2) hx hb dX8_doesShun_35 (by decide) ?_
    refine lv_iload hx hb dX8_doesShun_36 (lv_at hl 1 rfl) ?_
    refine lv_imul hx hb dX8_doesShun_38 ?_
    refine lv_aload_n hx hb dX8_doesShun_39 rfl (lv_at hl 3 rfl) ?_
    refine va_get (ci := 8) (v := .int u2.2.1) (C := RX8) (T := TX8) (N := 24) hx hb hts (fun w h => tcons w (xin8 w h)) hown hK hP 0 rfl rfl 10 (by decide) (hts _ (tcons _ m303)) (fun _ h9 => h9) rfl dX8_doesShun_40 ?_
    refine lv_icmp_le (tgt := 50) hx hb dX8_doesShun_43 (by decide) (fun c43 => ?_) (fun c43 => ?_)
    · have hF := itP c43 hF
      refine lv_iconst (v := 0) hx hb dX8_doesShun_50 (by decide) ?_
      refine lv_istore (lv' := [(6, .int (0 : Int32)), (5, .int (0 : Int32)), (4, .int u2.1), (3, .int u1), (0, .ref t), (1, .int br), (2, .int sy)]) hx hb dX8_doesShun_51 hl (by decide) rfl (fun ls hl => ?_)
      refine lv_aload_n hx hb dX8_doesShun_53 rfl (lv_at hl 4 rfl) ?_
      refine lv_iload_n hx hb dX8_doesShun_54 rfl (lv_at hl 5 rfl) ?_
      refine lv_iconst (v := 0) hx hb dX8_doesShun_55 (by decide) ?_
      obtain ⟨u3, e3, hF⟩ := bdS hF
      refine xEndI (xRunV (As := [.int br, .int (0 : Int32)]) (rest := []) hZ (c_X8_of G t row kpt errs bitsOf sizeOf cels broken isFit breaks act wth facts pile trc images u2.2.1 u2.2.2.1 laid hre opnd bad usg trcd isP row_f br (0 : Int32) u3 e3 l H.size) m291 m292 m293 m5 m294 2 ⟨rfl, hdX8_of⟩ ⟨Nat.le_of_ble_eq_true rfl, Nat.le_of_ble_eq_true rfl⟩ ⟨rfl, rfl⟩ hP hD hS 0 8 rfl rfl rfl [0, 1] rfl rfl rfl hl.1 rfl (Nat.le_of_ble_eq_true rfl) dX8_doesShun_56 ⟨Nat.zero_le _, Nat.zero_le _⟩) hP hD hS hA [0, 1] rfl rfl rfl (fun H locs n3 hP hD hS => ?_)
      have hP : va_P G.1 vwCl [(t, .inr (8, [.ref row, .ref kpt, .int images, .ref errs, .ref bitsOf, .ref sizeOf, .ref cels, .ref broken, .ref isFit, .ref breaks, .int u2.2.1, .int u2.2.2.1, .ref act, .ref wth, .ref facts, .ref pile, .int laid, .int hre, .int opnd, .int bad, .int usg, .ref trc, .int trcd, .int isP])), (row, .inl (xI G, 400, .inl row_f)), (broken, .inl (xJ G, 729, .inr (.inl broken_f))), (isFit, .inl (xZ G, 729, .inl u2.2.2.2.1)), (breaks, .inl (xI G, 64, .inl u2.2.2.2.2))] H := hP
      have hD : va_D A [(t, .inr (8, [.ref row, .ref kpt, .int images, .ref errs, .ref bitsOf, .ref sizeOf, .ref cels, .ref broken, .ref isFit, .ref breaks, .int u2.2.1, .int u2.2.2.1, .ref act, .ref wth, .ref facts, .ref pile, .int laid, .int hre, .int opnd, .int bad, .int usg, .ref trc, .int trcd, .int isP])), (row, .inl (xI G, 400, .inl row_f)), (broken, .inl (xJ G, 729, .inr (.inl broken_f))), (isFit, .inl (xZ G, 729, .inl u2.2.2.2.1)), (breaks, .inl (xI G, 64, .inl u2.2.2.2.2))] := hD
      by_cases c59_0 : u3 = (1 : Int32)
      · have hF := itP c59_0 hF
        refine lv_tableIn (off := 37) (tgt := 96) hx hb dX8_doesShun_59 (by rw [c59_0]; decide) (by rw [c59_0]; decide) (by rw [c59_0]; rfl) (by decide) ?_
        refine lv_iload hx hb dX8_doesShun_96 (lv_at hl 2 rfl) ?_
        refine lv_if_le (tgt := 105) hx hb dX8_doesShun_98 (by decide) (fun c98 => ?_) (fun c98 => ?_)
        · have hF := itP c98 hF
          refine lv_iconst (v := 0) hx hb dX8_doesShun_105 (by decide) ?_
          obtain rfl := Option.some.inj hF
          rw [← hQ]
          exact W.zret (v := (0 : Int32)) hx hb hr (show narrow .boolean (.int (0 : Int32)) = .int (0 : Int32) from by decide) (fun t ht hW => ⟨⟨_, (), rfl, ⟨rfl, (show narrow .boolean (.int (0 : Int32)) = .int (0 : Int32) from by decide)⟩, xLf hP ht⟩, hS.F ht⟩) hS.2.2 dX8_doesShun_106
        · have hF := itN c98 hF
          refine lv_iconst (v := 1) hx hb dX8_doesShun_101 (by decide) ?_
          refine lv_goto (tgt := 106) hx hb dX8_doesShun_102 (by decide) ?_
          obtain rfl := Option.some.inj hF
          rw [← hQ]
          exact W.zret (v := (1 : Int32)) hx hb hr (show narrow .boolean (.int (1 : Int32)) = .int (1 : Int32) from by decide) (fun t ht hW => ⟨⟨_, (), rfl, ⟨rfl, (show narrow .boolean (.int (1 : Int32)) = .int (1 : Int32) from by decide)⟩, xLf hP ht⟩, hS.F ht⟩) hS.2.2 dX8_doesShun_106
      · have hF := itN c59_0 hF
        by_cases c59_1 : u3 = (2 : Int32)
        · have hF := itP c59_1 hF
          refine lv_tableIn (off := 48) (tgt := 107) hx hb dX8_doesShun_59 (by rw [c59_1]; decide) (by rw [c59_1]; decide) (by rw [c59_1]; rfl) (by decide) ?_
          refine lv_iload hx hb dX8_doesShun_107 (lv_at hl 0 rfl) ?_
          obtain rfl := Option.some.inj hF
          rw [← hQ]
          exact W.zret (v := (0 : Int32)) hx hb hr (show narrow .boolean (.int (0 : Int32)) = .int (0 : Int32) from by decide) (fun t ht hW => ⟨⟨_, (), rfl, ⟨rfl, (show narrow .boolean (.int (0 : Int32)) = .int (0 : Int32) from by decide)⟩, xLf hP ht⟩, hS.F ht⟩) hS.2.2 dX8_doesShun_109
        · have hF := itN c59_1 hF
          by_cases c59_2 : u3 = (3 : Int32)
          · have hF := itP c59_2 hF
            refine lv_tableIn (off := 51) (tgt := 110) hx hb dX8_doesShun_59 (by rw [c59_2]; decide) (by rw [c59_2]; decide) (by rw [c59_2]; rfl) (by decide) ?_
            refine lv_iload hx hb dX8_doesShun_110 (lv_at hl 1 rfl) ?_
            refine lv_if_eq (tgt := 132) hx hb dX8_doesShun_112 (by decide) (fun c112 => ?_) (fun c112 => absurd (by decide) c112)
            refine lv_iconst (v := 0) hx hb dX8_doesShun_132 (by decide) ?_
            obtain rfl := Option.some.inj hF
            rw [← hQ]
            exact W.zret (v := (0 : Int32)) hx hb hr (show narrow .boolean (.int (0 : Int32)) = .int (0 : Int32) from by decide) (fun t ht hW => ⟨⟨_, (), rfl, ⟨rfl, (show narrow .boolean (.int (0 : Int32)) = .int (0 : Int32) from by decide)⟩, xLf hP ht⟩, hS.F ht⟩) hS.2.2 dX8_doesShun_133
          · have hF := itN c59_2 hF
            by_cases c59_3 : u3 = (4 : Int32)
            · have hF := itP c59_3 hF
              refine lv_tableIn (off := 75) (tgt := 134) hx hb dX8_doesShun_59 (by rw [c59_3]; decide) (by rw [c59_3]; decide) (by rw [c59_3]; rfl) (by decide) ?_
              refine lv_iload hx hb dX8_doesShun_134 (lv_at hl 2 rfl) ?_
              refine lv_if_gt (tgt := 148) hx hb dX8_doesShun_136 (by decide) (fun c136 => ?_) (fun c136 => ?_)
              · have hF := itP c136 hF
                refine lv_iconst (v := 1) hx hb dX8_doesShun_148 (by decide) ?_
                refine lv_goto (tgt := 153) hx hb dX8_doesShun_149 (by decide) ?_
                obtain rfl := Option.some.inj hF
                rw [← hQ]
                exact W.zret (v := (1 : Int32)) hx hb hr (show narrow .boolean (.int (1 : Int32)) = .int (1 : Int32) from by decide) (fun t ht hW => ⟨⟨_, (), rfl, ⟨rfl, (show narrow .boolean (.int (1 : Int32)) = .int (1 : Int32) from by decide)⟩, xLf hP ht⟩, hS.F ht⟩) hS.2.2 dX8_doesShun_153
              · have hF := itN c136 hF
                refine lv_iload_n hx hb dX8_doesShun_139 rfl (lv_at hl 6 rfl) ?_
                refine lv_iconst (v := 2) hx hb dX8_doesShun_140 (by decide) ?_
                refine lv_irem hx hb dX8_doesShun_141 (by decide) ?_
                refine lv_iload_n hx hb dX8_doesShun_142 rfl (lv_at hl 3 rfl) ?_
                refine lv_iconst (v := 2) hx hb dX8_doesShun_143 (by decide) ?_
                refine lv_irem hx hb dX8_doesShun_144 (by decide) ?_
                refine lv_icmp_ne (tgt := 152) hx hb dX8_doesShun_145 (by decide) (fun c145 => ?_) (fun c145 => ?_)
                · have hF := itN c145 hF
                  refine lv_iconst (v := 0) hx hb dX8_doesShun_152 (by decide) ?_
                  obtain rfl := Option.some.inj hF
                  rw [← hQ]
                  exact W.zret (v := (0 : Int32)) hx hb hr (show narrow .boolean (.int (0 : Int32)) = .int (0 : Int32) from by decide) (fun t ht hW => ⟨⟨_, (), rfl, ⟨rfl, (show narrow .boolean (.int (0 : Int32)) = .int (0 : Int32) from by decide)⟩, xLf hP ht⟩, hS.F ht⟩) hS.2.2 dX8_doesShun_153
                · have hF := itP c145 hF
                  refine lv_iconst (v := 1) hx hb dX8_doesShun_148 (by decide) ?_
                  refine lv_goto (tgt := 153) hx hb dX8_doesShun_149 (by decide) ?_
                  obtain rfl := Option.some.inj hF
                  rw [← hQ]
                  exact W.zret (v := (1 : Int32)) hx hb hr (show narrow .boolean (.int (1 : Int32)) = .int (1 : Int32) from by decide) (fun t ht hW => ⟨⟨_, (), rfl, ⟨rfl, (show narrow .boolean (.int (1 : Int32)) = .int (1 : Int32) from by decide)⟩, xLf hP ht⟩, hS.F ht⟩) hS.2.2 dX8_doesShun_153
            · have hF := itN c59_3 hF
              by_cases c59_4 : u3 = (5 : Int32)
              · have hF := itP c59_4 hF
                refine lv_tableIn (off := 95) (tgt := 154) hx hb dX8_doesShun_59 (by rw [c59_4]; decide) (by rw [c59_4]; decide) (by rw [c59_4]; rfl) (by decide) ?_
                refine lv_iload hx hb dX8_doesShun_154 (lv_at hl 0 rfl) ?_
                refine lv_if_eq (tgt := 172) hx hb dX8_doesShun_156 (by decide) (fun c156 => ?_) (fun c156 => absurd (by decide) c156)
                refine lv_iconst (v := 0) hx hb dX8_doesShun_172 (by decide) ?_
                obtain rfl := Option.some.inj hF
                rw [← hQ]
                exact W.zret (v := (0 : Int32)) hx hb hr (show narrow .boolean (.int (0 : Int32)) = .int (0 : Int32) from by decide) (fun t ht hW => ⟨⟨_, (), rfl, ⟨rfl, (show narrow .boolean (.int (0 : Int32)) = .int (0 : Int32) from by decide)⟩, xLf hP ht⟩, hS.F ht⟩) hS.2.2 dX8_doesShun_173
              · have hF := itN c59_4 hF
                by_cases c59_5 : u3 = (6 : Int32)
                · have hF := itP c59_5 hF
                  refine lv_tableIn (off := 115) (tgt := 174) hx hb dX8_doesShun_59 (by rw [c59_5]; decide) (by rw [c59_5]; decide) (by rw [c59_5]; rfl) (by decide) ?_
                  refine lv_iload_n hx hb dX8_doesShun_174 rfl (lv_at hl 6 rfl) ?_
                  refine lv_iload_n hx hb dX8_doesShun_175 rfl (lv_at hl 3 rfl) ?_
                  refine lv_icmp_ne (tgt := 183) hx hb dX8_doesShun_176 (by decide) (fun c176 => ?_) (fun c176 => ?_)
                  · have hF := itN c176 hF
                    refine lv_iconst (v := 0) hx hb dX8_doesShun_183 (by decide) ?_
                    obtain rfl := Option.some.inj hF
                    rw [← hQ]
                    exact W.zret (v := (0 : Int32)) hx hb hr (show narrow .boolean (.int (0 : Int32)) = .int (0 : Int32) from by decide) (fun t ht hW => ⟨⟨_, (), rfl, ⟨rfl, (show narrow .boolean (.int (0 : Int32)) = .int (0 : Int32) from by decide)⟩, xLf hP ht⟩, hS.F ht⟩) hS.2.2 dX8_doesShun_184
                  · have hF := itP c176 hF
                    refine lv_iconst (v := 1) hx hb dX8_doesShun_179 (by decide) ?_
                    refine lv_goto (tgt := 184) hx hb dX8_doesShun_180 (by decide) ?_
                    obtain rfl := Option.some.inj hF
                    rw [← hQ]
                    exact W.zret (v := (1 : Int32)) hx hb hr (show narrow .boolean (.int (1 : Int32)) = .int (1 : Int32) from by decide) (fun t ht hW => ⟨⟨_, (), rfl, ⟨rfl, (show narrow .boolean (.int (1 : Int32)) = .int (1 : Int32) from by decide)⟩, xLf hP ht⟩, hS.F ht⟩) hS.2.2 dX8_doesShun_184
                · have hF := itN c59_5 hF
                  refine lv_tableOut (tgt := 185) hx hb dX8_doesShun_59 (by have h0 : u3.toInt ≠ 1 := xNe c59_0; have h1 : u3.toInt ≠ 2 := xNe c59_1; have h2 : u3.toInt ≠ 3 := xNe c59_2; have h3 : u3.toInt ≠ 4 := xNe c59_3; have h4 : u3.toInt ≠ 5 := xNe c59_4; have h5 : u3.toInt ≠ 6 := xNe c59_5; omega) (by decide) ?_
                  refine lv_iload hx hb dX8_doesShun_185 (lv_at hl 1 rfl) ?_
                  obtain rfl := Option.some.inj hF
                  rw [← hQ]
                  exact W.zret (v := (0 : Int32)) hx hb hr (show narrow .boolean (.int (0 : Int32)) = .int (0 : Int32) from by decide) (fun t ht hW => ⟨⟨_, (), rfl, ⟨rfl, (show narrow .boolean (.int (0 : Int32)) = .int (0 : Int32) from by decide)⟩, xLf hP ht⟩, hS.F ht⟩) hS.2.2 dX8_doesShun_187
    · have hF := itN c43 hF
      refine lv_iconst (v := 1) hx hb dX8_doesShun_46 (by decide) ?_
      refine lv_goto (tgt := 51) hx hb dX8_doesShun_47 (by decide) ?_
      refine lv_istore (lv' := [(6, .int (1 : Int32)), (5, .int (0 : Int32)), (4, .int u2.1), (3, .int u1), (0, .ref t), (1, .int br), (2, .int sy)]) hx hb dX8_doesShun_51 hl (by decide) rfl (fun ls hl => ?_)
      refine lv_aload_n hx hb dX8_doesShun_53 rfl (lv_at hl 4 rfl) ?_
      refine lv_iload_n hx hb dX8_doesShun_54 rfl (lv_at hl 5 rfl) ?_
      refine lv_iconst (v := 0) hx hb dX8_doesShun_55 (by decide) ?_
      obtain ⟨u3, e3, hF⟩ := bdS hF
      refine xEndI (xRunV (As := [.int br, .int (0 : Int32)]) (rest := []) hZ (c_X8_of G t row kpt errs bitsOf sizeOf cels broken isFit breaks act wth facts pile trc images u2.2.1 u2.2.2.1 laid hre opnd bad usg trcd isP row_f br (0 : Int32) u3 e3 l H.size) m291 m292 m293 m5 m294 2 ⟨rfl, hdX8_of⟩ ⟨Nat.le_of_ble_eq_true rfl, Nat.le_of_ble_eq_true rfl⟩ ⟨rfl, rfl⟩ hP hD hS 0 8 rfl rfl rfl [0, 1] rfl rfl rfl hl.1 rfl (Nat.le_of_ble_eq_true rfl) dX8_doesShun_56 ⟨Nat.zero_le _, Nat.zero_le _⟩) hP hD hS hA [0, 1] rfl rfl rfl (fun H locs n3 hP hD hS => ?_)
      have hP : va_P G.1 vwCl [(t, .inr (8, [.ref row, .ref kpt, .int images, .ref errs, .ref bitsOf, .ref sizeOf, .ref cels, .ref broken, .ref isFit, .ref breaks, .int u2.2.1, .int u2.2.2.1, .ref act, .ref wth, .ref facts, .ref pile, .int laid, .int hre, .int opnd, .int bad, .int usg, .ref trc, .int trcd, .int isP])), (row, .inl (xI G, 400, .inl row_f)), (broken, .inl (xJ G, 729, .inr (.inl broken_f))), (isFit, .inl (xZ G, 729, .inl u2.2.2.2.1)), (breaks, .inl (xI G, 64, .inl u2.2.2.2.2))] H := hP
      have hD : va_D A [(t, .inr (8, [.ref row, .ref kpt, .int images, .ref errs, .ref bitsOf, .ref sizeOf, .ref cels, .ref broken, .ref isFit, .ref breaks, .int u2.2.1, .int u2.2.2.1, .ref act, .ref wth, .ref facts, .ref pile, .int laid, .int hre, .int opnd, .int bad, .int usg, .ref trc, .int trcd, .int isP])), (row, .inl (xI G, 400, .inl row_f)), (broken, .inl (xJ G, 729, .inr (.inl broken_f))), (isFit, .inl (xZ G, 729, .inl u2.2.2.2.1)), (breaks, .inl (xI G, 64, .inl u2.2.2.2.2))] := hD
      by_cases c59_0 : u3 = (1 : Int32)
      · have hF := itP c59_0 hF
        refine lv_tableIn (off := 37) (tgt := 96) hx hb dX8_doesShun_59 (by rw [c59_0]; decide) (by rw [c59_0]; decide) (by rw [c59_0]; rfl) (by decide) ?_
        refine lv_iload hx hb dX8_doesShun_96 (lv_at hl 2 rfl) ?_
        refine lv_if_le (tgt := 105) hx hb dX8_doesShun_98 (by decide) (fun c98 => ?_) (fun c98 => ?_)
        · have hF := itP c98 hF
          refine lv_iconst (v := 0) hx hb dX8_doesShun_105 (by decide) ?_
          obtain rfl := Option.some.inj hF
          rw [← hQ]
          exact W.zret (v := (0 : Int32)) hx hb hr (show narrow .boolean (.int (0 : Int32)) = .int (0 : Int32) from by decide) (fun t ht hW => ⟨⟨_, (), rfl, ⟨rfl, (show narrow .boolean (.int (0 : Int32)) = .int (0 : Int32) from by decide)⟩, xLf hP ht⟩, hS.F ht⟩) hS.2.2 dX8_doesShun_106
        · have hF := itN c98 hF
          refine lv_iconst (v := 1) hx hb dX8_doesShun_101 (by decide) ?_
          refine lv_goto (tgt := 106) hx hb dX8_doesShun_102 (by decide) ?_
          obtain rfl := Option.some.inj hF
          rw [← hQ]
          exact W.zret (v := (1 : Int32)) hx hb hr (show narrow .boolean (.int (1 : Int32)) = .int (1 : Int32) from by decide) (fun t ht hW => ⟨⟨_, (), rfl, ⟨rfl, (show narrow .boolean (.int (1 : Int32)) = .int (1 : Int32) from by decide)⟩, xLf hP ht⟩, hS.F ht⟩) hS.2.2 dX8_doesShun_106
      · have hF := itN c59_0 hF
        by_cases c59_1 : u3 = (2 : Int32)
        · have hF := itP c59_1 hF
          refine lv_tableIn (off := 48) (tgt := 107) hx hb dX8_doesShun_59 (by rw [c59_1]; decide) (by rw [c59_1]; decide) (by rw [c59_1]; rfl) (by decide) ?_
          refine lv_iload hx hb dX8_doesShun_107 (lv_at hl 0 rfl) ?_
          obtain rfl := Option.some.inj hF
          rw [← hQ]
          exact W.zret (v := (1 : Int32)) hx hb hr (show narrow .boolean (.int (1 : Int32)) = .int (1 : Int32) from by decide) (fun t ht hW => ⟨⟨_, (), rfl, ⟨rfl, (show narrow .boolean (.int (1 : Int32)) = .int (1 : Int32) from by decide)⟩, xLf hP ht⟩, hS.F ht⟩) hS.2.2 dX8_doesShun_109
        · have hF := itN c59_1 hF
          by_cases c59_2 : u3 = (3 : Int32)
          · have hF := itP c59_2 hF
            refine lv_tableIn (off := 51) (tgt := 110) hx hb dX8_doesShun_59 (by rw [c59_2]; decide) (by rw [c59_2]; decide) (by rw [c59_2]; rfl) (by decide) ?_
            refine lv_iload hx hb dX8_doesShun_110 (lv_at hl 1 rfl) ?_
            refine lv_if_eq (tgt := 132) hx hb dX8_doesShun_112 (by decide) (fun c112 => ?_) (fun c112 => absurd (by decide) c112)
            refine lv_iconst (v := 0) hx hb dX8_doesShun_132 (by decide) ?_
            obtain rfl := Option.some.inj hF
            rw [← hQ]
            exact W.zret (v := (0 : Int32)) hx hb hr (show narrow .boolean (.int (0 : Int32)) = .int (0 : Int32) from by decide) (fun t ht hW => ⟨⟨_, (), rfl, ⟨rfl, (show narrow .boolean (.int (0 : Int32)) = .int (0 : Int32) from by decide)⟩, xLf hP ht⟩, hS.F ht⟩) hS.2.2 dX8_doesShun_133
          · have hF := itN c59_2 hF
            by_cases c59_3 : u3 = (4 : Int32)
            · have hF := itP c59_3 hF
              refine lv_tableIn (off := 75) (tgt := 134) hx hb dX8_doesShun_59 (by rw [c59_3]; decide) (by rw [c59_3]; decide) (by rw [c59_3]; rfl) (by decide) ?_
              refine lv_iload hx hb dX8_doesShun_134 (lv_at hl 2 rfl) ?_
              refine lv_if_gt (tgt := 148) hx hb dX8_doesShun_136 (by decide) (fun c136 => ?_) (fun c136 => ?_)
              · have hF := itP c136 hF
                refine lv_iconst (v := 1) hx hb dX8_doesShun_148 (by decide) ?_
                refine lv_goto (tgt := 153) hx hb dX8_doesShun_149 (by decide) ?_
                obtain rfl := Option.some.inj hF
                rw [← hQ]
                exact W.zret (v := (1 : Int32)) hx hb hr (show narrow .boolean (.int (1 : Int32)) = .int (1 : Int32) from by decide) (fun t ht hW => ⟨⟨_, (), rfl, ⟨rfl, (show narrow .boolean (.int (1 : Int32)) = .int (1 : Int32) from by decide)⟩, xLf hP ht⟩, hS.F ht⟩) hS.2.2 dX8_doesShun_153
              · have hF := itN c136 hF
                refine lv_iload_n hx hb dX8_doesShun_139 rfl (lv_at hl 6 rfl) ?_
                refine lv_iconst (v := 2) hx hb dX8_doesShun_140 (by decide) ?_
                refine lv_irem hx hb dX8_doesShun_141 (by decide) ?_
                refine lv_iload_n hx hb dX8_doesShun_142 rfl (lv_at hl 3 rfl) ?_
                refine lv_iconst (v := 2) hx hb dX8_doesShun_143 (by decide) ?_
                refine lv_irem hx hb dX8_doesShun_144 (by decide) ?_
                refine lv_icmp_ne (tgt := 152) hx hb dX8_doesShun_145 (by decide) (fun c145 => ?_) (fun c145 => ?_)
                · have hF := itN c145 hF
                  refine lv_iconst (v := 0) hx hb dX8_doesShun_152 (by decide) ?_
                  obtain rfl := Option.some.inj hF
                  rw [← hQ]
                  exact W.zret (v := (0 : Int32)) hx hb hr (show narrow .boolean (.int (0 : Int32)) = .int (0 : Int32) from by decide) (fun t ht hW => ⟨⟨_, (), rfl, ⟨rfl, (show narrow .boolean (.int (0 : Int32)) = .int (0 : Int32) from by decide)⟩, xLf hP ht⟩, hS.F ht⟩) hS.2.2 dX8_doesShun_153
                · have hF := itP c145 hF
                  refine lv_iconst (v := 1) hx hb dX8_doesShun_148 (by decide) ?_
                  refine lv_goto (tgt := 153) hx hb dX8_doesShun_149 (by decide) ?_
                  obtain rfl := Option.some.inj hF
                  rw [← hQ]
                  exact W.zret (v := (1 : Int32)) hx hb hr (show narrow .boolean (.int (1 : Int32)) = .int (1 : Int32) from by decide) (fun t ht hW => ⟨⟨_, (), rfl, ⟨rfl, (show narrow .boolean (.int (1 : Int32)) = .int (1 : Int32) from by decide)⟩, xLf hP ht⟩, hS.F ht⟩) hS.2.2 dX8_doesShun_153
            · have hF := itN c59_3 hF
              by_cases c59_4 : u3 = (5 : Int32)
              · have hF := itP c59_4 hF
                refine lv_tableIn (off := 95) (tgt := 154) hx hb dX8_doesShun_59 (by rw [c59_4]; decide) (by rw [c59_4]; decide) (by rw [c59_4]; rfl) (by decide) ?_
                refine lv_iload hx hb dX8_doesShun_154 (lv_at hl 0 rfl) ?_
                refine lv_if_eq (tgt := 172) hx hb dX8_doesShun_156 (by decide) (fun c156 => absurd c156 (by decide)) (fun c156 => ?_)
                refine lv_iload hx hb dX8_doesShun_159 (lv_at hl 2 rfl) ?_
                refine lv_aload_n hx hb dX8_doesShun_161 rfl (lv_at hl 4 rfl) ?_
                refine va_get (ci := 8) (v := .int u2.2.1) (C := RX8) (T := TX8) (N := 24) hx hb hts (fun w h => tcons w (xin8 w h)) hown hK hP 0 rfl rfl 10 (by decide) (hts _ (tcons _ m303)) (fun _ h9 => h9) rfl dX8_doesShun_162 ?_
                refine lv_icmp_ne (tgt := 172) hx hb dX8_doesShun_165 (by decide) (fun c165 => ?_) (fun c165 => ?_)
                · have hF := itN c165 hF
                  refine lv_iconst (v := 0) hx hb dX8_doesShun_172 (by decide) ?_
                  obtain rfl := Option.some.inj hF
                  rw [← hQ]
                  exact W.zret (v := (0 : Int32)) hx hb hr (show narrow .boolean (.int (0 : Int32)) = .int (0 : Int32) from by decide) (fun t ht hW => ⟨⟨_, (), rfl, ⟨rfl, (show narrow .boolean (.int (0 : Int32)) = .int (0 : Int32) from by decide)⟩, xLf hP ht⟩, hS.F ht⟩) hS.2.2 dX8_doesShun_173
                · have hF := itP c165 hF
                  refine lv_iconst (v := 1) hx hb dX8_doesShun_168 (by decide) ?_
                  refine lv_goto (tgt := 173) hx hb dX8_doesShun_169 (by decide) ?_
                  obtain rfl := Option.some.inj hF
                  rw [← hQ]
                  exact W.zret (v := (1 : Int32)) hx hb hr (show narrow .boolean (.int (1 : Int32)) = .int (1 : Int32) from by decide) (fun t ht hW => ⟨⟨_, (), rfl, ⟨rfl, (show narrow .boolean (.int (1 : Int32)) = .int (1 : Int32) from by decide)⟩, xLf hP ht⟩, hS.F ht⟩) hS.2.2 dX8_doesShun_173
              · have hF := itN c59_4 hF
                by_cases c59_5 : u3 = (6 : Int32)
                · have hF := itP c59_5 hF
                  refine lv_tableIn (off := 115) (tgt := 174) hx hb dX8_doesShun_59 (by rw [c59_5]; decide) (by rw [c59_5]; decide) (by rw [c59_5]; rfl) (by decide) ?_
                  refine lv_iload_n hx hb dX8_doesShun_174 rfl (lv_at hl 6 rfl) ?_
                  refine lv_iload_n hx hb dX8_doesShun_175 rfl (lv_at hl 3 rfl) ?_
                  refine lv_icmp_ne (tgt := 183) hx hb dX8_doesShun_176 (by decide) (fun c176 => ?_) (fun c176 => ?_)
                  · have hF := itN c176 hF
                    refine lv_iconst (v := 0) hx hb dX8_doesShun_183 (by decide) ?_
                    obtain rfl := Option.some.inj hF
                    rw [← hQ]
                    exact W.zret (v := (0 : Int32)) hx hb hr (show narrow .boolean (.int (0 : Int32)) = .int (0 : Int32) from by decide) (fun t ht hW => ⟨⟨_, (), rfl, ⟨rfl, (show narrow .boolean (.int (0 : Int32)) = .int (0 : Int32) from by decide)⟩, xLf hP ht⟩, hS.F ht⟩) hS.2.2 dX8_doesShun_184
                  · have hF := itP c176 hF
                    refine lv_iconst (v := 1) hx hb dX8_doesShun_179 (by decide) ?_
                    refine lv_goto (tgt := 184) hx hb dX8_doesShun_180 (by decide) ?_
                    obtain rfl := Option.some.inj hF
                    rw [← hQ]
                    exact W.zret (v := (1 : Int32)) hx hb hr (show narrow .boolean (.int (1 : Int32)) = .int (1 : Int32) from by decide) (fun t ht hW => ⟨⟨_, (), rfl, ⟨rfl, (show narrow .boolean (.int (1 : Int32)) = .int (1 : Int32) from by decide)⟩, xLf hP ht⟩, hS.F ht⟩) hS.2.2 dX8_doesShun_184
                · have hF := itN c59_5 hF
                  refine lv_tableOut (tgt := 185) hx hb dX8_doesShun_59 (by have h0 : u3.toInt ≠ 1 := xNe c59_0; have h1 : u3.toInt ≠ 2 := xNe c59_1; have h2 : u3.toInt ≠ 3 := xNe c59_2; have h3 : u3.toInt ≠ 4 := xNe c59_3; have h4 : u3.toInt ≠ 5 := xNe c59_4; have h5 : u3.toInt ≠ 6 := xNe c59_5; omega) (by decide) ?_
                  refine lv_iload hx hb dX8_doesShun_185 (lv_at hl 1 rfl) ?_
                  obtain rfl := Option.some.inj hF
                  rw [← hQ]
                  exact W.zret (v := (0 : Int32)) hx hb hr (show narrow .boolean (.int (0 : Int32)) = .int (0 : Int32) from by decide) (fun t ht hW => ⟨⟨_, (), rfl, ⟨rfl, (show narrow .boolean (.int (0 : Int32)) = .int (0 : Int32) from by decide)⟩, xLf hP ht⟩, hS.F ht⟩) hS.2.2 dX8_doesShun_187
  · have hF := itN c25 hF
    refine lv_iconst (v := 1) hx hb dX8_doesShun_28 (by decide) ?_
    refine lv_goto (tgt := 33) hx hb dX8_doesShun_29 (by decide) ?_
    refine lv_istore (lv' := [(5, .int (1 : Int32)), (4, .int u2.1), (3, .int u1), (0, .ref t), (1, .int br), (2, .int sy)]) hx hb dX8_doesShun_33 hl (by decide) rfl (fun ls hl => ?_)
    refine lv_iconst (v := 2) hx hb dX8_doesShun_35 (by decide) ?_
    refine lv_iload hx hb dX8_doesShun_36 (lv_at hl 1 rfl) ?_
    refine lv_imul hx hb dX8_doesShun_38 ?_
    refine lv_aload_n hx hb dX8_doesShun_39 rfl (lv_at hl 3 rfl) ?_
    refine va_get (ci := 8) (v := .int u2.2.1) (C := RX8) (T := TX8) (N := 24) hx hb hts (fun w h => tcons w (xin8 w h)) hown hK hP 0 rfl rfl 10 (by decide) (hts _ (tcons _ m303)) (fun _ h9 => h9) rfl dX8_doesShun_40 ?_
    refine lv_icmp_le (tgt := 50) hx hb dX8_doesShun_43 (by decide) (fun c43 => ?_) (fun c43 => ?_)
    · have hF := itP c43 hF
      refine lv_iconst (v := 0) hx hb dX8_doesShun_50 (by decide) ?_
      refine lv_istore (lv' := [(6, .int (0 : Int32)), (5, .int (1 : Int32)), (4, .int u2.1), (3, .int u1), (0, .ref t), (1, .int br), (2, .int sy)]) hx hb dX8_doesShun_51 hl (by decide) rfl (fun ls hl => ?_)
      refine lv_aload_n hx hb dX8_doesShun_53 rfl (lv_at hl 4 rfl) ?_
      refine lv_iload_n hx hb dX8_doesShun_54 rfl (lv_at hl 5 rfl) ?_
      refine lv_iconst (v := 0) hx hb dX8_doesShun_55 (by decide) ?_
      obtain ⟨u3, e3, hF⟩ := bdS hF
      refine xEndI (xRunV (As := [.int br, .int (0 : Int32)]) (rest := []) hZ (c_X8_of G t row kpt errs bitsOf sizeOf cels broken isFit breaks act wth facts pile trc images u2.2.1 u2.2.2.1 laid hre opnd bad usg trcd isP row_f br (0 : Int32) u3 e3 l H.size) m291 m292 m293 m5 m294 2 ⟨rfl, hdX8_of⟩ ⟨Nat.le_of_ble_eq_true rfl, Nat.le_of_ble_eq_true rfl⟩ ⟨rfl, rfl⟩ hP hD hS 0 8 rfl rfl rfl [0, 1] rfl rfl rfl hl.1 rfl (Nat.le_of_ble_eq_true rfl) dX8_doesShun_56 ⟨Nat.zero_le _, Nat.zero_le _⟩) hP hD hS hA [0, 1] rfl rfl rfl (fun H locs n3 hP hD hS => ?_)
      have hP : va_P G.1 vwCl [(t, .inr (8, [.ref row, .ref kpt, .int images, .ref errs, .ref bitsOf, .ref sizeOf, .ref cels, .ref broken, .ref isFit, .ref breaks, .int u2.2.1, .int u2.2.2.1, .ref act, .ref wth, .ref facts, .ref pile, .int laid, .int hre, .int opnd, .int bad, .int usg, .ref trc, .int trcd, .int isP])), (row, .inl (xI G, 400, .inl row_f)), (broken, .inl (xJ G, 729, .inr (.inl broken_f))), (isFit, .inl (xZ G, 729, .inl u2.2.2.2.1)), (breaks, .inl (xI G, 64, .inl u2.2.2.2.2))] H := hP
      have hD : va_D A [(t, .inr (8, [.ref row, .ref kpt, .int images, .ref errs, .ref bitsOf, .ref sizeOf, .ref cels, .ref broken, .ref isFit, .ref breaks, .int u2.2.1, .int u2.2.2.1, .ref act, .ref wth, .ref facts, .ref pile, .int laid, .int hre, .int opnd, .int bad, .int usg, .ref trc, .int trcd, .int isP])), (row, .inl (xI G, 400, .inl row_f)), (broken, .inl (xJ G, 729, .inr (.inl broken_f))), (isFit, .inl (xZ G, 729, .inl u2.2.2.2.1)), (breaks, .inl (xI G, 64, .inl u2.2.2.2.2))] := hD
      by_cases c59_0 : u3 = (1 : Int32)
      · have hF := itP c59_0 hF
        refine lv_tableIn (off := 37) (tgt := 96) hx hb dX8_doesShun_59 (by rw [c59_0]; decide) (by rw [c59_0]; decide) (by rw [c59_0]; rfl) (by decide) ?_
        refine lv_iload hx hb dX8_doesShun_96 (lv_at hl 2 rfl) ?_
        refine lv_if_le (tgt := 105) hx hb dX8_doesShun_98 (by decide) (fun c98 => ?_) (fun c98 => ?_)
        · have hF := itP c98 hF
          refine lv_iconst (v := 0) hx hb dX8_doesShun_105 (by decide) ?_
          obtain rfl := Option.some.inj hF
          rw [← hQ]
          exact W.zret (v := (0 : Int32)) hx hb hr (show narrow .boolean (.int (0 : Int32)) = .int (0 : Int32) from by decide) (fun t ht hW => ⟨⟨_, (), rfl, ⟨rfl, (show narrow .boolean (.int (0 : Int32)) = .int (0 : Int32) from by decide)⟩, xLf hP ht⟩, hS.F ht⟩) hS.2.2 dX8_doesShun_106
        · have hF := itN c98 hF
          refine lv_iconst (v := 1) hx hb dX8_doesShun_101 (by decide) ?_
          refine lv_goto (tgt := 106) hx hb dX8_doesShun_102 (by decide) ?_
          obtain rfl := Option.some.inj hF
          rw [← hQ]
          exact W.zret (v := (1 : Int32)) hx hb hr (show narrow .boolean (.int (1 : Int32)) = .int (1 : Int32) from by decide) (fun t ht hW => ⟨⟨_, (), rfl, ⟨rfl, (show narrow .boolean (.int (1 : Int32)) = .int (1 : Int32) from by decide)⟩, xLf hP ht⟩, hS.F ht⟩) hS.2.2 dX8_doesShun_106
      · have hF := itN c59_0 hF
        by_cases c59_1 : u3 = (2 : Int32)
        · have hF := itP c59_1 hF
          refine lv_tableIn (off := 48) (tgt := 107) hx hb dX8_doesShun_59 (by rw [c59_1]; decide) (by rw [c59_1]; decide) (by rw [c59_1]; rfl) (by decide) ?_
          refine lv_iload hx hb dX8_doesShun_107 (lv_at hl 0 rfl) ?_
          obtain rfl := Option.some.inj hF
          rw [← hQ]
          exact W.zret (v := (0 : Int32)) hx hb hr (show narrow .boolean (.int (0 : Int32)) = .int (0 : Int32) from by decide) (fun t ht hW => ⟨⟨_, (), rfl, ⟨rfl, (show narrow .boolean (.int (0 : Int32)) = .int (0 : Int32) from by decide)⟩, xLf hP ht⟩, hS.F ht⟩) hS.2.2 dX8_doesShun_109
        · have hF := itN c59_1 hF
          by_cases c59_2 : u3 = (3 : Int32)
          · have hF := itP c59_2 hF
            refine lv_tableIn (off := 51) (tgt := 110) hx hb dX8_doesShun_59 (by rw [c59_2]; decide) (by rw [c59_2]; decide) (by rw [c59_2]; rfl) (by decide) ?_
            refine lv_iload hx hb dX8_doesShun_110 (lv_at hl 1 rfl) ?_
            refine lv_if_eq (tgt := 132) hx hb dX8_doesShun_112 (by decide) (fun c112 => absurd c112 (by decide)) (fun c112 => ?_)
            refine lv_aload_n hx hb dX8_doesShun_115 rfl (lv_at hl 4 rfl) ?_
            refine va_get (ci := 8) (v := .ref row) (C := RX8) (T := TX8) (N := 24) hx hb hts (fun w h => tcons w (xin8 w h)) hown hK hP 0 rfl rfl 0 (by decide) (hts _ (tcons _ m137)) (fun _ h9 => h9) rfl dX8_doesShun_116 ?_
            refine lv_iconst (v := 0) hx hb dX8_doesShun_119 (by decide) ?_
            refine va_iald hx hb hK hP 1 0 rfl rfl (by unfold vp_in; decide) dX8_doesShun_120 ?_
            refine lv_bipush (v := 7) hx hb dX8_doesShun_121 (by decide) ?_
            refine lv_irem hx hb dX8_doesShun_123 (by decide) ?_
            refine lv_iconst (v := 2) hx hb dX8_doesShun_124 (by decide) ?_
            refine lv_icmp_ne (tgt := 132) hx hb dX8_doesShun_125 (by decide) (fun c125 => ?_) (fun c125 => ?_)
            · have hF := itN c125 hF
              refine lv_iconst (v := 0) hx hb dX8_doesShun_132 (by decide) ?_
              obtain rfl := Option.some.inj hF
              rw [← hQ]
              exact W.zret (v := (0 : Int32)) hx hb hr (show narrow .boolean (.int (0 : Int32)) = .int (0 : Int32) from by decide) (fun t ht hW => ⟨⟨_, (), rfl, ⟨rfl, (show narrow .boolean (.int (0 : Int32)) = .int (0 : Int32) from by decide)⟩, xLf hP ht⟩, hS.F ht⟩) hS.2.2 dX8_doesShun_133
            · have hF := itP c125 hF
              refine lv_iconst (v := 1) hx hb dX8_doesShun_128 (by decide) ?_
              refine lv_goto (tgt := 133) hx hb dX8_doesShun_129 (by decide) ?_
              obtain rfl := Option.some.inj hF
              rw [← hQ]
              exact W.zret (v := (1 : Int32)) hx hb hr (show narrow .boolean (.int (1 : Int32)) = .int (1 : Int32) from by decide) (fun t ht hW => ⟨⟨_, (), rfl, ⟨rfl, (show narrow .boolean (.int (1 : Int32)) = .int (1 : Int32) from by decide)⟩, xLf hP ht⟩, hS.F ht⟩) hS.2.2 dX8_doesShun_133
          · have hF := itN c59_2 hF
            by_cases c59_3 : u3 = (4 : Int32)
            · have hF := itP c59_3 hF
              refine lv_tableIn (off := 75) (tgt := 134) hx hb dX8_doesShun_59 (by rw [c59_3]; decide) (by rw [c59_3]; decide) (by rw [c59_3]; rfl) (by decide) ?_
              refine lv_iload hx hb dX8_doesShun_134 (lv_at hl 2 rfl) ?_
              refine lv_if_gt (tgt := 148) hx hb dX8_doesShun_136 (by decide) (fun c136 => ?_) (fun c136 => ?_)
              · have hF := itP c136 hF
                refine lv_iconst (v := 1) hx hb dX8_doesShun_148 (by decide) ?_
                refine lv_goto (tgt := 153) hx hb dX8_doesShun_149 (by decide) ?_
                obtain rfl := Option.some.inj hF
                rw [← hQ]
                exact W.zret (v := (1 : Int32)) hx hb hr (show narrow .boolean (.int (1 : Int32)) = .int (1 : Int32) from by decide) (fun t ht hW => ⟨⟨_, (), rfl, ⟨rfl, (show narrow .boolean (.int (1 : Int32)) = .int (1 : Int32) from by decide)⟩, xLf hP ht⟩, hS.F ht⟩) hS.2.2 dX8_doesShun_153
              · have hF := itN c136 hF
                refine lv_iload_n hx hb dX8_doesShun_139 rfl (lv_at hl 6 rfl) ?_
                refine lv_iconst (v := 2) hx hb dX8_doesShun_140 (by decide) ?_
                refine lv_irem hx hb dX8_doesShun_141 (by decide) ?_
                refine lv_iload_n hx hb dX8_doesShun_142 rfl (lv_at hl 3 rfl) ?_
                refine lv_iconst (v := 2) hx hb dX8_doesShun_143 (by decide) ?_
                refine lv_irem hx hb dX8_doesShun_144 (by decide) ?_
                refine lv_icmp_ne (tgt := 152) hx hb dX8_doesShun_145 (by decide) (fun c145 => ?_) (fun c145 => ?_)
                · have hF := itN c145 hF
                  refine lv_iconst (v := 0) hx hb dX8_doesShun_152 (by decide) ?_
                  obtain rfl := Option.some.inj hF
                  rw [← hQ]
                  exact W.zret (v := (0 : Int32)) hx hb hr (show narrow .boolean (.int (0 : Int32)) = .int (0 : Int32) from by decide) (fun t ht hW => ⟨⟨_, (), rfl, ⟨rfl, (show narrow .boolean (.int (0 : Int32)) = .int (0 : Int32) from by decide)⟩, xLf hP ht⟩, hS.F ht⟩) hS.2.2 dX8_doesShun_153
                · have hF := itP c145 hF
                  refine lv_iconst (v := 1) hx hb dX8_doesShun_148 (by decide) ?_
                  refine lv_goto (tgt := 153) hx hb dX8_doesShun_149 (by decide) ?_
                  obtain rfl := Option.some.inj hF
                  rw [← hQ]
                  exact W.zret (v := (1 : Int32)) hx hb hr (show narrow .boolean (.int (1 : Int32)) = .int (1 : Int32) from by decide) (fun t ht hW => ⟨⟨_, (), rfl, ⟨rfl, (show narrow .boolean (.int (1 : Int32)) = .int (1 : Int32) from by decide)⟩, xLf hP ht⟩, hS.F ht⟩) hS.2.2 dX8_doesShun_153
            · have hF := itN c59_3 hF
              by_cases c59_4 : u3 = (5 : Int32)
              · have hF := itP c59_4 hF
                refine lv_tableIn (off := 95) (tgt := 154) hx hb dX8_doesShun_59 (by rw [c59_4]; decide) (by rw [c59_4]; decide) (by rw [c59_4]; rfl) (by decide) ?_
                refine lv_iload hx hb dX8_doesShun_154 (lv_at hl 0 rfl) ?_
                refine lv_if_eq (tgt := 172) hx hb dX8_doesShun_156 (by decide) (fun c156 => ?_) (fun c156 => absurd (by decide) c156)
                refine lv_iconst (v := 0) hx hb dX8_doesShun_172 (by decide) ?_
                obtain rfl := Option.some.inj hF
                rw [← hQ]
                exact W.zret (v := (0 : Int32)) hx hb hr (show narrow .boolean (.int (0 : Int32)) = .int (0 : Int32) from by decide) (fun t ht hW => ⟨⟨_, (), rfl, ⟨rfl, (show narrow .boolean (.int (0 : Int32)) = .int (0 : Int32) from by decide)⟩, xLf hP ht⟩, hS.F ht⟩) hS.2.2 dX8_doesShun_173
              · have hF := itN c59_4 hF
                by_cases c59_5 : u3 = (6 : Int32)
                · have hF := itP c59_5 hF
                  refine lv_tableIn (off := 115) (tgt := 174) hx hb dX8_doesShun_59 (by rw [c59_5]; decide) (by rw [c59_5]; decide) (by rw [c59_5]; rfl) (by decide) ?_
                  refine lv_iload_n hx hb dX8_doesShun_174 rfl (lv_at hl 6 rfl) ?_
                  refine lv_iload_n hx hb dX8_doesShun_175 rfl (lv_at hl 3 rfl) ?_
                  refine lv_icmp_ne (tgt := 183) hx hb dX8_doesShun_176 (by decide) (fun c176 => ?_) (fun c176 => ?_)
                  · have hF := itN c176 hF
                    refine lv_iconst (v := 0) hx hb dX8_doesShun_183 (by decide) ?_
                    obtain rfl := Option.some.inj hF
                    rw [← hQ]
                    exact W.zret (v := (0 : Int32)) hx hb hr (show narrow .boolean (.int (0 : Int32)) = .int (0 : Int32) from by decide) (fun t ht hW => ⟨⟨_, (), rfl, ⟨rfl, (show narrow .boolean (.int (0 : Int32)) = .int (0 : Int32) from by decide)⟩, xLf hP ht⟩, hS.F ht⟩) hS.2.2 dX8_doesShun_184
                  · have hF := itP c176 hF
                    refine lv_iconst (v := 1) hx hb dX8_doesShun_179 (by decide) ?_
                    refine lv_goto (tgt := 184) hx hb dX8_doesShun_180 (by decide) ?_
                    obtain rfl := Option.some.inj hF
                    rw [← hQ]
                    exact W.zret (v := (1 : Int32)) hx hb hr (show narrow .boolean (.int (1 : Int32)) = .int (1 : Int32) from by decide) (fun t ht hW => ⟨⟨_, (), rfl, ⟨rfl, (show narrow .boolean (.int (1 : Int32)) = .int (1 : Int32) from by decide)⟩, xLf hP ht⟩, hS.F ht⟩) hS.2.2 dX8_doesShun_184
                · have hF := itN c59_5 hF
                  refine lv_tableOut (tgt := 185) hx hb dX8_doesShun_59 (by have h0 : u3.toInt ≠ 1 := xNe c59_0; have h1 : u3.toInt ≠ 2 := xNe c59_1; have h2 : u3.toInt ≠ 3 := xNe c59_2; have h3 : u3.toInt ≠ 4 := xNe c59_3; have h4 : u3.toInt ≠ 5 := xNe c59_4; have h5 : u3.toInt ≠ 6 := xNe c59_5; omega) (by decide) ?_
                  refine lv_iload hx hb dX8_doesShun_185 (lv_at hl 1 rfl) ?_
                  obtain rfl := Option.some.inj hF
                  rw [← hQ]
                  exact W.zret (v := (1 : Int32)) hx hb hr (show narrow .boolean (.int (1 : Int32)) = .int (1 : Int32) from by decide) (fun t ht hW => ⟨⟨_, (), rfl, ⟨rfl, (show narrow .boolean (.int (1 : Int32)) = .int (1 : Int32) from by decide)⟩, xLf hP ht⟩, hS.F ht⟩) hS.2.2 dX8_doesShun_187
    · have hF := itN c43 hF
      refine lv_iconst (v := 1) hx hb dX8_doesShun_46 (by decide) ?_
      refine lv_goto (tgt := 51) hx hb dX8_doesShun_47 (by decide) ?_
      refine lv_istore (lv' := [(6, .int (1 : Int32)), (5, .int (1 : Int32)), (4, .int u2.1), (3, .int u1), (0, .ref t), (1, .int br), (2, .int sy)]) hx hb dX8_doesShun_51 hl (by decide) rfl (fun ls hl => ?_)
      refine lv_aload_n hx hb dX8_doesShun_53 rfl (lv_at hl 4 rfl) ?_
      refine lv_iload_n hx hb dX8_doesShun_54 rfl (lv_at hl 5 rfl) ?_
      refine lv_iconst (v := 0) hx hb dX8_doesShun_55 (by decide) ?_
      obtain ⟨u3, e3, hF⟩ := bdS hF
      refine xEndI (xRunV (As := [.int br, .int (0 : Int32)]) (rest := []) hZ (c_X8_of G t row kpt errs bitsOf sizeOf cels broken isFit breaks act wth facts pile trc images u2.2.1 u2.2.2.1 laid hre opnd bad usg trcd isP row_f br (0 : Int32) u3 e3 l H.size) m291 m292 m293 m5 m294 2 ⟨rfl, hdX8_of⟩ ⟨Nat.le_of_ble_eq_true rfl, Nat.le_of_ble_eq_true rfl⟩ ⟨rfl, rfl⟩ hP hD hS 0 8 rfl rfl rfl [0, 1] rfl rfl rfl hl.1 rfl (Nat.le_of_ble_eq_true rfl) dX8_doesShun_56 ⟨Nat.zero_le _, Nat.zero_le _⟩) hP hD hS hA [0, 1] rfl rfl rfl (fun H locs n3 hP hD hS => ?_)
      have hP : va_P G.1 vwCl [(t, .inr (8, [.ref row, .ref kpt, .int images, .ref errs, .ref bitsOf, .ref sizeOf, .ref cels, .ref broken, .ref isFit, .ref breaks, .int u2.2.1, .int u2.2.2.1, .ref act, .ref wth, .ref facts, .ref pile, .int laid, .int hre, .int opnd, .int bad, .int usg, .ref trc, .int trcd, .int isP])), (row, .inl (xI G, 400, .inl row_f)), (broken, .inl (xJ G, 729, .inr (.inl broken_f))), (isFit, .inl (xZ G, 729, .inl u2.2.2.2.1)), (breaks, .inl (xI G, 64, .inl u2.2.2.2.2))] H := hP
      have hD : va_D A [(t, .inr (8, [.ref row, .ref kpt, .int images, .ref errs, .ref bitsOf, .ref sizeOf, .ref cels, .ref broken, .ref isFit, .ref breaks, .int u2.2.1, .int u2.2.2.1, .ref act, .ref wth, .ref facts, .ref pile, .int laid, .int hre, .int opnd, .int bad, .int usg, .ref trc, .int trcd, .int isP])), (row, .inl (xI G, 400, .inl row_f)), (broken, .inl (xJ G, 729, .inr (.inl broken_f))), (isFit, .inl (xZ G, 729, .inl u2.2.2.2.1)), (breaks, .inl (xI G, 64, .inl u2.2.2.2.2))] := hD
      by_cases c59_0 : u3 = (1 : Int32)
      · have hF := itP c59_0 hF
        refine lv_tableIn (off := 37) (tgt := 96) hx hb dX8_doesShun_59 (by rw [c59_0]; decide) (by rw [c59_0]; decide) (by rw [c59_0]; rfl) (by decide) ?_
        refine lv_iload hx hb dX8_doesShun_96 (lv_at hl 2 rfl) ?_
        refine lv_if_le (tgt := 105) hx hb dX8_doesShun_98 (by decide) (fun c98 => ?_) (fun c98 => ?_)
        · have hF := itP c98 hF
          refine lv_iconst (v := 0) hx hb dX8_doesShun_105 (by decide) ?_
          obtain rfl := Option.some.inj hF
          rw [← hQ]
          exact W.zret (v := (0 : Int32)) hx hb hr (show narrow .boolean (.int (0 : Int32)) = .int (0 : Int32) from by decide) (fun t ht hW => ⟨⟨_, (), rfl, ⟨rfl, (show narrow .boolean (.int (0 : Int32)) = .int (0 : Int32) from by decide)⟩, xLf hP ht⟩, hS.F ht⟩) hS.2.2 dX8_doesShun_106
        · have hF := itN c98 hF
          refine lv_iconst (v := 1) hx hb dX8_doesShun_101 (by decide) ?_
          refine lv_goto (tgt := 106) hx hb dX8_doesShun_102 (by decide) ?_
          obtain rfl := Option.some.inj hF
          rw [← hQ]
          exact W.zret (v := (1 : Int32)) hx hb hr (show narrow .boolean (.int (1 : Int32)) = .int (1 : Int32) from by decide) (fun t ht hW => ⟨⟨_, (), rfl, ⟨rfl, (show narrow .boolean (.int (1 : Int32)) = .int (1 : Int32) from by decide)⟩, xLf hP ht⟩, hS.F ht⟩) hS.2.2 dX8_doesShun_106
      · have hF := itN c59_0 hF
        by_cases c59_1 : u3 = (2 : Int32)
        · have hF := itP c59_1 hF
          refine lv_tableIn (off := 48) (tgt := 107) hx hb dX8_doesShun_59 (by rw [c59_1]; decide) (by rw [c59_1]; decide) (by rw [c59_1]; rfl) (by decide) ?_
          refine lv_iload hx hb dX8_doesShun_107 (lv_at hl 0 rfl) ?_
          obtain rfl := Option.some.inj hF
          rw [← hQ]
          exact W.zret (v := (1 : Int32)) hx hb hr (show narrow .boolean (.int (1 : Int32)) = .int (1 : Int32) from by decide) (fun t ht hW => ⟨⟨_, (), rfl, ⟨rfl, (show narrow .boolean (.int (1 : Int32)) = .int (1 : Int32) from by decide)⟩, xLf hP ht⟩, hS.F ht⟩) hS.2.2 dX8_doesShun_109
        · have hF := itN c59_1 hF
          by_cases c59_2 : u3 = (3 : Int32)
          · have hF := itP c59_2 hF
            refine lv_tableIn (off := 51) (tgt := 110) hx hb dX8_doesShun_59 (by rw [c59_2]; decide) (by rw [c59_2]; decide) (by rw [c59_2]; rfl) (by decide) ?_
            refine lv_iload hx hb dX8_doesShun_110 (lv_at hl 1 rfl) ?_
            refine lv_if_eq (tgt := 132) hx hb dX8_doesShun_112 (by decide) (fun c112 => absurd c112 (by decide)) (fun c112 => ?_)
            refine lv_aload_n hx hb dX8_doesShun_115 rfl (lv_at hl 4 rfl) ?_
            refine va_get (ci := 8) (v := .ref row) (C := RX8) (T := TX8) (N := 24) hx hb hts (fun w h => tcons w (xin8 w h)) hown hK hP 0 rfl rfl 0 (by decide) (hts _ (tcons _ m137)) (fun _ h9 => h9) rfl dX8_doesShun_116 ?_
            refine lv_iconst (v := 0) hx hb dX8_doesShun_119 (by decide) ?_
            refine va_iald hx hb hK hP 1 0 rfl rfl (by unfold vp_in; decide) dX8_doesShun_120 ?_
            refine lv_bipush (v := 7) hx hb dX8_doesShun_121 (by decide) ?_
            refine lv_irem hx hb dX8_doesShun_123 (by decide) ?_
            refine lv_iconst (v := 2) hx hb dX8_doesShun_124 (by decide) ?_
            refine lv_icmp_ne (tgt := 132) hx hb dX8_doesShun_125 (by decide) (fun c125 => ?_) (fun c125 => ?_)
            · have hF := itN c125 hF
              refine lv_iconst (v := 0) hx hb dX8_doesShun_132 (by decide) ?_
              obtain rfl := Option.some.inj hF
              rw [← hQ]
              exact W.zret (v := (0 : Int32)) hx hb hr (show narrow .boolean (.int (0 : Int32)) = .int (0 : Int32) from by decide) (fun t ht hW => ⟨⟨_, (), rfl, ⟨rfl, (show narrow .boolean (.int (0 : Int32)) = .int (0 : Int32) from by decide)⟩, xLf hP ht⟩, hS.F ht⟩) hS.2.2 dX8_doesShun_133
            · have hF := itP c125 hF
              refine lv_iconst (v := 1) hx hb dX8_doesShun_128 (by decide) ?_
              refine lv_goto (tgt := 133) hx hb dX8_doesShun_129 (by decide) ?_
              obtain rfl := Option.some.inj hF
              rw [← hQ]
              exact W.zret (v := (1 : Int32)) hx hb hr (show narrow .boolean (.int (1 : Int32)) = .int (1 : Int32) from by decide) (fun t ht hW => ⟨⟨_, (), rfl, ⟨rfl, (show narrow .boolean (.int (1 : Int32)) = .int (1 : Int32) from by decide)⟩, xLf hP ht⟩, hS.F ht⟩) hS.2.2 dX8_doesShun_133
          · have hF := itN c59_2 hF
            by_cases c59_3 : u3 = (4 : Int32)
            · have hF := itP c59_3 hF
              refine lv_tableIn (off := 75) (tgt := 134) hx hb dX8_doesShun_59 (by rw [c59_3]; decide) (by rw [c59_3]; decide) (by rw [c59_3]; rfl) (by decide) ?_
              refine lv_iload hx hb dX8_doesShun_134 (lv_at hl 2 rfl) ?_
              refine lv_if_gt (tgt := 148) hx hb dX8_doesShun_136 (by decide) (fun c136 => ?_) (fun c136 => ?_)
              · have hF := itP c136 hF
                refine lv_iconst (v := 1) hx hb dX8_doesShun_148 (by decide) ?_
                refine lv_goto (tgt := 153) hx hb dX8_doesShun_149 (by decide) ?_
                obtain rfl := Option.some.inj hF
                rw [← hQ]
                exact W.zret (v := (1 : Int32)) hx hb hr (show narrow .boolean (.int (1 : Int32)) = .int (1 : Int32) from by decide) (fun t ht hW => ⟨⟨_, (), rfl, ⟨rfl, (show narrow .boolean (.int (1 : Int32)) = .int (1 : Int32) from by decide)⟩, xLf hP ht⟩, hS.F ht⟩) hS.2.2 dX8_doesShun_153
              · have hF := itN c136 hF
                refine lv_iload_n hx hb dX8_doesShun_139 rfl (lv_at hl 6 rfl) ?_
                refine lv_iconst (v := 2) hx hb dX8_doesShun_140 (by decide) ?_
                refine lv_irem hx hb dX8_doesShun_141 (by decide) ?_
                refine lv_iload_n hx hb dX8_doesShun_142 rfl (lv_at hl 3 rfl) ?_
                refine lv_iconst (v := 2) hx hb dX8_doesShun_143 (by decide) ?_
                refine lv_irem hx hb dX8_doesShun_144 (by decide) ?_
                refine lv_icmp_ne (tgt := 152) hx hb dX8_doesShun_145 (by decide) (fun c145 => ?_) (fun c145 => ?_)
                · have hF := itN c145 hF
                  refine lv_iconst (v := 0) hx hb dX8_doesShun_152 (by decide) ?_
                  obtain rfl := Option.some.inj hF
                  rw [← hQ]
                  exact W.zret (v := (0 : Int32)) hx hb hr (show narrow .boolean (.int (0 : Int32)) = .int (0 : Int32) from by decide) (fun t ht hW => ⟨⟨_, (), rfl, ⟨rfl, (show narrow .boolean (.int (0 : Int32)) = .int (0 : Int32) from by decide)⟩, xLf hP ht⟩, hS.F ht⟩) hS.2.2 dX8_doesShun_153
                · have hF := itP c145 hF
                  refine lv_iconst (v := 1) hx hb dX8_doesShun_148 (by decide) ?_
                  refine lv_goto (tgt := 153) hx hb dX8_doesShun_149 (by decide) ?_
                  obtain rfl := Option.some.inj hF
                  rw [← hQ]
                  exact W.zret (v := (1 : Int32)) hx hb hr (show narrow .boolean (.int (1 : Int32)) = .int (1 : Int32) from by decide) (fun t ht hW => ⟨⟨_, (), rfl, ⟨rfl, (show narrow .boolean (.int (1 : Int32)) = .int (1 : Int32) from by decide)⟩, xLf hP ht⟩, hS.F ht⟩) hS.2.2 dX8_doesShun_153
            · have hF := itN c59_3 hF
              by_cases c59_4 : u3 = (5 : Int32)
              · have hF := itP c59_4 hF
                refine lv_tableIn (off := 95) (tgt := 154) hx hb dX8_doesShun_59 (by rw [c59_4]; decide) (by rw [c59_4]; decide) (by rw [c59_4]; rfl) (by decide) ?_
                refine lv_iload hx hb dX8_doesShun_154 (lv_at hl 0 rfl) ?_
                refine lv_if_eq (tgt := 172) hx hb dX8_doesShun_156 (by decide) (fun c156 => absurd c156 (by decide)) (fun c156 => ?_)
                refine lv_iload hx hb dX8_doesShun_159 (lv_at hl 2 rfl) ?_
                refine lv_aload_n hx hb dX8_doesShun_161 rfl (lv_at hl 4 rfl) ?_
                refine va_get (ci := 8) (v := .int u2.2.1) (C := RX8) (T := TX8) (N := 24) hx hb hts (fun w h => tcons w (xin8 w h)) hown hK hP 0 rfl rfl 10 (by decide) (hts _ (tcons _ m303)) (fun _ h9 => h9) rfl dX8_doesShun_162 ?_
                refine lv_icmp_ne (tgt := 172) hx hb dX8_doesShun_165 (by decide) (fun c165 => ?_) (fun c165 => ?_)
                · have hF := itN c165 hF
                  refine lv_iconst (v := 0) hx hb dX8_doesShun_172 (by decide) ?_
                  obtain rfl := Option.some.inj hF
                  rw [← hQ]
                  exact W.zret (v := (0 : Int32)) hx hb hr (show narrow .boolean (.int (0 : Int32)) = .int (0 : Int32) from by decide) (fun t ht hW => ⟨⟨_, (), rfl, ⟨rfl, (show narrow .boolean (.int (0 : Int32)) = .int (0 : Int32) from by decide)⟩, xLf hP ht⟩, hS.F ht⟩) hS.2.2 dX8_doesShun_173
                · have hF := itP c165 hF
                  refine lv_iconst (v := 1) hx hb dX8_doesShun_168 (by decide) ?_
                  refine lv_goto (tgt := 173) hx hb dX8_doesShun_169 (by decide) ?_
                  obtain rfl := Option.some.inj hF
                  rw [← hQ]
                  exact W.zret (v := (1 : Int32)) hx hb hr (show narrow .boolean (.int (1 : Int32)) = .int (1 : Int32) from by decide) (fun t ht hW => ⟨⟨_, (), rfl, ⟨rfl, (show narrow .boolean (.int (1 : Int32)) = .int (1 : Int32) from by decide)⟩, xLf hP ht⟩, hS.F ht⟩) hS.2.2 dX8_doesShun_173
              · have hF := itN c59_4 hF
                by_cases c59_5 : u3 = (6 : Int32)
                · have hF := itP c59_5 hF
                  refine lv_tableIn (off := 115) (tgt := 174) hx hb dX8_doesShun_59 (by rw [c59_5]; decide) (by rw [c59_5]; decide) (by rw [c59_5]; rfl) (by decide) ?_
                  refine lv_iload_n hx hb dX8_doesShun_174 rfl (lv_at hl 6 rfl) ?_
                  refine lv_iload_n hx hb dX8_doesShun_175 rfl (lv_at hl 3 rfl) ?_
                  refine lv_icmp_ne (tgt := 183) hx hb dX8_doesShun_176 (by decide) (fun c176 => ?_) (fun c176 => ?_)
                  · have hF := itN c176 hF
                    refine lv_iconst (v := 0) hx hb dX8_doesShun_183 (by decide) ?_
                    obtain rfl := Option.some.inj hF
                    rw [← hQ]
                    exact W.zret (v := (0 : Int32)) hx hb hr (show narrow .boolean (.int (0 : Int32)) = .int (0 : Int32) from by decide) (fun t ht hW => ⟨⟨_, (), rfl, ⟨rfl, (show narrow .boolean (.int (0 : Int32)) = .int (0 : Int32) from by decide)⟩, xLf hP ht⟩, hS.F ht⟩) hS.2.2 dX8_doesShun_184
                  · have hF := itP c176 hF
                    refine lv_iconst (v := 1) hx hb dX8_doesShun_179 (by decide) ?_
                    refine lv_goto (tgt := 184) hx hb dX8_doesShun_180 (by decide) ?_
                    obtain rfl := Option.some.inj hF
                    rw [← hQ]
                    exact W.zret (v := (1 : Int32)) hx hb hr (show narrow .boolean (.int (1 : Int32)) = .int (1 : Int32) from by decide) (fun t ht hW => ⟨⟨_, (), rfl, ⟨rfl, (show narrow .boolean (.int (1 : Int32)) = .int (1 : Int32) from by decide)⟩, xLf hP ht⟩, hS.F ht⟩) hS.2.2 dX8_doesShun_184
                · have hF := itN c59_5 hF
                  refine lv_tableOut (tgt := 185) hx hb dX8_doesShun_59 (by have h0 : u3.toInt ≠ 1 := xNe c59_0; have h1 : u3.toInt ≠ 2 := xNe c59_1; have h2 : u3.toInt ≠ 3 := xNe c59_2; have h3 : u3.toInt ≠ 4 := xNe c59_3; have h4 : u3.toInt ≠ 5 := xNe c59_4; have h5 : u3.toInt ≠ 6 := xNe c59_5; omega) (by decide) ?_
                  refine lv_iload hx hb dX8_doesShun_185 (lv_at hl 1 rfl) ?_
                  obtain rfl := Option.some.inj hF
                  rw [← hQ]
                  exact W.zret (v := (1 : Int32)) hx hb hr (show narrow .boolean (.int (1 : Int32)) = .int (1 : Int32) from by decide) (fun t ht hW => ⟨⟨_, (), rfl, ⟨rfl, (show narrow .boolean (.int (1 : Int32)) = .int (1 : Int32) from by decide)⟩, xLf hP ht⟩, hS.F ht⟩) hS.2.2 dX8_doesShun_187
