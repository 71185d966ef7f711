theorem st_text (G : xG) (tx : Nat) (wx : Nat → Nat) (tm : Nat) (wm : Nat → Nat) (a0 : Int32) : StpI G tx wx tm wm yX7_text (Cond.code yX7_text cX7_text 4 (some .int)) yX8_text (Cond.code yX8_text cX8_text 4 (some .int)) [.int a0] := by
  sorry
