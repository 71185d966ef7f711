theorem inv0 : ∃ (u0 : ((Nat → Int32) × (Nat → Int64) × Int32 × (Nat → Int32) × (Nat → Int32))) (u1 : ((Nat → Int32) × (Nat → Int64))), F_X7_init = some u0 ∧ F_X8_init = some u1 ∧ Inv 0 (0 : Int32) (0 : Int32) (728 : Int32) (0 : Int32) (0 : Int32) (1 : Int32) (0 : Int32) (fun _ => (0 : Int32)) (0 : Int32) (fun _ => (0 : Int32)) (0 : Int32) (fun _ => (0 : Int32)) (0 : Int32) (fun _ => (0 : Int32)) (0 : Int32) (fun _ => (0 : Int32)) (0 : Int32) (fun _ => (0 : Int32)) (0 : Int32) (fun _ => (0 : Int32)) (0 : Int32) (fun _ => (0 : Int32)) (728 : Int32) (0 : Int32) (0 : Int32) (1 : Int32) (0 : Int32) (fun _ => (0 : Int32)) (0 : Int32) (fun _ => (0 : Int32)) (0 : Int32) (fun _ => (0 : Int32)) (0 : Int32) (fun _ => (0 : Int32)) (0 : Int32) (fun _ => (0 : Int32)) (0 : Int32) (fun _ => (0 : Int32)) (0 : Int32) (fun _ => (0 : Int32)) (0 : Int32) (fun _ => (0 : Int32)) u0.2.2.1 u0.1 u0.2.1 u0.2.2.2.1 u0.2.2.2.2 5 (0 : Int32) (0 : Int32) (0 : Int32) (fun _ => (0 : Int32)) (0 : Int32) (fun _ => (0 : Int32)) (0 : Int32) (0 : Int32) (0 : Int32) (0 : Int32) (0 : Int32) (fun _ => (0 : Int32)) (fun _ => (0 : Int32)) (0 : Int32) (0 : Int32) (fun _ => (0 : Int32)) (0 : Int32) (0 : Int32) (fun _ => (0 : Int32)) (0 : Int32) (0 : Int32) (fun _ => (0 : Int32)) (0 : Int32) (0 : Int32) (fun _ => (0 : Int32)) (0 : Int32) (0 : Int32) (0 : Int32) (0 : Int32) (0 : Int32) (0 : Int32) (0 : Int32) (0 : Int32) (0 : Int32) (0 : Int32) u1.1 (fun _ => (0 : Int32)) (fun _ => (0 : Int32)) (fun _ => (0 : Int32)) (fun _ => (0 : Int32)) (fun _ => (0 : Int32)) u1.2 (fun _ => (0 : Int32)) (fun _ => (0 : Int32)) (fun _ => (0 : Int32)) (fun _ => (0 : Int32)) (fun _ => (0 : Int32)) (fun _ => (0 : Int32)) (fun _ => (0 : Int32)) := by
  sorry
theorem st_brother (G : xG) (tx : Nat) (wx : Nat → Nat) (tm : Nat) (wm : Nat → Nat) (a0 : Int32) : StpI G tx wx tm wm yX7_brother (Cond.code yX7_brother cX7_brother 2 (some .int)) yX8_brother (Cond.code yX8_brother cX8_brother 3 (some .int)) [.int a0] := by
  sorry
theorem st_brotherIs (G : xG) (tx : Nat) (wx : Nat → Nat) (tm : Nat) (wm : Nat → Nat) (a0 : Int32) (a1 : Int32) : StpI G tx wx tm wm yX7_brotherIs (Cond.code yX7_brotherIs cX7_brotherIs 3 (some .int)) yX8_brotherIs (Cond.code yX8_brotherIs cX8_brotherIs 3 (some .int)) [.int a0, .int a1] := by
  sorry
theorem st_become (G : xG) (tx : Nat) (wx : Nat → Nat) (tm : Nat) (wm : Nat → Nat) (a0 : Int32) (a1 : Int32) : StpI G tx wx tm wm yX7_become (Cond.code yX7_become cX7_become 4 (some .int)) yX8_become (Cond.code yX8_become cX8_become 3 (some .int)) [.int a0, .int a1] := by
  sorry
theorem st_as (G : xG) (tx : Nat) (wx : Nat → Nat) (tm : Nat) (wm : Nat → Nat) (a0 : Int32) (a1 : Int32) : StpI G tx wx tm wm yX7_as (Cond.code yX7_as cX7_as 3 (some .int)) yX8_as (Cond.code yX8_as cX8_as 5 (some .int)) [.int a0, .int a1] := by
  sorry
theorem st_avoids (G : xG) (tx : Nat) (wx : Nat → Nat) (tm : Nat) (wm : Nat → Nat) (a0 : Int32) (a1 : Int32) : StpI G tx wx tm wm yX7_avoids (Cond.code yX7_avoids cX7_avoids 3 (some .int)) yX8_avoids (Cond.code yX8_avoids cX8_avoids 3 (some .int)) [.int a0, .int a1] := by
  sorry
theorem st_talk (G : xG) (tx : Nat) (wx : Nat → Nat) (tm : Nat) (wm : Nat → Nat) (a0 : Int32) (a1 : Int32) : StpI G tx wx tm wm yX7_talk (Cond.code yX7_talk cX7_talk 3 (some .int)) yX8_talk (Cond.code yX8_talk cX8_talk 3 (some .int)) [.int a0, .int a1] := by
  sorry
theorem st_vow (G : xG) (tx : Nat) (wx : Nat → Nat) (tm : Nat) (wm : Nat → Nat) (a0 : Int32) : StpI G tx wx tm wm yX7_vow (Cond.code yX7_vow cX7_vow 3 (some .int)) yX8_vow (Cond.code yX8_vow cX8_vow 2 (some .int)) [.int a0] := by
  sorry
theorem st_sign (G : xG) (tx : Nat) (wx : Nat → Nat) (tm : Nat) (wm : Nat → Nat) (a0 : Int32) (a1 : Int32) : StpI G tx wx tm wm yX7_sign (Cond.code yX7_sign cX7_sign 3 (some .int)) yX8_sign (Cond.code yX8_sign cX8_sign 3 (some .int)) [.int a0, .int a1] := by
  sorry
theorem st_forget (G : xG) (tx : Nat) (wx : Nat → Nat) (tm : Nat) (wm : Nat → Nat) (a0 : Int32) : StpI G tx wx tm wm yX7_forget (Cond.code yX7_forget cX7_forget 2 (some .int)) yX8_forget (Cond.code yX8_forget cX8_forget 2 (some .int)) [.int a0] := by
  sorry
theorem st_say (G : xG) (tx : Nat) (wx : Nat → Nat) (tm : Nat) (wm : Nat → Nat) (a0 : Int32) (a1 : Int32) : StpI G tx wx tm wm yX7_say (Cond.code yX7_say cX7_say 3 (some .int)) yX8_say (Cond.code yX8_say cX8_say 3 (some .int)) [.int a0, .int a1] := by
  sorry
theorem st_feed (G : xG) (tx : Nat) (wx : Nat → Nat) (tm : Nat) (wm : Nat → Nat) (a0 : Int64) (a1 : Int32) : StpI G tx wx tm wm yX7_feed (Cond.code yX7_feed cX7_feed 5 (some .int)) yX8_feed (Cond.code yX8_feed cX8_feed 5 (some .int)) [.long a0, .int a1] := by
  sorry
theorem st_text (G : xG) (tx : Nat) (wx : Nat → Nat) (tm : Nat) (wm : Nat → Nat) (a0 : Int32) : StpI G tx wx tm wm yX7_text (Cond.code yX7_text cX7_text 4 (some .int)) yX8_text (Cond.code yX8_text cX8_text 4 (some .int)) [.int a0] := by
  sorry
theorem st_untell (G : xG) (tx : Nat) (wx : Nat → Nat) (tm : Nat) (wm : Nat → Nat) (a0 : Int32) : StpI G tx wx tm wm yX7_untell (Cond.code yX7_untell cX7_untell 4 (some .int)) yX8_untell (Cond.code yX8_untell cX8_untell 2 (some .int)) [.int a0] := by
  sorry
theorem st_law (G : xG) (tx : Nat) (wx : Nat → Nat) (tm : Nat) (wm : Nat → Nat) (a0 : Int32) (a1 : Int32) (a2 : Int32) (a3 : Int32) : StpI G tx wx tm wm yX7_law (Cond.code yX7_law cX7_law 5 (some .int)) yX8_law (Cond.code yX8_law cX8_law 5 (some .int)) [.int a0, .int a1, .int a2, .int a3] := by
  sorry
theorem st_loose (G : xG) (tx : Nat) (wx : Nat → Nat) (tm : Nat) (wm : Nat → Nat) (a0 : Int32) : StpI G tx wx tm wm yX7_loose (Cond.code yX7_loose cX7_loose 4 (some .int)) yX8_loose (Cond.code yX8_loose cX8_loose 4 (some .int)) [.int a0] := by
  sorry
theorem st_day (G : xG) (tx : Nat) (wx : Nat → Nat) (tm : Nat) (wm : Nat → Nat) (a0 : Int32) : StpI G tx wx tm wm yX7_day (Cond.code yX7_day cX7_day 3 (some .int)) yX8_day (Cond.code yX8_day cX8_day 2 (some .int)) [.int a0] := by
  sorry
theorem st_seed (G : xG) (tx : Nat) (wx : Nat → Nat) (tm : Nat) (wm : Nat → Nat) (a0 : Int32) : StpI G tx wx tm wm yX7_seed (Cond.code yX7_seed cX7_seed 3 (some .int)) yX8_seed (Cond.code yX8_seed cX8_seed 2 (some .int)) [.int a0] := by
  sorry
theorem st_vows (G : xG) (tx : Nat) (wx : Nat → Nat) (tm : Nat) (wm : Nat → Nat) (a0 : Int32) : StpI G tx wx tm wm yX7_vows (Cond.code yX7_vows cX7_vows 3 (some .int)) yX8_vows (Cond.code yX8_vows cX8_vows 6 (some .int)) [.int a0] := by
  sorry
theorem st_parts (G : xG) (tx : Nat) (wx : Nat → Nat) (tm : Nat) (wm : Nat → Nat) (a0 : Int32) : StpI G tx wx tm wm yX7_parts (Cond.code yX7_parts cX7_parts 4 (some .int)) yX8_parts (Cond.code yX8_parts cX8_parts 4 (some .int)) [.int a0] := by
  sorry
theorem st_sure (G : xG) (tx : Nat) (wx : Nat → Nat) (tm : Nat) (wm : Nat → Nat) (a0 : Int32) : StpI G tx wx tm wm yX7_sure (Cond.code yX7_sure cX7_sure 3 (some .int)) yX8_sure (Cond.code yX8_sure cX8_sure 3 (some .int)) [.int a0] := by
  sorry
theorem st_unsaid (G : xG) (tx : Nat) (wx : Nat → Nat) (tm : Nat) (wm : Nat → Nat) (a0 : Int32) : StpL G tx wx tm wm yX7_unsaid (Cond.code yX7_unsaid cX7_unsaid 5 (some .long)) yX8_unsaid (Cond.code yX8_unsaid cX8_unsaid 7 (some .long)) [.int a0] := by
  sorry
theorem st_freest (G : xG) (tx : Nat) (wx : Nat → Nat) (tm : Nat) (wm : Nat → Nat) (a0 : Int32) : StpI G tx wx tm wm yX7_freest (Cond.code yX7_freest cX7_freest 6 (some .int)) yX8_freest (Cond.code yX8_freest cX8_freest 6 (some .int)) [.int a0] := by
  sorry
theorem st_odds (G : xG) (tx : Nat) (wx : Nat → Nat) (tm : Nat) (wm : Nat → Nat) (a0 : Int32) (a1 : Int32) : StpI G tx wx tm wm yX7_odds (Cond.code yX7_odds cX7_odds 6 (some .int)) yX8_odds (Cond.code yX8_odds cX8_odds 8 (some .int)) [.int a0, .int a1] := by
  sorry
theorem st_fits (G : xG) (tx : Nat) (wx : Nat → Nat) (tm : Nat) (wm : Nat → Nat) (a0 : Int32) (a1 : Int32) : StpI G tx wx tm wm yX7_fits (Cond.code yX7_fits cX7_fits 5 (some .int)) yX8_fits (Cond.code yX8_fits cX8_fits 7 (some .int)) [.int a0, .int a1] := by
  sorry
theorem st_voice (G : xG) (tx : Nat) (wx : Nat → Nat) (tm : Nat) (wm : Nat → Nat) (a0 : Int32) (a1 : Int32) (a2 : Int32) : StpI G tx wx tm wm yX7_voice (Cond.code yX7_voice cX7_voice 5 (some .int)) yX8_voice (Cond.code yX8_voice cX8_voice 5 (some .int)) [.int a0, .int a1, .int a2] := by
  sorry
theorem st_body (G : xG) (tx : Nat) (wx : Nat → Nat) (tm : Nat) (wm : Nat → Nat) (a0 : Int32) : StpI G tx wx tm wm yX7_body (Cond.code yX7_body cX7_body 2 (some .int)) yX8_body (Cond.code yX8_body cX8_body 2 (some .int)) [.int a0] := by
  sorry
theorem st_sheet (G : xG) (tx : Nat) (wx : Nat → Nat) (tm : Nat) (wm : Nat → Nat) (a0 : Int32) (a1 : Int32) (a2 : Int32) : StpI G tx wx tm wm yX7_sheet (Cond.code yX7_sheet cX7_sheet 5 (some .int)) yX8_sheet (Cond.code yX8_sheet cX8_sheet 5 (some .int)) [.int a0, .int a1, .int a2] := by
  sorry
theorem st_put (G : xG) (tx : Nat) (wx : Nat → Nat) (tm : Nat) (wm : Nat → Nat) (a0 : Int32) (a1 : Int32) (a2 : Int32) : StpI G tx wx tm wm yX7_put (Cond.code yX7_put cX7_put 5 (some .int)) yX8_put (Cond.code yX8_put cX8_put 5 (some .int)) [.int a0, .int a1, .int a2] := by
  sorry
theorem st_move (G : xG) (tx : Nat) (wx : Nat → Nat) (tm : Nat) (wm : Nat → Nat) (a0 : Int32) (a1 : Int32) (a2 : Int32) (a3 : Int32) (a4 : Int32) : StpI G tx wx tm wm yX7_move (Cond.code yX7_move cX7_move 8 (some .int)) yX8_move (Cond.code yX8_move cX8_move 9 (some .int)) [.int a0, .int a1, .int a2, .int a3, .int a4] := by
  sorry
theorem st_signs (G : xG) (tx : Nat) (wx : Nat → Nat) (tm : Nat) (wm : Nat → Nat) (a0 : Int32) : StpI G tx wx tm wm yX7_signs (Cond.code yX7_signs cX7_signs 5 (some .int)) yX8_signs (Cond.code yX8_signs cX8_signs 5 (some .int)) [.int a0] := by
  sorry
theorem st_judge (G : xG) (tx : Nat) (wx : Nat → Nat) (tm : Nat) (wm : Nat → Nat) (a0 : Int32) : StpI G tx wx tm wm yX7_judge (Cond.code yX7_judge cX7_judge 4 (some .int)) yX8_judge (Cond.code yX8_judge cX8_judge 4 (some .int)) [.int a0] := by
  sorry
theorem st_image (G : xG) (tx : Nat) (wx : Nat → Nat) (tm : Nat) (wm : Nat → Nat)  : StpI G tx wx tm wm yX7_image (Cond.code yX7_image cX7_image 1 (some .int)) yX8_image (Cond.code yX8_image cX8_image 1 (some .int)) [] := by
  sorry
theorem st_restore (G : xG) (tx : Nat) (wx : Nat → Nat) (tm : Nat) (wm : Nat → Nat)  : StpI G tx wx tm wm yX7_restore (Cond.code yX7_restore cX7_restore 1 (some .int)) yX8_restore (Cond.code yX8_restore cX8_restore 1 (some .int)) [] := by
  sorry
theorem st_tell (G : xG) (tx : Nat) (wx : Nat → Nat) (tm : Nat) (wm : Nat → Nat) (a0 : Int32) : StpI G tx wx tm wm yX7_tell (Cond.code yX7_tell cX7_tell 2 (some .int)) yX8_tell (Cond.code yX8_tell cX8_tell 2 (some .int)) [.int a0] := by
  sorry
theorem st_check (G : xG) (tx : Nat) (wx : Nat → Nat) (tm : Nat) (wm : Nat → Nat)  : StpI G tx wx tm wm yX7_check (Cond.code yX7_check cX7_check 3 (some .int)) yX8_check (Cond.code yX8_check cX8_check 3 (some .int)) [] := by
  sorry
theorem st_count (G : xG) (tx : Nat) (wx : Nat → Nat) (tm : Nat) (wm : Nat → Nat) (a0 : Int32) : StpI G tx wx tm wm yX7_count (Cond.code yX7_count cX7_count 2 (some .int)) yX8_count (Cond.code yX8_count cX8_count 2 (some .int)) [.int a0] := by
  sorry
theorem st_told (G : xG) (tx : Nat) (wx : Nat → Nat) (tm : Nat) (wm : Nat → Nat) (a0 : Int32) : StpI G tx wx tm wm yX7_told (Cond.code yX7_told cX7_told 2 (some .int)) yX8_told (Cond.code yX8_told cX8_told 2 (some .int)) [.int a0] := by
  sorry
