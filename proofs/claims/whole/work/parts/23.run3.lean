theorem w_turn12 (G : aw_G) {n c : Nat} {I : Nat → Nat → Int32} {L : Nat → Nat → Int64} {x : Nat → Nat → Nat} (hX : zCh x 12 I) {p g : Nat} (hp : p < 8) (hg : g < 8) : aw_Met G mX2_turn [.ref 12, .int (nI p), .int (nI g)] (zH n I L c) (fun v h2 => v = some (.int (nI (x 2 (p * 8 + g)) - 1)) ∧ h2 = zH n I L c) := by
  refine aw_Met.of okX2_turn (Nat.le_of_ble_eq_true rfl) ?_
  show aw_W G mX2_turn 0 [.ref 12, .int (nI p), .int (nI g)] [] (zH n I L c) (0, 0) _
  refine aw_aload_n dX2_turn_0 rfl ?_
  refine aw_getR dX2_turn_1 f2_18 rfl ⟨Nat.le_of_ble_eq_true rfl, Nat.le_of_ble_eq_true rfl⟩ rfl rfl ?_
  refine aw_iload_n dX2_turn_4 rfl ?_
  refine aw_bipush (v := 8) dX2_turn_5 (by decide) ?_
  refine aw_imul dX2_turn_7 ?_
  refine aw_iload_n dX2_turn_8 rfl ?_
  refine aw_iadd dX2_turn_9 ?_
  refine aw_top (zi_mul8 _ _) ?_
  refine aw_iald_n dX2_turn_10 rfl (Nat.le_of_ble_eq_true rfl) (by decide) (by omega) ?_
  refine aw_reti dX2_turn_11 rfl rfl ⟨Nat.le_of_ble_eq_true rfl, Nat.le_of_ble_eq_true rfl⟩ ?_
  exact ⟨by rw [← (hX (p * 8 + g) (by omega)).2.2], rfl⟩
theorem w_step12 (G : aw_G) {n c : Nat} {I : Nat → Nat → Int32} {L : Nat → Nat → Int64} {x : Nat → Nat → Nat} (hX : zCh x 12 I) {p g : Nat} (hp : p < 8) (hg : g < 8) : aw_Met G mX2_step [.ref 12, .int (nI p), .int (nI g)] (zH n I L c) (fun v h2 => v = some (.int (nI (x 0 (p * 8 + g)))) ∧ h2 = zH n I L c) := by
  refine aw_Met.of okX2_step (Nat.le_of_ble_eq_true rfl) ?_
  show aw_W G mX2_step 0 [.ref 12, .int (nI p), .int (nI g)] [] (zH n I L c) (0, 0) _
  refine aw_aload_n dX2_step_0 rfl ?_
  refine aw_getR dX2_step_1 f2_9 rfl ⟨Nat.le_of_ble_eq_true rfl, Nat.le_of_ble_eq_true rfl⟩ rfl rfl ?_
  refine aw_iload_n dX2_step_4 rfl ?_
  refine aw_bipush (v := 8) dX2_step_5 (by decide) ?_
  refine aw_imul dX2_step_7 ?_
  refine aw_iload_n dX2_step_8 rfl ?_
  refine aw_iadd dX2_step_9 ?_
  refine aw_top (zi_mul8 _ _) ?_
  refine aw_iald_n dX2_step_10 rfl (Nat.le_of_ble_eq_true rfl) (by decide) (by omega) ?_
  refine aw_reti dX2_step_11 rfl rfl ⟨Nat.le_of_ble_eq_true rfl, Nat.le_of_ble_eq_true rfl⟩ ?_
  exact ⟨by rw [← (hX (p * 8 + g) (by omega)).1], rfl⟩
theorem w_turn60 (G : aw_G) {n c : Nat} {I : Nat → Nat → Int32} {L : Nat → Nat → Int64} {x : Nat → Nat → Nat} (hX : zCh x 60 I) {p g : Nat} (hp : p < 8) (hg : g < 8) : aw_Met G mX2_turn [.ref 60, .int (nI p), .int (nI g)] (zH n I L c) (fun v h2 => v = some (.int (nI (x 2 (p * 8 + g)) - 1)) ∧ h2 = zH n I L c) := by
  refine aw_Met.of okX2_turn (Nat.le_of_ble_eq_true rfl) ?_
  show aw_W G mX2_turn 0 [.ref 60, .int (nI p), .int (nI g)] [] (zH n I L c) (0, 0) _
  refine aw_aload_n dX2_turn_0 rfl ?_
  refine aw_getR dX2_turn_1 f2_18 rfl ⟨Nat.le_of_ble_eq_true rfl, Nat.le_of_ble_eq_true rfl⟩ rfl rfl ?_
  refine aw_iload_n dX2_turn_4 rfl ?_
  refine aw_bipush (v := 8) dX2_turn_5 (by decide) ?_
  refine aw_imul dX2_turn_7 ?_
  refine aw_iload_n dX2_turn_8 rfl ?_
  refine aw_iadd dX2_turn_9 ?_
  refine aw_top (zi_mul8 _ _) ?_
  refine aw_iald_n dX2_turn_10 rfl (Nat.le_of_ble_eq_true rfl) (by decide) (by omega) ?_
  refine aw_reti dX2_turn_11 rfl rfl ⟨Nat.le_of_ble_eq_true rfl, Nat.le_of_ble_eq_true rfl⟩ ?_
  exact ⟨by rw [← (hX (p * 8 + g) (by omega)).2.2], rfl⟩
theorem w_step60 (G : aw_G) {n c : Nat} {I : Nat → Nat → Int32} {L : Nat → Nat → Int64} {x : Nat → Nat → Nat} (hX : zCh x 60 I) {p g : Nat} (hp : p < 8) (hg : g < 8) : aw_Met G mX2_step [.ref 60, .int (nI p), .int (nI g)] (zH n I L c) (fun v h2 => v = some (.int (nI (x 0 (p * 8 + g)))) ∧ h2 = zH n I L c) := by
  refine aw_Met.of okX2_step (Nat.le_of_ble_eq_true rfl) ?_
  show aw_W G mX2_step 0 [.ref 60, .int (nI p), .int (nI g)] [] (zH n I L c) (0, 0) _
  refine aw_aload_n dX2_step_0 rfl ?_
  refine aw_getR dX2_step_1 f2_9 rfl ⟨Nat.le_of_ble_eq_true rfl, Nat.le_of_ble_eq_true rfl⟩ rfl rfl ?_
  refine aw_iload_n dX2_step_4 rfl ?_
  refine aw_bipush (v := 8) dX2_step_5 (by decide) ?_
  refine aw_imul dX2_step_7 ?_
  refine aw_iload_n dX2_step_8 rfl ?_
  refine aw_iadd dX2_step_9 ?_
  refine aw_top (zi_mul8 _ _) ?_
  refine aw_iald_n dX2_step_10 rfl (Nat.le_of_ble_eq_true rfl) (by decide) (by omega) ?_
  refine aw_reti dX2_step_11 rfl rfl ⟨Nat.le_of_ble_eq_true rfl, Nat.le_of_ble_eq_true rfl⟩ ?_
  exact ⟨by rw [← (hX (p * 8 + g) (by omega)).1], rfl⟩
theorem w_tells11 (G : aw_G) {n c : Nat} {I : Nat → Nat → Int32} {L : Nat → Nat → Int64} {t u : Nat → Nat → Nat} (hT : zSet t 11 16 I) (hU : zAn u I) {h p : Nat} (hh : h < 100000) (hp : p < 8) (hw : t 6 1 < 100000) (hn8 : u 2 0 ≤ 8) (hu : ∀ a, a < 8 → u 0 a < 100000 ∧ u 1 a < 100000) : aw_Met G mX7_tells [.ref 11, .int (nI h), .int (nI p)] (zH n I L c) (fun v h2 => v = some (.int (if p_tells t u h p = true then 1 else 0)) ∧ h2 = zH n I L c) := by
  refine aw_Met.of okX7_tells (Nat.le_of_ble_eq_true rfl) ?_
  show aw_W G mX7_tells 0 [.ref 11, .int (nI h), .int (nI p), aw_x, aw_x] [] (zH n I L c) (0, 0) _
  refine aw_iconst (v := 0) dX7_tells_0 rfl ?_
  refine aw_istore_n (ls2 := [_, _, _, _, _]) dX7_tells_1 (by decide) rfl rfl ?_
  refine aw_up (X := fun i => (∀ a, a < i → p_hit t u h p a = false) → aw_W G mX7_tells 2 [.ref 11, .int (nI h), .int (nI p), .int (nI i), aw_x] [] (zH n I L c) (0, 0) _) (Nat.zero_le (u 2 0)) (fun hno => ?_) (fun i _ hi ih hno => ?_) (fun a ha => absurd ha (Nat.not_lt_zero a))
  · refine aw_iload_n dX7_tells_2 rfl ?_
    refine aw_aload_n dX7_tells_3 rfl ?_
    refine aw_getR dX7_tells_4 f7_37 rfl ⟨Nat.le_of_ble_eq_true rfl, Nat.le_of_ble_eq_true rfl⟩ rfl rfl ?_
    refine aw_getI dX7_tells_7 f7_53 rfl ⟨Nat.le_of_ble_eq_true rfl, Nat.le_of_ble_eq_true rfl⟩ rfl ?_
    refine aw_ic_ge (tgt := 70) dX7_tells_10 (by decide) (fun _ => ?_) (fun z => absurd (by rw [hU.1]; exact nI_le (Nat.le_refl _) (by omega)) z)
    refine aw_iconst (v := 0) dX7_tells_70 rfl ?_
    refine aw_reti dX7_tells_71 rfl rfl ⟨Nat.le_of_ble_eq_true rfl, Nat.le_of_ble_eq_true rfl⟩ ?_
    refine ⟨?_, rfl⟩
    rw [show p_tells t u h p = false from ?_]; rfl
    rw [p_tells, List.any_eq_false]
    intro a ha
    rw [hno a (List.mem_range.mp ha)]; decide
  · refine aw_iload_n dX7_tells_2 rfl ?_
    refine aw_aload_n dX7_tells_3 rfl ?_
    refine aw_getR dX7_tells_4 f7_37 rfl ⟨Nat.le_of_ble_eq_true rfl, Nat.le_of_ble_eq_true rfl⟩ rfl rfl ?_
    refine aw_getI dX7_tells_7 f7_53 rfl ⟨Nat.le_of_ble_eq_true rfl, Nat.le_of_ble_eq_true rfl⟩ rfl ?_
    refine aw_ic_ge (tgt := 70) dX7_tells_10 (by decide) (fun z => absurd z (by rw [hU.1]; exact nI_ge hi (by omega))) (fun _ => ?_)
    refine aw_aload_n dX7_tells_13 rfl ?_
    refine aw_getI dX7_tells_14 f7_34 rfl ⟨Nat.le_of_ble_eq_true rfl, Nat.le_of_ble_eq_true rfl⟩ rfl ?_
    refine aw_iload_n dX7_tells_17 rfl ?_
    refine aw_ishr dX7_tells_18 ?_
    refine aw_iconst (v := 1) dX7_tells_19 rfl ?_
    refine aw_iand dX7_tells_20 ?_
    refine aw_top (y := nI (t 6 1 / 2 ^ i % 2)) (by rw [hT.2.2]; exact zi_bit (by omega) (by omega)) ?_
    refine aw_if_ne (tgt := 28) dX7_tells_21 (by decide) (fun c21 => ?_) (fun c21 => ?_)
    · have hb : (t 6 1).testBit i = true := by
        cases hc : (t 6 1).testBit i with
        | true => rfl
        | false => exact absurd (show nI (t 6 1 / 2 ^ i % 2) = 0 by rw [(zi_tb _ _).mpr hc]; rfl) c21
      refine aw_iconst (v := 0) dX7_tells_28 rfl ?_
      refine aw_istore (ls2 := [_, _, _, _, _]) dX7_tells_29 (by decide) rfl rfl ?_
      refine aw_iload dX7_tells_31 rfl ?_
      refine aw_if_eq (tgt := 64) dX7_tells_33 (by decide) (fun _ => ?_) (fun z => absurd rfl z)
      refine aw_iinc_n (ls2 := [_, _, _, _, _]) dX7_tells_64 rfl (by decide) rfl rfl ?_
      refine aw_goto (tgt := 2) dX7_tells_67 (by decide) ?_
      exact aw_kill (j := 4) (ls2 := [_, _, _, _, aw_x]) rfl (ih (fun b hb2 => by
        rcases Nat.lt_succ_iff_lt_or_eq.mp hb2 with hb2 | rfl
        · exact hno b hb2
        · simp only [p_hit]; simp [hb]))
    · have hb : (t 6 1).testBit i = false := (zi_tb _ _).mp ((zi_eq (b := 0) (by omega) (by decide)).mp c21)
      refine aw_iconst (v := 1) dX7_tells_24 rfl ?_
      refine aw_goto (tgt := 29) dX7_tells_25 (by decide) ?_
      refine aw_istore (ls2 := [_, _, _, _, _]) dX7_tells_29 (by decide) rfl rfl ?_
      refine aw_iload dX7_tells_31 rfl ?_
      refine aw_if_eq (tgt := 64) dX7_tells_33 (by decide) (fun z => absurd z (by decide)) (fun _ => ?_)
      refine aw_aload_n dX7_tells_36 rfl ?_
      refine aw_getR dX7_tells_37 f7_37 rfl ⟨Nat.le_of_ble_eq_true rfl, Nat.le_of_ble_eq_true rfl⟩ rfl rfl ?_
      refine aw_getR dX7_tells_40 f7_56 rfl ⟨Nat.le_of_ble_eq_true rfl, Nat.le_of_ble_eq_true rfl⟩ rfl rfl ?_
      refine aw_iload_n dX7_tells_43 rfl ?_
      refine aw_iald_n dX7_tells_44 rfl (Nat.le_of_ble_eq_true rfl) (by decide) (by omega) ?_
      refine aw_top (hU.2 i (by omega)).1 ?_
      refine aw_iload_n dX7_tells_45 rfl ?_
      refine aw_ic_ne (tgt := 64) dX7_tells_46 (by decide) (fun c46 => ?_) (fun c46 => ?_)
      · refine aw_iinc_n (ls2 := [_, _, _, _, _]) dX7_tells_64 rfl (by decide) rfl rfl ?_
        refine aw_goto (tgt := 2) dX7_tells_67 (by decide) ?_
        exact aw_kill (j := 4) (ls2 := [_, _, _, _, aw_x]) rfl (ih (fun b hb2 => by
          rcases Nat.lt_succ_iff_lt_or_eq.mp hb2 with hb2 | rfl
          · exact hno b hb2
          · simp only [p_hit]; simp [show ¬ u 0 b = h from fun z => c46 (by rw [z])]))
      · refine aw_aload_n dX7_tells_49 rfl ?_
        refine aw_getR dX7_tells_50 f7_37 rfl ⟨Nat.le_of_ble_eq_true rfl, Nat.le_of_ble_eq_true rfl⟩ rfl rfl ?_
        refine aw_getR dX7_tells_53 f7_59 rfl ⟨Nat.le_of_ble_eq_true rfl, Nat.le_of_ble_eq_true rfl⟩ rfl rfl ?_
        refine aw_iload_n dX7_tells_56 rfl ?_
        refine aw_iald_n dX7_tells_57 rfl (Nat.le_of_ble_eq_true rfl) (by decide) (by omega) ?_
        refine aw_top (hU.2 i (by omega)).2 ?_
        refine aw_iload_n dX7_tells_58 rfl ?_
        refine aw_ic_ne (tgt := 64) dX7_tells_59 (by decide) (fun c59 => ?_) (fun c59 => ?_)
        · refine aw_iinc_n (ls2 := [_, _, _, _, _]) dX7_tells_64 rfl (by decide) rfl rfl ?_
          refine aw_goto (tgt := 2) dX7_tells_67 (by decide) ?_
          exact aw_kill (j := 4) (ls2 := [_, _, _, _, aw_x]) rfl (ih (fun b hb2 => by
            rcases Nat.lt_succ_iff_lt_or_eq.mp hb2 with hb2 | rfl
            · exact hno b hb2
            · simp only [p_hit]; simp [show ¬ u 1 b = p from fun z => c59 (by rw [z])]))
        · refine aw_iconst (v := 1) dX7_tells_62 rfl ?_
          refine aw_reti dX7_tells_63 rfl rfl ⟨Nat.le_of_ble_eq_true rfl, Nat.le_of_ble_eq_true rfl⟩ ?_
          refine ⟨?_, rfl⟩
          rw [show p_tells t u h p = true from ?_]; rfl
          rw [p_tells, List.any_eq_true]
          exact ⟨i, List.mem_range.mpr hi, by simp [p_hit, hb, (zi_eq (hu i (by omega)).1 hh).mp c46, (zi_eq (hu i (by omega)).2 (show p < 100000 by omega)).mp c59]⟩
theorem w_tells37 (G : aw_G) {n c : Nat} {I : Nat → Nat → Int32} {L : Nat → Nat → Int64} {t u : Nat → Nat → Nat} (hT : zSet t 37 38 I) (hU : zAn u I) {h p : Nat} (hh : h < 100000) (hp : p < 8) (hw : t 6 1 < 100000) (hn8 : u 2 0 ≤ 8) (hu : ∀ a, a < 8 → u 0 a < 100000 ∧ u 1 a < 100000) : aw_Met G mX7_tells [.ref 37, .int (nI h), .int (nI p)] (zH n I L c) (fun v h2 => v = some (.int (if p_tells t u h p = true then 1 else 0)) ∧ h2 = zH n I L c) := by
  refine aw_Met.of okX7_tells (Nat.le_of_ble_eq_true rfl) ?_
  show aw_W G mX7_tells 0 [.ref 37, .int (nI h), .int (nI p), aw_x, aw_x] [] (zH n I L c) (0, 0) _
  refine aw_iconst (v := 0) dX7_tells_0 rfl ?_
  refine aw_istore_n (ls2 := [_, _, _, _, _]) dX7_tells_1 (by decide) rfl rfl ?_
  refine aw_up (X := fun i => (∀ a, a < i → p_hit t u h p a = false) → aw_W G mX7_tells 2 [.ref 37, .int (nI h), .int (nI p), .int (nI i), aw_x] [] (zH n I L c) (0, 0) _) (Nat.zero_le (u 2 0)) (fun hno => ?_) (fun i _ hi ih hno => ?_) (fun a ha => absurd ha (Nat.not_lt_zero a))
  · refine aw_iload_n dX7_tells_2 rfl ?_
    refine aw_aload_n dX7_tells_3 rfl ?_
    refine aw_getR dX7_tells_4 f7_37 rfl ⟨Nat.le_of_ble_eq_true rfl, Nat.le_of_ble_eq_true rfl⟩ rfl rfl ?_
    refine aw_getI dX7_tells_7 f7_53 rfl ⟨Nat.le_of_ble_eq_true rfl, Nat.le_of_ble_eq_true rfl⟩ rfl ?_
    refine aw_ic_ge (tgt := 70) dX7_tells_10 (by decide) (fun _ => ?_) (fun z => absurd (by rw [hU.1]; exact nI_le (Nat.le_refl _) (by omega)) z)
    refine aw_iconst (v := 0) dX7_tells_70 rfl ?_
    refine aw_reti dX7_tells_71 rfl rfl ⟨Nat.le_of_ble_eq_true rfl, Nat.le_of_ble_eq_true rfl⟩ ?_
    refine ⟨?_, rfl⟩
    rw [show p_tells t u h p = false from ?_]; rfl
    rw [p_tells, List.any_eq_false]
    intro a ha
    rw [hno a (List.mem_range.mp ha)]; decide
  · refine aw_iload_n dX7_tells_2 rfl ?_
    refine aw_aload_n dX7_tells_3 rfl ?_
    refine aw_getR dX7_tells_4 f7_37 rfl ⟨Nat.le_of_ble_eq_true rfl, Nat.le_of_ble_eq_true rfl⟩ rfl rfl ?_
    refine aw_getI dX7_tells_7 f7_53 rfl ⟨Nat.le_of_ble_eq_true rfl, Nat.le_of_ble_eq_true rfl⟩ rfl ?_
    refine aw_ic_ge (tgt := 70) dX7_tells_10 (by decide) (fun z => absurd z (by rw [hU.1]; exact nI_ge hi (by omega))) (fun _ => ?_)
    refine aw_aload_n dX7_tells_13 rfl ?_
    refine aw_getI dX7_tells_14 f7_34 rfl ⟨Nat.le_of_ble_eq_true rfl, Nat.le_of_ble_eq_true rfl⟩ rfl ?_
    refine aw_iload_n dX7_tells_17 rfl ?_
    refine aw_ishr dX7_tells_18 ?_
    refine aw_iconst (v := 1) dX7_tells_19 rfl ?_
    refine aw_iand dX7_tells_20 ?_
    refine aw_top (y := nI (t 6 1 / 2 ^ i % 2)) (by rw [hT.2.2]; exact zi_bit (by omega) (by omega)) ?_
    refine aw_if_ne (tgt := 28) dX7_tells_21 (by decide) (fun c21 => ?_) (fun c21 => ?_)
    · have hb : (t 6 1).testBit i = true := by
        cases hc : (t 6 1).testBit i with
        | true => rfl
        | false => exact absurd (show nI (t 6 1 / 2 ^ i % 2) = 0 by rw [(zi_tb _ _).mpr hc]; rfl) c21
      refine aw_iconst (v := 0) dX7_tells_28 rfl ?_
      refine aw_istore (ls2 := [_, _, _, _, _]) dX7_tells_29 (by decide) rfl rfl ?_
      refine aw_iload dX7_tells_31 rfl ?_
      refine aw_if_eq (tgt := 64) dX7_tells_33 (by decide) (fun _ => ?_) (fun z => absurd rfl z)
      refine aw_iinc_n (ls2 := [_, _, _, _, _]) dX7_tells_64 rfl (by decide) rfl rfl ?_
      refine aw_goto (tgt := 2) dX7_tells_67 (by decide) ?_
      exact aw_kill (j := 4) (ls2 := [_, _, _, _, aw_x]) rfl (ih (fun b hb2 => by
        rcases Nat.lt_succ_iff_lt_or_eq.mp hb2 with hb2 | rfl
        · exact hno b hb2
        · simp only [p_hit]; simp [hb]))
    · have hb : (t 6 1).testBit i = false := (zi_tb _ _).mp ((zi_eq (b := 0) (by omega) (by decide)).mp c21)
      refine aw_iconst (v := 1) dX7_tells_24 rfl ?_
      refine aw_goto (tgt := 29) dX7_tells_25 (by decide) ?_
      refine aw_istore (ls2 := [_, _, _, _, _]) dX7_tells_29 (by decide) rfl rfl ?_
      refine aw_iload dX7_tells_31 rfl ?_
      refine aw_if_eq (tgt := 64) dX7_tells_33 (by decide) (fun z => absurd z (by decide)) (fun _ => ?_)
      refine aw_aload_n dX7_tells_36 rfl ?_
      refine aw_getR dX7_tells_37 f7_37 rfl ⟨Nat.le_of_ble_eq_true rfl, Nat.le_of_ble_eq_true rfl⟩ rfl rfl ?_
      refine aw_getR dX7_tells_40 f7_56 rfl ⟨Nat.le_of_ble_eq_true rfl, Nat.le_of_ble_eq_true rfl⟩ rfl rfl ?_
      refine aw_iload_n dX7_tells_43 rfl ?_
      refine aw_iald_n dX7_tells_44 rfl (Nat.le_of_ble_eq_true rfl) (by decide) (by omega) ?_
      refine aw_top (hU.2 i (by omega)).1 ?_
      refine aw_iload_n dX7_tells_45 rfl ?_
      refine aw_ic_ne (tgt := 64) dX7_tells_46 (by decide) (fun c46 => ?_) (fun c46 => ?_)
      · refine aw_iinc_n (ls2 := [_, _, _, _, _]) dX7_tells_64 rfl (by decide) rfl rfl ?_
        refine aw_goto (tgt := 2) dX7_tells_67 (by decide) ?_
        exact aw_kill (j := 4) (ls2 := [_, _, _, _, aw_x]) rfl (ih (fun b hb2 => by
          rcases Nat.lt_succ_iff_lt_or_eq.mp hb2 with hb2 | rfl
          · exact hno b hb2
          · simp only [p_hit]; simp [show ¬ u 0 b = h from fun z => c46 (by rw [z])]))
      · refine aw_aload_n dX7_tells_49 rfl ?_
        refine aw_getR dX7_tells_50 f7_37 rfl ⟨Nat.le_of_ble_eq_true rfl, Nat.le_of_ble_eq_true rfl⟩ rfl rfl ?_
        refine aw_getR dX7_tells_53 f7_59 rfl ⟨Nat.le_of_ble_eq_true rfl, Nat.le_of_ble_eq_true rfl⟩ rfl rfl ?_
        refine aw_iload_n dX7_tells_56 rfl ?_
        refine aw_iald_n dX7_tells_57 rfl (Nat.le_of_ble_eq_true rfl) (by decide) (by omega) ?_
        refine aw_top (hU.2 i (by omega)).2 ?_
        refine aw_iload_n dX7_tells_58 rfl ?_
        refine aw_ic_ne (tgt := 64) dX7_tells_59 (by decide) (fun c59 => ?_) (fun c59 => ?_)
        · refine aw_iinc_n (ls2 := [_, _, _, _, _]) dX7_tells_64 rfl (by decide) rfl rfl ?_
          refine aw_goto (tgt := 2) dX7_tells_67 (by decide) ?_
          exact aw_kill (j := 4) (ls2 := [_, _, _, _, aw_x]) rfl (ih (fun b hb2 => by
            rcases Nat.lt_succ_iff_lt_or_eq.mp hb2 with hb2 | rfl
            · exact hno b hb2
            · simp only [p_hit]; simp [show ¬ u 1 b = p from fun z => c59 (by rw [z])]))
        · refine aw_iconst (v := 1) dX7_tells_62 rfl ?_
          refine aw_reti dX7_tells_63 rfl rfl ⟨Nat.le_of_ble_eq_true rfl, Nat.le_of_ble_eq_true rfl⟩ ?_
          refine ⟨?_, rfl⟩
          rw [show p_tells t u h p = true from ?_]; rfl
          rw [p_tells, List.any_eq_true]
          exact ⟨i, List.mem_range.mpr hi, by simp [p_hit, hb, (zi_eq (hu i (by omega)).1 hh).mp c46, (zi_eq (hu i (by omega)).2 (show p < 100000 by omega)).mp c59]⟩
theorem w_isTold22 (G : aw_G) {n c : Nat} {I : Nat → Nat → Int32} {L : Nat → Nat → Int64} {s : Nat → Nat → Nat} {I0 : Nat → Nat → Int32} (hR : zRun s 22 I0 I) {so p : Nat} {b : Bool} (hso : so < 100000) (hp : p < 8) (h3 : s 3 p < 100000) : aw_Met G mX6_isTold [.ref 22, .int (nI so), .int (nI p), .int (if b = true then 1 else 0)] (zH n I L c) (fun v h2 => v = some (.int (if ((!(so == 2) && b) || (so == 1 && decide (1 < s 3 p))) = true then 1 else 0)) ∧ h2 = zH n I L c) := by
  have h3e : I 25 p = nI (s 3 p) := hR.at 3 p (by decide) (by decide) (by decide) (by omega)
  have e2 : (nI so = 2) ↔ so = 2 := zi_eq (b := 2) hso (by decide)
  have e1 : (nI so = 1) ↔ so = 1 := zi_eq (b := 1) hso (by decide)
  have e3 : (nI (s 3 p) ≤ 1) ↔ s 3 p ≤ 1 := zi_le (b := 1) h3 (by decide)
  refine aw_Met.of okX6_isTold (Nat.le_of_ble_eq_true rfl) ?_
  show aw_W G mX6_isTold 0 [.ref 22, .int (nI so), .int (nI p), .int (if b = true then 1 else 0)] [] (zH n I L c) (0, 0) _
  refine aw_iload_n dX6_isTold_0 rfl ?_
  refine aw_iconst (v := 2) dX6_isTold_1 rfl ?_
  refine aw_ic_eq (tgt := 9) dX6_isTold_2 (by decide) (fun c2 => ?_) (fun c2 => ?_)
  · refine aw_iload_n dX6_isTold_9 rfl ?_
    refine aw_iconst (v := 1) dX6_isTold_10 rfl ?_
    refine aw_ic_ne (tgt := 28) dX6_isTold_11 (by decide) (fun c11 => ?_) (fun c11 => ?_)
    · refine aw_iconst (v := 0) dX6_isTold_28 rfl ?_
      refine aw_reti dX6_isTold_29 rfl rfl ⟨Nat.le_of_ble_eq_true rfl, Nat.le_of_ble_eq_true rfl⟩ ?_
      refine ⟨?_, rfl⟩
      cases b <;> simp_all
    · refine aw_aload_n dX6_isTold_14 rfl ?_
      refine aw_getR dX6_isTold_15 f6_22 rfl ⟨Nat.le_of_ble_eq_true rfl, Nat.le_of_ble_eq_true rfl⟩ rfl rfl ?_
      refine aw_iload_n dX6_isTold_18 rfl ?_
      refine aw_iald_n dX6_isTold_19 rfl (Nat.le_of_ble_eq_true rfl) (by decide) hp ?_
      refine aw_top h3e ?_
      refine aw_iconst (v := 1) dX6_isTold_20 rfl ?_
      refine aw_ic_le (tgt := 28) dX6_isTold_21 (by decide) (fun c21 => ?_) (fun c21 => ?_)
      · refine aw_iconst (v := 0) dX6_isTold_28 rfl ?_
        refine aw_reti dX6_isTold_29 rfl rfl ⟨Nat.le_of_ble_eq_true rfl, Nat.le_of_ble_eq_true rfl⟩ ?_
        refine ⟨?_, rfl⟩
        cases b <;> simp_all
      · refine aw_iconst (v := 1) dX6_isTold_24 rfl ?_
        refine aw_goto (tgt := 29) dX6_isTold_25 (by decide) ?_
        refine aw_reti dX6_isTold_29 rfl rfl ⟨Nat.le_of_ble_eq_true rfl, Nat.le_of_ble_eq_true rfl⟩ ?_
        refine ⟨?_, rfl⟩
        cases b <;> simp_all
  · refine aw_iload_n dX6_isTold_5 rfl ?_
    refine aw_if_ne (tgt := 24) dX6_isTold_6 (by decide) (fun c6 => ?_) (fun c6 => ?_)
    · refine aw_iconst (v := 1) dX6_isTold_24 rfl ?_
      refine aw_goto (tgt := 29) dX6_isTold_25 (by decide) ?_
      refine aw_reti dX6_isTold_29 rfl rfl ⟨Nat.le_of_ble_eq_true rfl, Nat.le_of_ble_eq_true rfl⟩ ?_
      refine ⟨?_, rfl⟩
      cases b <;> simp_all
    · refine aw_iload_n dX6_isTold_9 rfl ?_
      refine aw_iconst (v := 1) dX6_isTold_10 rfl ?_
      refine aw_ic_ne (tgt := 28) dX6_isTold_11 (by decide) (fun c11 => ?_) (fun c11 => ?_)
      · refine aw_iconst (v := 0) dX6_isTold_28 rfl ?_
        refine aw_reti dX6_isTold_29 rfl rfl ⟨Nat.le_of_ble_eq_true rfl, Nat.le_of_ble_eq_true rfl⟩ ?_
        refine ⟨?_, rfl⟩
        cases b <;> simp_all
      · refine aw_aload_n dX6_isTold_14 rfl ?_
        refine aw_getR dX6_isTold_15 f6_22 rfl ⟨Nat.le_of_ble_eq_true rfl, Nat.le_of_ble_eq_true rfl⟩ rfl rfl ?_
        refine aw_iload_n dX6_isTold_18 rfl ?_
        refine aw_iald_n dX6_isTold_19 rfl (Nat.le_of_ble_eq_true rfl) (by decide) hp ?_
        refine aw_top h3e ?_
        refine aw_iconst (v := 1) dX6_isTold_20 rfl ?_
        refine aw_ic_le (tgt := 28) dX6_isTold_21 (by decide) (fun c21 => ?_) (fun c21 => ?_)
        · refine aw_iconst (v := 0) dX6_isTold_28 rfl ?_
          refine aw_reti dX6_isTold_29 rfl rfl ⟨Nat.le_of_ble_eq_true rfl, Nat.le_of_ble_eq_true rfl⟩ ?_
          refine ⟨?_, rfl⟩
          cases b <;> simp_all
        · refine aw_iconst (v := 1) dX6_isTold_24 rfl ?_
          refine aw_goto (tgt := 29) dX6_isTold_25 (by decide) ?_
          refine aw_reti dX6_isTold_29 rfl rfl ⟨Nat.le_of_ble_eq_true rfl, Nat.le_of_ble_eq_true rfl⟩ ?_
          refine ⟨?_, rfl⟩
          cases b <;> simp_all
theorem w_isTold44 (G : aw_G) {n c : Nat} {I : Nat → Nat → Int32} {L : Nat → Nat → Int64} {s : Nat → Nat → Nat} {I0 : Nat → Nat → Int32} (hR : zRun s 44 I0 I) {so p : Nat} {b : Bool} (hso : so < 100000) (hp : p < 8) (h3 : s 3 p < 100000) : aw_Met G mX6_isTold [.ref 44, .int (nI so), .int (nI p), .int (if b = true then 1 else 0)] (zH n I L c) (fun v h2 => v = some (.int (if ((!(so == 2) && b) || (so == 1 && decide (1 < s 3 p))) = true then 1 else 0)) ∧ h2 = zH n I L c) := by
  have h3e : I 47 p = nI (s 3 p) := hR.at 3 p (by decide) (by decide) (by decide) (by omega)
  have e2 : (nI so = 2) ↔ so = 2 := zi_eq (b := 2) hso (by decide)
  have e1 : (nI so = 1) ↔ so = 1 := zi_eq (b := 1) hso (by decide)
  have e3 : (nI (s 3 p) ≤ 1) ↔ s 3 p ≤ 1 := zi_le (b := 1) h3 (by decide)
  refine aw_Met.of okX6_isTold (Nat.le_of_ble_eq_true rfl) ?_
  show aw_W G mX6_isTold 0 [.ref 44, .int (nI so), .int (nI p), .int (if b = true then 1 else 0)] [] (zH n I L c) (0, 0) _
  refine aw_iload_n dX6_isTold_0 rfl ?_
  refine aw_iconst (v := 2) dX6_isTold_1 rfl ?_
  refine aw_ic_eq (tgt := 9) dX6_isTold_2 (by decide) (fun c2 => ?_) (fun c2 => ?_)
  · refine aw_iload_n dX6_isTold_9 rfl ?_
    refine aw_iconst (v := 1) dX6_isTold_10 rfl ?_
    refine aw_ic_ne (tgt := 28) dX6_isTold_11 (by decide) (fun c11 => ?_) (fun c11 => ?_)
    · refine aw_iconst (v := 0) dX6_isTold_28 rfl ?_
      refine aw_reti dX6_isTold_29 rfl rfl ⟨Nat.le_of_ble_eq_true rfl, Nat.le_of_ble_eq_true rfl⟩ ?_
      refine ⟨?_, rfl⟩
      cases b <;> simp_all
    · refine aw_aload_n dX6_isTold_14 rfl ?_
      refine aw_getR dX6_isTold_15 f6_22 rfl ⟨Nat.le_of_ble_eq_true rfl, Nat.le_of_ble_eq_true rfl⟩ rfl rfl ?_
      refine aw_iload_n dX6_isTold_18 rfl ?_
      refine aw_iald_n dX6_isTold_19 rfl (Nat.le_of_ble_eq_true rfl) (by decide) hp ?_
      refine aw_top h3e ?_
      refine aw_iconst (v := 1) dX6_isTold_20 rfl ?_
      refine aw_ic_le (tgt := 28) dX6_isTold_21 (by decide) (fun c21 => ?_) (fun c21 => ?_)
      · refine aw_iconst (v := 0) dX6_isTold_28 rfl ?_
        refine aw_reti dX6_isTold_29 rfl rfl ⟨Nat.le_of_ble_eq_true rfl, Nat.le_of_ble_eq_true rfl⟩ ?_
        refine ⟨?_, rfl⟩
        cases b <;> simp_all
      · refine aw_iconst (v := 1) dX6_isTold_24 rfl ?_
        refine aw_goto (tgt := 29) dX6_isTold_25 (by decide) ?_
        refine aw_reti dX6_isTold_29 rfl rfl ⟨Nat.le_of_ble_eq_true rfl, Nat.le_of_ble_eq_true rfl⟩ ?_
        refine ⟨?_, rfl⟩
        cases b <;> simp_all
  · refine aw_iload_n dX6_isTold_5 rfl ?_
    refine aw_if_ne (tgt := 24) dX6_isTold_6 (by decide) (fun c6 => ?_) (fun c6 => ?_)
    · refine aw_iconst (v := 1) dX6_isTold_24 rfl ?_
      refine aw_goto (tgt := 29) dX6_isTold_25 (by decide) ?_
      refine aw_reti dX6_isTold_29 rfl rfl ⟨Nat.le_of_ble_eq_true rfl, Nat.le_of_ble_eq_true rfl⟩ ?_
      refine ⟨?_, rfl⟩
      cases b <;> simp_all
    · refine aw_iload_n dX6_isTold_9 rfl ?_
      refine aw_iconst (v := 1) dX6_isTold_10 rfl ?_
      refine aw_ic_ne (tgt := 28) dX6_isTold_11 (by decide) (fun c11 => ?_) (fun c11 => ?_)
      · refine aw_iconst (v := 0) dX6_isTold_28 rfl ?_
        refine aw_reti dX6_isTold_29 rfl rfl ⟨Nat.le_of_ble_eq_true rfl, Nat.le_of_ble_eq_true rfl⟩ ?_
        refine ⟨?_, rfl⟩
        cases b <;> simp_all
      · refine aw_aload_n dX6_isTold_14 rfl ?_
        refine aw_getR dX6_isTold_15 f6_22 rfl ⟨Nat.le_of_ble_eq_true rfl, Nat.le_of_ble_eq_true rfl⟩ rfl rfl ?_
        refine aw_iload_n dX6_isTold_18 rfl ?_
        refine aw_iald_n dX6_isTold_19 rfl (Nat.le_of_ble_eq_true rfl) (by decide) hp ?_
        refine aw_top h3e ?_
        refine aw_iconst (v := 1) dX6_isTold_20 rfl ?_
        refine aw_ic_le (tgt := 28) dX6_isTold_21 (by decide) (fun c21 => ?_) (fun c21 => ?_)
        · refine aw_iconst (v := 0) dX6_isTold_28 rfl ?_
          refine aw_reti dX6_isTold_29 rfl rfl ⟨Nat.le_of_ble_eq_true rfl, Nat.le_of_ble_eq_true rfl⟩ ?_
          refine ⟨?_, rfl⟩
          cases b <;> simp_all
        · refine aw_iconst (v := 1) dX6_isTold_24 rfl ?_
          refine aw_goto (tgt := 29) dX6_isTold_25 (by decide) ?_
          refine aw_reti dX6_isTold_29 rfl rfl ⟨Nat.le_of_ble_eq_true rfl, Nat.le_of_ble_eq_true rfl⟩ ?_
          refine ⟨?_, rfl⟩
          cases b <;> simp_all
