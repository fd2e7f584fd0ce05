theorem w_clear22 (G : aw_G) {n c : Nat} {I : Nat → Nat → Int32} {L : Nat → Nat → Int64} {s : Nat → Nat → Nat} {I0 : Nat → Nat → Int32} (hR : zRun s 22 I0 I) {k : Nat} (hk : k < 8) : aw_Met G mX4_clear [.ref 31, .int (nI k)] (zH n I L c) (fun v h2 => v = none ∧ ∃ I2, h2 = zH n I2 L c ∧ zRun (aw_u s 10 k 0) 22 I0 I2) := by
  refine aw_Met.of okX4_clear (Nat.le_of_ble_eq_true rfl) ?_
  show aw_W G mX4_clear 0 [.ref 31, .int (nI k)] [] (zH n I L c) (0, 0) _
  refine aw_aload_n dX4_clear_0 rfl ?_
  refine aw_getR dX4_clear_1 f4_9 rfl ⟨Nat.le_of_ble_eq_true rfl, Nat.le_of_ble_eq_true rfl⟩ rfl rfl ?_
  refine aw_iload_n dX4_clear_4 rfl ?_
  refine aw_iconst (v := 0) dX4_clear_5 rfl ?_
  refine aw_iast_n dX4_clear_6 rfl ⟨Nat.le_of_ble_eq_true rfl, Nat.le_of_ble_eq_true rfl⟩ (by decide) hk ?_
  refine aw_ret0 dX4_clear_7 rfl ⟨Nat.le_of_ble_eq_true rfl, Nat.le_of_ble_eq_true rfl⟩ ?_
  exact ⟨rfl, _, rfl, hR.u (i := 10) (v := 0) (by decide)⟩
theorem w_note22 (G : aw_G) {n c : Nat} {I : Nat → Nat → Int32} {L : Nat → Nat → Int64} {s : Nat → Nat → Nat} {I0 : Nat → Nat → Int32} (hR : zRun s 22 I0 I) {k t p l w : Nat} (hk : k < 8) (hl : s 10 k < 100000) : aw_Met G mX4_note [.ref 31, .int (nI k), .int (nI t), .int (nI p), .int (nI l), .int (nI w - 1)] (zH n I L c) (fun v h2 => v = none ∧ ∃ I2, h2 = zH n I2 L c ∧ zRun (p_note s k t p l w) 22 I0 I2) := by
  have h10 : I 32 k = nI (s 10 k) := hR.at 10 k (by decide) (by decide) (by decide) (by omega)
  refine aw_Met.of okX4_note (Nat.le_of_ble_eq_true rfl) ?_
  show aw_W G mX4_note 0 [.ref 31, .int (nI k), .int (nI t), .int (nI p), .int (nI l), .int (nI w - 1), aw_x] [] (zH n I L c) (0, 0) _
  refine aw_aload_n dX4_note_0 rfl ?_
  refine aw_getR dX4_note_1 f4_9 rfl ⟨Nat.le_of_ble_eq_true rfl, Nat.le_of_ble_eq_true rfl⟩ rfl rfl ?_
  refine aw_iload_n dX4_note_4 rfl ?_
  refine aw_iald_n dX4_note_5 rfl (Nat.le_of_ble_eq_true rfl) (by decide) hk ?_
  refine aw_top h10 ?_
  refine aw_bipush (v := 8) dX4_note_6 (by decide) ?_
  refine aw_ic_lt (tgt := 12) dX4_note_8 (by decide) (fun c8 => ?_) (fun c8 => ?_)
  · have c8 : s 10 k < 8 := (zi_lt (b := 8) hl (by decide)).mp c8
    refine aw_iload_n dX4_note_12 rfl ?_
    refine aw_bipush (v := 8) dX4_note_13 (by decide) ?_
    refine aw_imul dX4_note_15 ?_
    refine aw_aload_n dX4_note_16 rfl ?_
    refine aw_getR dX4_note_17 f4_9 rfl ⟨Nat.le_of_ble_eq_true rfl, Nat.le_of_ble_eq_true rfl⟩ rfl rfl ?_
    refine aw_iload_n dX4_note_20 rfl ?_
    refine aw_iald_n dX4_note_21 rfl (Nat.le_of_ble_eq_true rfl) (by decide) hk ?_
    refine aw_top h10 ?_
    refine aw_iadd dX4_note_22 ?_
    refine aw_top (zi_mul8 _ _) ?_
    refine aw_istore (ls2 := [_, _, _, _, _, _, _]) dX4_note_23 (by decide) rfl rfl ?_
    refine aw_aload_n dX4_note_25 rfl ?_
    refine aw_getR dX4_note_26 f4_15 rfl ⟨Nat.le_of_ble_eq_true rfl, Nat.le_of_ble_eq_true rfl⟩ rfl rfl ?_
    refine aw_iload dX4_note_29 rfl ?_
    refine aw_iload_n dX4_note_31 rfl ?_
    refine aw_iast_n dX4_note_32 rfl ⟨Nat.le_of_ble_eq_true rfl, Nat.le_of_ble_eq_true rfl⟩ (by decide) (by omega) ?_
    refine aw_aload_n dX4_note_33 rfl ?_
    refine aw_getR dX4_note_34 f4_18 rfl ⟨Nat.le_of_ble_eq_true rfl, Nat.le_of_ble_eq_true rfl⟩ rfl rfl ?_
    refine aw_iload dX4_note_37 rfl ?_
    refine aw_iload_n dX4_note_39 rfl ?_
    refine aw_iast_n dX4_note_40 rfl ⟨Nat.le_of_ble_eq_true rfl, Nat.le_of_ble_eq_true rfl⟩ (by decide) (by omega) ?_
    refine aw_aload_n dX4_note_41 rfl ?_
    refine aw_getR dX4_note_42 f4_21 rfl ⟨Nat.le_of_ble_eq_true rfl, Nat.le_of_ble_eq_true rfl⟩ rfl rfl ?_
    refine aw_iload dX4_note_45 rfl ?_
    refine aw_iload dX4_note_47 rfl ?_
    refine aw_iast_n dX4_note_49 rfl ⟨Nat.le_of_ble_eq_true rfl, Nat.le_of_ble_eq_true rfl⟩ (by decide) (by omega) ?_
    refine aw_aload_n dX4_note_50 rfl ?_
    refine aw_getR dX4_note_51 f4_24 rfl ⟨Nat.le_of_ble_eq_true rfl, Nat.le_of_ble_eq_true rfl⟩ rfl rfl ?_
    refine aw_iload dX4_note_54 rfl ?_
    refine aw_iload dX4_note_56 rfl ?_
    refine aw_iast_n dX4_note_58 rfl ⟨Nat.le_of_ble_eq_true rfl, Nat.le_of_ble_eq_true rfl⟩ (by decide) (by omega) ?_
    refine aw_aload_n dX4_note_59 rfl ?_
    refine aw_getR dX4_note_60 f4_9 rfl ⟨Nat.le_of_ble_eq_true rfl, Nat.le_of_ble_eq_true rfl⟩ rfl rfl ?_
    refine aw_iload_n dX4_note_63 rfl ?_
    refine aw_dup2 dX4_note_64 rfl rfl ?_
    refine aw_iald_n dX4_note_65 rfl (Nat.le_of_ble_eq_true rfl) (by decide) hk ?_
    refine aw_top h10 ?_
    refine aw_iconst (v := 1) dX4_note_66 rfl ?_
    refine aw_iadd dX4_note_67 ?_
    refine aw_top (nI_1 _) ?_
    refine aw_iast_n dX4_note_68 rfl ⟨Nat.le_of_ble_eq_true rfl, Nat.le_of_ble_eq_true rfl⟩ (by decide) hk ?_
    refine aw_ret0 dX4_note_69 rfl ⟨Nat.le_of_ble_eq_true rfl, Nat.le_of_ble_eq_true rfl⟩ ?_
    refine ⟨rfl, _, rfl, ?_⟩
    rw [p_note, if_neg (by omega)]
    exact (((((hR.u (i := 11) (by decide)).u (i := 12) (by decide)).u (i := 13) (by decide)).u (i := 14) (by decide)).u (i := 10) (by decide))
  · have c8 : ¬ s 10 k < 8 := fun z => c8 ((zi_lt (b := 8) hl (by decide)).mpr z)
    refine aw_ret0 dX4_note_11 rfl ⟨Nat.le_of_ble_eq_true rfl, Nat.le_of_ble_eq_true rfl⟩ ?_
    exact ⟨rfl, _, rfl, by rw [p_note, if_pos (by omega)]; exact hR⟩
theorem w_clear44 (G : aw_G) {n c : Nat} {I : Nat → Nat → Int32} {L : Nat → Nat → Int64} {s : Nat → Nat → Nat} {I0 : Nat → Nat → Int32} (hR : zRun s 44 I0 I) {k : Nat} (hk : k < 8) : aw_Met G mX4_clear [.ref 53, .int (nI k)] (zH n I L c) (fun v h2 => v = none ∧ ∃ I2, h2 = zH n I2 L c ∧ zRun (aw_u s 10 k 0) 44 I0 I2) := by
  refine aw_Met.of okX4_clear (Nat.le_of_ble_eq_true rfl) ?_
  show aw_W G mX4_clear 0 [.ref 53, .int (nI k)] [] (zH n I L c) (0, 0) _
  refine aw_aload_n dX4_clear_0 rfl ?_
  refine aw_getR dX4_clear_1 f4_9 rfl ⟨Nat.le_of_ble_eq_true rfl, Nat.le_of_ble_eq_true rfl⟩ rfl rfl ?_
  refine aw_iload_n dX4_clear_4 rfl ?_
  refine aw_iconst (v := 0) dX4_clear_5 rfl ?_
  refine aw_iast_n dX4_clear_6 rfl ⟨Nat.le_of_ble_eq_true rfl, Nat.le_of_ble_eq_true rfl⟩ (by decide) hk ?_
  refine aw_ret0 dX4_clear_7 rfl ⟨Nat.le_of_ble_eq_true rfl, Nat.le_of_ble_eq_true rfl⟩ ?_
  exact ⟨rfl, _, rfl, hR.u (i := 10) (v := 0) (by decide)⟩
theorem w_note44 (G : aw_G) {n c : Nat} {I : Nat → Nat → Int32} {L : Nat → Nat → Int64} {s : Nat → Nat → Nat} {I0 : Nat → Nat → Int32} (hR : zRun s 44 I0 I) {k t p l w : Nat} (hk : k < 8) (hl : s 10 k < 100000) : aw_Met G mX4_note [.ref 53, .int (nI k), .int (nI t), .int (nI p), .int (nI l), .int (nI w - 1)] (zH n I L c) (fun v h2 => v = none ∧ ∃ I2, h2 = zH n I2 L c ∧ zRun (p_note s k t p l w) 44 I0 I2) := by
  have h10 : I 54 k = nI (s 10 k) := hR.at 10 k (by decide) (by decide) (by decide) (by omega)
  refine aw_Met.of okX4_note (Nat.le_of_ble_eq_true rfl) ?_
  show aw_W G mX4_note 0 [.ref 53, .int (nI k), .int (nI t), .int (nI p), .int (nI l), .int (nI w - 1), aw_x] [] (zH n I L c) (0, 0) _
  refine aw_aload_n dX4_note_0 rfl ?_
  refine aw_getR dX4_note_1 f4_9 rfl ⟨Nat.le_of_ble_eq_true rfl, Nat.le_of_ble_eq_true rfl⟩ rfl rfl ?_
  refine aw_iload_n dX4_note_4 rfl ?_
  refine aw_iald_n dX4_note_5 rfl (Nat.le_of_ble_eq_true rfl) (by decide) hk ?_
  refine aw_top h10 ?_
  refine aw_bipush (v := 8) dX4_note_6 (by decide) ?_
  refine aw_ic_lt (tgt := 12) dX4_note_8 (by decide) (fun c8 => ?_) (fun c8 => ?_)
  · have c8 : s 10 k < 8 := (zi_lt (b := 8) hl (by decide)).mp c8
    refine aw_iload_n dX4_note_12 rfl ?_
    refine aw_bipush (v := 8) dX4_note_13 (by decide) ?_
    refine aw_imul dX4_note_15 ?_
    refine aw_aload_n dX4_note_16 rfl ?_
    refine aw_getR dX4_note_17 f4_9 rfl ⟨Nat.le_of_ble_eq_true rfl, Nat.le_of_ble_eq_true rfl⟩ rfl rfl ?_
    refine aw_iload_n dX4_note_20 rfl ?_
    refine aw_iald_n dX4_note_21 rfl (Nat.le_of_ble_eq_true rfl) (by decide) hk ?_
    refine aw_top h10 ?_
    refine aw_iadd dX4_note_22 ?_
    refine aw_top (zi_mul8 _ _) ?_
    refine aw_istore (ls2 := [_, _, _, _, _, _, _]) dX4_note_23 (by decide) rfl rfl ?_
    refine aw_aload_n dX4_note_25 rfl ?_
    refine aw_getR dX4_note_26 f4_15 rfl ⟨Nat.le_of_ble_eq_true rfl, Nat.le_of_ble_eq_true rfl⟩ rfl rfl ?_
    refine aw_iload dX4_note_29 rfl ?_
    refine aw_iload_n dX4_note_31 rfl ?_
    refine aw_iast_n dX4_note_32 rfl ⟨Nat.le_of_ble_eq_true rfl, Nat.le_of_ble_eq_true rfl⟩ (by decide) (by omega) ?_
    refine aw_aload_n dX4_note_33 rfl ?_
    refine aw_getR dX4_note_34 f4_18 rfl ⟨Nat.le_of_ble_eq_true rfl, Nat.le_of_ble_eq_true rfl⟩ rfl rfl ?_
    refine aw_iload dX4_note_37 rfl ?_
    refine aw_iload_n dX4_note_39 rfl ?_
    refine aw_iast_n dX4_note_40 rfl ⟨Nat.le_of_ble_eq_true rfl, Nat.le_of_ble_eq_true rfl⟩ (by decide) (by omega) ?_
    refine aw_aload_n dX4_note_41 rfl ?_
    refine aw_getR dX4_note_42 f4_21 rfl ⟨Nat.le_of_ble_eq_true rfl, Nat.le_of_ble_eq_true rfl⟩ rfl rfl ?_
    refine aw_iload dX4_note_45 rfl ?_
    refine aw_iload dX4_note_47 rfl ?_
    refine aw_iast_n dX4_note_49 rfl ⟨Nat.le_of_ble_eq_true rfl, Nat.le_of_ble_eq_true rfl⟩ (by decide) (by omega) ?_
    refine aw_aload_n dX4_note_50 rfl ?_
    refine aw_getR dX4_note_51 f4_24 rfl ⟨Nat.le_of_ble_eq_true rfl, Nat.le_of_ble_eq_true rfl⟩ rfl rfl ?_
    refine aw_iload dX4_note_54 rfl ?_
    refine aw_iload dX4_note_56 rfl ?_
    refine aw_iast_n dX4_note_58 rfl ⟨Nat.le_of_ble_eq_true rfl, Nat.le_of_ble_eq_true rfl⟩ (by decide) (by omega) ?_
    refine aw_aload_n dX4_note_59 rfl ?_
    refine aw_getR dX4_note_60 f4_9 rfl ⟨Nat.le_of_ble_eq_true rfl, Nat.le_of_ble_eq_true rfl⟩ rfl rfl ?_
    refine aw_iload_n dX4_note_63 rfl ?_
    refine aw_dup2 dX4_note_64 rfl rfl ?_
    refine aw_iald_n dX4_note_65 rfl (Nat.le_of_ble_eq_true rfl) (by decide) hk ?_
    refine aw_top h10 ?_
    refine aw_iconst (v := 1) dX4_note_66 rfl ?_
    refine aw_iadd dX4_note_67 ?_
    refine aw_top (nI_1 _) ?_
    refine aw_iast_n dX4_note_68 rfl ⟨Nat.le_of_ble_eq_true rfl, Nat.le_of_ble_eq_true rfl⟩ (by decide) hk ?_
    refine aw_ret0 dX4_note_69 rfl ⟨Nat.le_of_ble_eq_true rfl, Nat.le_of_ble_eq_true rfl⟩ ?_
    refine ⟨rfl, _, rfl, ?_⟩
    rw [p_note, if_neg (by omega)]
    exact (((((hR.u (i := 11) (by decide)).u (i := 12) (by decide)).u (i := 13) (by decide)).u (i := 14) (by decide)).u (i := 10) (by decide))
  · have c8 : ¬ s 10 k < 8 := fun z => c8 ((zi_lt (b := 8) hl (by decide)).mpr z)
    refine aw_ret0 dX4_note_11 rfl ⟨Nat.le_of_ble_eq_true rfl, Nat.le_of_ble_eq_true rfl⟩ ?_
    exact ⟨rfl, _, rfl, by rw [p_note, if_pos (by omega)]; exact hR⟩
