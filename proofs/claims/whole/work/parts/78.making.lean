/-! fill and play, while the class is being made -/
/-- the references while the road holds but its first k -/
def yR (k a b : Nat) : Option Nat := bif Nat.beq a 3 && Nat.ble k b then none else zR 12 a b
abbrev xH (n : Nat) (I : Nat → Nat → Int32) (L : Nat → Nat → Int64) (c : Nat) : aw_H := (zS n, I, L, yR c, 19)
abbrev yH (n : Nat) (I : Nat → Nat → Int32) (L : Nat → Nat → Int64) (c : Nat) : aw_H := (zS n, I, L, yR c, 34)
theorem xw_numW0 (G : aw_G) {n c : Nat} {I : Nat → Nat → Int32} {L : Nat → Nat → Int64} {b : Nat → Nat} {l : Nat} {w : Nat} (hb : zTbW b l I) (hi : w * 5 + 0 < 49) (hq : q_w b (w * 5 + 0) = true) : aw_Met G mX9_number [.ref 4, .int (nI w), .int 0] (xH n I L c) (fun v h2 => v = some (.int (nI (v_w b w 0))) ∧ h2 = xH n I L c) := by
  obtain ⟨hp0, hp1, hp2, hp3, hp4⟩ := hb.1
  have hbi := (hb.2.1 (w * 5 + 0) hi).2
  have hh := q_w_0 hq
  refine aw_Met.of okX9_number (Nat.le_of_ble_eq_true rfl) ?_
  show aw_W G mX9_number 0 [.ref 4, .int (nI w), .int 0, aw_x] [] (xH n I L c) (0, 0) _
  refine aw_aload_n dX9_number_0 rfl ?_
  refine aw_getR dX9_number_1 f9_34 rfl ⟨Nat.le_of_ble_eq_true rfl, Nat.le_of_ble_eq_true rfl⟩ rfl rfl ?_
  refine aw_iload_n dX9_number_4 rfl ?_
  refine aw_aload_n dX9_number_5 rfl ?_
  refine aw_getR dX9_number_6 f9_21 rfl ⟨Nat.le_of_ble_eq_true rfl, Nat.le_of_ble_eq_true rfl⟩ rfl rfl ?_
  refine aw_alen dX9_number_9 rfl (Nat.le_of_ble_eq_true rfl) ?_
  refine aw_imul_n (a := w) (b := 5) dX9_number_10 ?_
  refine aw_iload_n dX9_number_11 rfl ?_
  refine aw_iadd_n (a := w * 5) (b := 0) dX9_number_12 ?_
  refine aw_iald_n (j := (w * 5) + 0) dX9_number_13 rfl (Nat.le_of_ble_eq_true rfl) (by decide) (by omega) ?_
  refine aw_top (hb.2.1 ((w * 5) + 0) (by omega)).1 ?_
  refine aw_istore_n (ls2 := [_, _, _, _]) dX9_number_14 (by decide) rfl rfl ?_
  refine aw_aload_n dX9_number_15 rfl ?_
  refine aw_getR dX9_number_16 f9_21 rfl ⟨Nat.le_of_ble_eq_true rfl, Nat.le_of_ble_eq_true rfl⟩ rfl rfl ?_
  refine aw_iload_n dX9_number_19 rfl ?_
  refine aw_iald_n (j := 0) dX9_number_20 rfl (Nat.le_of_ble_eq_true rfl) (by decide) (by omega) ?_
  refine aw_top hp0 ?_
  refine aw_swIn (off := 35) (tgt := 56) dX9_number_21 (by decide) (by decide) rfl (by decide) ?_
  refine aw_iload_n dX9_number_56 rfl ?_
  refine aw_bipush (v := 97) dX9_number_57 (by decide) ?_
  refine aw_isub_n (a := b ((w * 5) + 0)) (b := 97) dX9_number_59 (by omega) ?_
  refine aw_reti dX9_number_60 rfl rfl ⟨Nat.le_of_ble_eq_true rfl, Nat.le_of_ble_eq_true rfl⟩ ?_
  refine ⟨?_, rfl⟩
  unfold v_w
  rw [if_pos (by decide)]
theorem xw_numW1 (G : aw_G) {n c : Nat} {I : Nat → Nat → Int32} {L : Nat → Nat → Int64} {b : Nat → Nat} {l : Nat} {w : Nat} (hb : zTbW b l I) (hi : w * 5 + 1 < 49) (hq : q_w b (w * 5 + 1) = true) : aw_Met G mX9_number [.ref 4, .int (nI w), .int 1] (xH n I L c) (fun v h2 => v = some (.int (nI (v_w b w 1))) ∧ h2 = xH n I L c) := by
  obtain ⟨hp0, hp1, hp2, hp3, hp4⟩ := hb.1
  have hbi := (hb.2.1 (w * 5 + 1) hi).2
  have hh := q_w_1 hq
  refine aw_Met.of okX9_number (Nat.le_of_ble_eq_true rfl) ?_
  show aw_W G mX9_number 0 [.ref 4, .int (nI w), .int 1, aw_x] [] (xH n I L c) (0, 0) _
  refine aw_aload_n dX9_number_0 rfl ?_
  refine aw_getR dX9_number_1 f9_34 rfl ⟨Nat.le_of_ble_eq_true rfl, Nat.le_of_ble_eq_true rfl⟩ rfl rfl ?_
  refine aw_iload_n dX9_number_4 rfl ?_
  refine aw_aload_n dX9_number_5 rfl ?_
  refine aw_getR dX9_number_6 f9_21 rfl ⟨Nat.le_of_ble_eq_true rfl, Nat.le_of_ble_eq_true rfl⟩ rfl rfl ?_
  refine aw_alen dX9_number_9 rfl (Nat.le_of_ble_eq_true rfl) ?_
  refine aw_imul_n (a := w) (b := 5) dX9_number_10 ?_
  refine aw_iload_n dX9_number_11 rfl ?_
  refine aw_iadd_n (a := w * 5) (b := 1) dX9_number_12 ?_
  refine aw_iald_n (j := (w * 5) + 1) dX9_number_13 rfl (Nat.le_of_ble_eq_true rfl) (by decide) (by omega) ?_
  refine aw_top (hb.2.1 ((w * 5) + 1) (by omega)).1 ?_
  refine aw_istore_n (ls2 := [_, _, _, _]) dX9_number_14 (by decide) rfl rfl ?_
  refine aw_aload_n dX9_number_15 rfl ?_
  refine aw_getR dX9_number_16 f9_21 rfl ⟨Nat.le_of_ble_eq_true rfl, Nat.le_of_ble_eq_true rfl⟩ rfl rfl ?_
  refine aw_iload_n dX9_number_19 rfl ?_
  refine aw_iald_n (j := 1) dX9_number_20 rfl (Nat.le_of_ble_eq_true rfl) (by decide) (by omega) ?_
  refine aw_top hp1 ?_
  refine aw_swIn (off := 35) (tgt := 56) dX9_number_21 (by decide) (by decide) rfl (by decide) ?_
  refine aw_iload_n dX9_number_56 rfl ?_
  refine aw_bipush (v := 97) dX9_number_57 (by decide) ?_
  refine aw_isub_n (a := b ((w * 5) + 1)) (b := 97) dX9_number_59 (by omega) ?_
  refine aw_reti dX9_number_60 rfl rfl ⟨Nat.le_of_ble_eq_true rfl, Nat.le_of_ble_eq_true rfl⟩ ?_
  refine ⟨?_, rfl⟩
  unfold v_w
  rw [if_pos (by decide)]
theorem xw_numW2 (G : aw_G) {n c : Nat} {I : Nat → Nat → Int32} {L : Nat → Nat → Int64} {b : Nat → Nat} {l : Nat} {w : Nat} (hb : zTbW b l I) (hi : w * 5 + 2 < 49) (hq : q_w b (w * 5 + 2) = true) : aw_Met G mX9_number [.ref 4, .int (nI w), .int 2] (xH n I L c) (fun v h2 => v = some (.int (nI (v_w b w 2))) ∧ h2 = xH n I L c) := by
  obtain ⟨hp0, hp1, hp2, hp3, hp4⟩ := hb.1
  have hbi := (hb.2.1 (w * 5 + 2) hi).2
  have hh := q_w_2 hq
  refine aw_Met.of okX9_number (Nat.le_of_ble_eq_true rfl) ?_
  show aw_W G mX9_number 0 [.ref 4, .int (nI w), .int 2, aw_x] [] (xH n I L c) (0, 0) _
  refine aw_aload_n dX9_number_0 rfl ?_
  refine aw_getR dX9_number_1 f9_34 rfl ⟨Nat.le_of_ble_eq_true rfl, Nat.le_of_ble_eq_true rfl⟩ rfl rfl ?_
  refine aw_iload_n dX9_number_4 rfl ?_
  refine aw_aload_n dX9_number_5 rfl ?_
  refine aw_getR dX9_number_6 f9_21 rfl ⟨Nat.le_of_ble_eq_true rfl, Nat.le_of_ble_eq_true rfl⟩ rfl rfl ?_
  refine aw_alen dX9_number_9 rfl (Nat.le_of_ble_eq_true rfl) ?_
  refine aw_imul_n (a := w) (b := 5) dX9_number_10 ?_
  refine aw_iload_n dX9_number_11 rfl ?_
  refine aw_iadd_n (a := w * 5) (b := 2) dX9_number_12 ?_
  refine aw_iald_n (j := (w * 5) + 2) dX9_number_13 rfl (Nat.le_of_ble_eq_true rfl) (by decide) (by omega) ?_
  refine aw_top (hb.2.1 ((w * 5) + 2) (by omega)).1 ?_
  refine aw_istore_n (ls2 := [_, _, _, _]) dX9_number_14 (by decide) rfl rfl ?_
  refine aw_aload_n dX9_number_15 rfl ?_
  refine aw_getR dX9_number_16 f9_21 rfl ⟨Nat.le_of_ble_eq_true rfl, Nat.le_of_ble_eq_true rfl⟩ rfl rfl ?_
  refine aw_iload_n dX9_number_19 rfl ?_
  refine aw_iald_n (j := 2) dX9_number_20 rfl (Nat.le_of_ble_eq_true rfl) (by decide) (by omega) ?_
  refine aw_top hp2 ?_
  refine aw_swIn (off := 40) (tgt := 61) dX9_number_21 (by decide) (by decide) rfl (by decide) ?_
  refine aw_iload_n dX9_number_61 rfl ?_
  refine aw_bipush (v := 48) dX9_number_62 (by decide) ?_
  refine aw_isub_n (a := b ((w * 5) + 2)) (b := 48) dX9_number_64 (by omega) ?_
  refine aw_reti dX9_number_65 rfl rfl ⟨Nat.le_of_ble_eq_true rfl, Nat.le_of_ble_eq_true rfl⟩ ?_
  refine ⟨?_, rfl⟩
  unfold v_w
  rw [if_neg (by decide), if_pos rfl]
theorem xw_numW3 (G : aw_G) {n c : Nat} {I : Nat → Nat → Int32} {L : Nat → Nat → Int64} {b : Nat → Nat} {l : Nat} {w : Nat} (hb : zTbW b l I) (hi : w * 5 + 3 < 49) (hq : q_w b (w * 5 + 3) = true) : aw_Met G mX9_number [.ref 4, .int (nI w), .int 3] (xH n I L c) (fun v h2 => v = some (.int (nI (v_w b w 3))) ∧ h2 = xH n I L c) := by
  obtain ⟨hp0, hp1, hp2, hp3, hp4⟩ := hb.1
  have hbi := (hb.2.1 (w * 5 + 3) hi).2
  have hh := q_w_3 hq
  refine aw_Met.of okX9_number (Nat.le_of_ble_eq_true rfl) ?_
  show aw_W G mX9_number 0 [.ref 4, .int (nI w), .int 3, aw_x] [] (xH n I L c) (0, 0) _
  refine aw_aload_n dX9_number_0 rfl ?_
  refine aw_getR dX9_number_1 f9_34 rfl ⟨Nat.le_of_ble_eq_true rfl, Nat.le_of_ble_eq_true rfl⟩ rfl rfl ?_
  refine aw_iload_n dX9_number_4 rfl ?_
  refine aw_aload_n dX9_number_5 rfl ?_
  refine aw_getR dX9_number_6 f9_21 rfl ⟨Nat.le_of_ble_eq_true rfl, Nat.le_of_ble_eq_true rfl⟩ rfl rfl ?_
  refine aw_alen dX9_number_9 rfl (Nat.le_of_ble_eq_true rfl) ?_
  refine aw_imul_n (a := w) (b := 5) dX9_number_10 ?_
  refine aw_iload_n dX9_number_11 rfl ?_
  refine aw_iadd_n (a := w * 5) (b := 3) dX9_number_12 ?_
  refine aw_iald_n (j := (w * 5) + 3) dX9_number_13 rfl (Nat.le_of_ble_eq_true rfl) (by decide) (by omega) ?_
  refine aw_top (hb.2.1 ((w * 5) + 3) (by omega)).1 ?_
  refine aw_istore_n (ls2 := [_, _, _, _]) dX9_number_14 (by decide) rfl rfl ?_
  refine aw_aload_n dX9_number_15 rfl ?_
  refine aw_getR dX9_number_16 f9_21 rfl ⟨Nat.le_of_ble_eq_true rfl, Nat.le_of_ble_eq_true rfl⟩ rfl rfl ?_
  refine aw_iload_n dX9_number_19 rfl ?_
  refine aw_iald_n (j := 3) dX9_number_20 rfl (Nat.le_of_ble_eq_true rfl) (by decide) (by omega) ?_
  refine aw_top hp3 ?_
  refine aw_swIn (off := 45) (tgt := 66) dX9_number_21 (by decide) (by decide) rfl (by decide) ?_
  refine aw_iload_n dX9_number_66 rfl ?_
  refine aw_bipush (v := 117) dX9_number_67 (by decide) ?_
  refine aw_ic_ne_n (a := b ((w * 5) + 3)) (b := 117) (tgt := 76) dX9_number_69 (by decide) (by omega) (by omega) (fun c69 => ?_) (fun c69 => ?_)
  · refine aw_iload_n dX9_number_76 rfl ?_
    refine aw_bipush (v := 102) dX9_number_77 (by decide) ?_
    refine aw_ic_ne_n (a := b ((w * 5) + 3)) (b := 102) (tgt := 86) dX9_number_79 (by decide) (by omega) (by omega) (fun c79 => ?_) (fun c79 => ?_)
    · refine aw_iconst (v := 2) dX9_number_86 rfl ?_
      refine aw_reti dX9_number_87 rfl rfl ⟨Nat.le_of_ble_eq_true rfl, Nat.le_of_ble_eq_true rfl⟩ ?_
      refine ⟨?_, rfl⟩
      unfold v_w
      rw [if_neg (by decide), if_neg (by decide)]
      rw [if_neg c69, if_neg c79]
      rfl
    · refine aw_iconst (v := 1) dX9_number_82 rfl ?_
      refine aw_goto (tgt := 87) dX9_number_83 (by decide) ?_
      refine aw_reti dX9_number_87 rfl rfl ⟨Nat.le_of_ble_eq_true rfl, Nat.le_of_ble_eq_true rfl⟩ ?_
      refine ⟨?_, rfl⟩
      unfold v_w
      rw [if_neg (by decide), if_neg (by decide)]
      rw [if_neg c69, if_pos c79]
      rfl
  · refine aw_iconst (v := 0) dX9_number_72 rfl ?_
    refine aw_goto (tgt := 87) dX9_number_73 (by decide) ?_
    refine aw_reti dX9_number_87 rfl rfl ⟨Nat.le_of_ble_eq_true rfl, Nat.le_of_ble_eq_true rfl⟩ ?_
    refine ⟨?_, rfl⟩
    unfold v_w
    rw [if_neg (by decide), if_neg (by decide)]
    rw [if_pos c69]
    rfl
theorem xw_numW (G : aw_G) {n c : Nat} {I : Nat → Nat → Int32} {L : Nat → Nat → Int64} {b : Nat → Nat} {l : Nat} {w j : Nat} (hb : zTbW b l I) (hw : w < q_k (q_w b) 5 l) (hj : j < 4) : aw_Met G mX9_number [.ref 4, .int (nI w), .int (nI j)] (xH n I L c) (fun v h2 => v = some (.int (nI (v_w b w j))) ∧ h2 = xH n I L c) := by
  have h : j = 0 ∨ j = 1 ∨ j = 2 ∨ j = 3 := by omega
  have hl := hb.2.2.2.2
  rcases h with rfl | rfl | rfl | rfl
  · exact xw_numW0 G hb (by have := q_k_lt (j := 0) hw (by decide); omega) (q_k_at hw (by decide))
  · exact xw_numW1 G hb (by have := q_k_lt (j := 1) hw (by decide); omega) (q_k_at hw (by decide))
  · exact xw_numW2 G hb (by have := q_k_lt (j := 2) hw (by decide); omega) (q_k_at hw (by decide))
  · exact xw_numW3 G hb (by have := q_k_lt (j := 3) hw (by decide); omega) (q_k_at hw (by decide))
theorem xw_shorten12 (G : aw_G) {n c : Nat} {I I0 : Nat → Nat → Int32} {L : Nat → Nat → Int64} {e d r : Nat → Nat} {p t : Nat} (hC : zCx e d r 12 I0 I) (hp : p < 64) (hb : e p < 2147483648) (ht : t < 2147483648) : aw_Met G mX2_shorten [.ref 12, .int (nI p), .int (nI t)] (xH n I L c) (fun v h2 => v = none ∧ ∃ I2, h2 = xH n I2 L c ∧ zCx (f_put e p t) d r 12 I0 I2) := by
  refine aw_Met.of okX2_shorten (Nat.le_of_ble_eq_true rfl) ?_
  show aw_W G mX2_shorten 0 [.ref 12, .int (nI p), .int (nI t)] [] (xH n I L c) (0, 0) _
  refine aw_aload_n dX2_shorten_0 rfl ?_
  refine aw_getR dX2_shorten_1 f2_9 rfl ⟨Nat.le_of_ble_eq_true rfl, Nat.le_of_ble_eq_true rfl⟩ rfl rfl ?_
  refine aw_iload_n dX2_shorten_4 rfl ?_
  refine aw_aload_n dX2_shorten_5 rfl ?_
  refine aw_getR dX2_shorten_6 f2_9 rfl ⟨Nat.le_of_ble_eq_true rfl, Nat.le_of_ble_eq_true rfl⟩ rfl rfl ?_
  refine aw_iload_n dX2_shorten_9 rfl ?_
  refine aw_iald_n (j := p) dX2_shorten_10 rfl (Nat.le_of_ble_eq_true rfl) (by decide) (by omega) ?_
  refine aw_top (hC.1 (p) (by omega)).1 ?_
  refine aw_iload_n dX2_shorten_11 rfl ?_
  refine aw_min dX2_shorten_12 mm2_41 ⟨Nat.le_of_ble_eq_true rfl, Nat.le_of_ble_eq_true rfl⟩ ⟨Nat.le_of_ble_eq_true rfl, Nat.le_of_ble_eq_true rfl⟩ ?_
  refine aw_top (zi_min hb ht) ?_
  refine aw_iast_n (j := p) dX2_shorten_15 rfl ⟨Nat.le_of_ble_eq_true rfl, Nat.le_of_ble_eq_true rfl⟩ (by decide) (by omega) ?_
  refine aw_ret0 dX2_shorten_16 rfl ⟨Nat.le_of_ble_eq_true rfl, Nat.le_of_ble_eq_true rfl⟩ ?_
  exact ⟨rfl, _, rfl, hC.ue⟩
theorem xw_addUp12 (G : aw_G) {n c : Nat} {I I0 : Nat → Nat → Int32} {L : Nat → Nat → Int64} {e d r : Nat → Nat} (hC : zCx e d r 12 I0 I) (he : ∀ j, j < 64 → e j ≤ 1000) (hF : ∀ k j, k ≤ 8 → j < 64 → f_fw e k j ≤ 1000) : aw_Met G mX2_addUp [.ref 12] (xH n I L c) (fun v h2 => v = none ∧ ∃ I2, h2 = xH n I2 L c ∧ zCx e (f_fw e 8) r 12 I0 I2) := by
  refine aw_Met.of okX2_addUp (Nat.le_of_ble_eq_true rfl) ?_
  show aw_W G mX2_addUp 0 [.ref 12, aw_x, aw_x, aw_x, aw_x, aw_x] [] (xH n I L c) (0, 0) _
  refine aw_iconst (v := 0) dX2_addUp_0 rfl ?_
  refine aw_istore_n (ls2 := [_, _, _, _, _, _]) dX2_addUp_1 (by decide) rfl rfl ?_
  refine aw_up (X := fun i => ∀ I d, (∀ j, j < i → d j = e j) ∧ zCx e d r 12 I0 I → aw_W G mX2_addUp 2 [.ref 12, .int (nI i), aw_x, aw_x, aw_x, aw_x] [] (xH n I L c) (0, 0) _) (Nat.zero_le 64) (fun I d hh => ?_) (fun i _ hi ih I d hh => ?_) I d ⟨fun j hj => absurd hj (by omega), hC⟩
  · obtain ⟨hd, hC⟩ := hh
    refine aw_iload_n dX2_addUp_2 rfl ?_
    refine aw_bipush (v := 64) dX2_addUp_3 (by decide) ?_
    refine aw_ic_ge_n (a := 64) (b := 64) (tgt := 26) dX2_addUp_5 (by decide) (by omega) (by omega) (fun c5 => ?_) (fun z => absurd z (by omega))
    refine aw_iconst (v := 0) dX2_addUp_26 rfl ?_
    refine aw_istore_n (ls2 := [_, _, _, _, _, _]) dX2_addUp_27 (by decide) rfl rfl ?_
    refine aw_up (X := fun p => ∀ I d, (∀ j, j < 64 → d j = if j / 8 = j % 8 ∧ j / 8 < p then 0 else e j) ∧ zCx e d r 12 I0 I → aw_W G mX2_addUp 28 [.ref 12, .int (nI p), aw_x, aw_x, aw_x, aw_x] [] (xH n I L c) (0, 0) _) (Nat.zero_le 8) (fun I d hh => ?_) (fun p _ hp ph I d hh => ?_) I d ⟨fun j hj => by rw [if_neg (by omega)]; exact hd j hj, hC⟩
    · obtain ⟨hd, hC⟩ := hh
      refine aw_iload_n dX2_addUp_28 rfl ?_
      refine aw_bipush (v := 8) dX2_addUp_29 (by decide) ?_
      refine aw_ic_ge_n (a := 8) (b := 8) (tgt := 52) dX2_addUp_31 (by decide) (by omega) (by omega) (fun c31 => ?_) (fun z => absurd z (by omega))
      refine aw_iconst (v := 0) dX2_addUp_52 rfl ?_
      refine aw_istore_n (ls2 := [_, _, _, _, _, _]) dX2_addUp_53 (by decide) rfl rfl ?_
      refine aw_up (X := fun y => ∀ I d, (∀ j, j < 64 → d j = f_fw e y j) ∧ zCx e d r 12 I0 I → aw_W G mX2_addUp 54 [.ref 12, .int (nI y), aw_x, aw_x, aw_x, aw_x] [] (xH n I L c) (0, 0) _) (Nat.zero_le 8) (fun I d hh => ?_) (fun y _ hy yh I d hh => ?_) I d ⟨fun j hj => ?_, hC⟩
      · obtain ⟨hd, hC⟩ := hh
        refine aw_iload_n dX2_addUp_54 rfl ?_
        refine aw_bipush (v := 8) dX2_addUp_55 (by decide) ?_
        refine aw_ic_ge_n (a := 8) (b := 8) (tgt := 162) dX2_addUp_57 (by decide) (by omega) (by omega) (fun c57 => ?_) (fun z => absurd z (by omega))
        refine aw_ret0 dX2_addUp_162 rfl ⟨Nat.le_of_ble_eq_true rfl, Nat.le_of_ble_eq_true rfl⟩ ?_
        exact ⟨rfl, _, rfl, hC.cg (fun _ _ => rfl) hd (fun _ _ => rfl)⟩
      · obtain ⟨hd, hC⟩ := hh
        refine aw_iload_n dX2_addUp_54 rfl ?_
        refine aw_bipush (v := 8) dX2_addUp_55 (by decide) ?_
        refine aw_ic_ge_n (a := y) (b := 8) (tgt := 162) dX2_addUp_57 (by decide) (by omega) (by omega) (fun z => absurd z (by omega)) (fun c57 => ?_)
        refine aw_iconst (v := 0) dX2_addUp_60 rfl ?_
        refine aw_istore_n (ls2 := [_, _, _, _, _, _]) dX2_addUp_61 (by decide) rfl rfl ?_
        refine aw_up (X := fun p => ∀ I d, (∀ j, j < 64 → d j = if j < p * 8 then f_s (f_fw e y) y j else f_fw e y j) ∧ zCx e d r 12 I0 I → aw_W G mX2_addUp 62 [.ref 12, .int (nI y), .int (nI p), aw_x, aw_x, aw_x] [] (xH n I L c) (0, 0) _) (Nat.zero_le 8) (fun I d hh => ?_) (fun p _ hp ph I d hh => ?_) I d ⟨fun j hj => by rw [if_neg (by omega)]; exact hd j hj, hC⟩
        · obtain ⟨hd, hC⟩ := hh
          refine aw_iload_n dX2_addUp_62 rfl ?_
          refine aw_bipush (v := 8) dX2_addUp_63 (by decide) ?_
          refine aw_ic_ge_n (a := 8) (b := 8) (tgt := 156) dX2_addUp_65 (by decide) (by omega) (by omega) (fun c65 => ?_) (fun z => absurd z (by omega))
          refine aw_iinc_n (ls2 := [_, _, _, _, _, _]) dX2_addUp_156 rfl (by decide) rfl rfl ?_
          refine aw_goto (tgt := 54) dX2_addUp_159 (by decide) ?_
          refine aw_kill (j := 2) (ls2 := [_, _, aw_x, _, _, _]) rfl (yh I d ⟨fun j hj => ?_, hC⟩)
          rw [hd j hj, if_pos (by omega)]; rfl
        · obtain ⟨hd, hC⟩ := hh
          have hb0 := hF y (8 * p + y) (by omega) (by omega)
          have hfi : d (p * 8 + y) = f_fw e y (8 * p + y) := by rw [hd _ (by omega), if_neg (by omega), Nat.mul_comm p 8]
          refine aw_iload_n dX2_addUp_62 rfl ?_
          refine aw_bipush (v := 8) dX2_addUp_63 (by decide) ?_
          refine aw_ic_ge_n (a := p) (b := 8) (tgt := 156) dX2_addUp_65 (by decide) (by omega) (by omega) (fun z => absurd z (by omega)) (fun c65 => ?_)
          refine aw_aload_n dX2_addUp_68 rfl ?_
          refine aw_getR dX2_addUp_69 f2_15 rfl ⟨Nat.le_of_ble_eq_true rfl, Nat.le_of_ble_eq_true rfl⟩ rfl rfl ?_
          refine aw_iload_n dX2_addUp_72 rfl ?_
          refine aw_bipush (v := 8) dX2_addUp_73 (by decide) ?_
          refine aw_imul_n (a := p) (b := 8) dX2_addUp_75 ?_
          refine aw_iload_n dX2_addUp_76 rfl ?_
          refine aw_iadd_n (a := p * 8) (b := y) dX2_addUp_77 ?_
          refine aw_iald_n (j := (p * 8) + y) dX2_addUp_78 rfl (Nat.le_of_ble_eq_true rfl) (by decide) (by omega) ?_
          refine aw_top ((hC.1 ((p * 8) + y) (by omega)).2.1.trans (congrArg nI hfi)) ?_
          refine aw_istore_n (ls2 := [_, _, _, _, _, _]) dX2_addUp_79 (by decide) rfl rfl ?_
          refine aw_iconst (v := 0) dX2_addUp_80 rfl ?_
          refine aw_istore (ls2 := [_, _, _, _, _, _]) dX2_addUp_81 (by decide) rfl rfl ?_
          refine aw_up (X := fun q => ∀ I d, (∀ j, j < 64 → d j = if j < p * 8 + q then f_s (f_fw e y) y j else f_fw e y j) ∧ zCx e d r 12 I0 I → aw_W G mX2_addUp 83 [.ref 12, .int (nI y), .int (nI p), .int (nI (f_fw e y (8 * p + y))), .int (nI q), aw_x] [] (xH n I L c) (0, 0) _) (Nat.zero_le 8) (fun I d hh => ?_) (fun q _ hq ih I d hh => ?_) I d ⟨hd, hC⟩
          · obtain ⟨hd, hC⟩ := hh
            refine aw_iload_n dX2_addUp_83 rfl ?_
            refine aw_sipush (v := 1000) dX2_addUp_84 (by decide) ?_
            refine aw_ic_ge_n (a := f_fw e y (8 * p + y)) (b := 1000) (tgt := 150) dX2_addUp_87 (by decide) (by omega) (by omega) (fun c87 => ?_) (fun c87 => ?_)
            · refine aw_iinc_n (ls2 := [_, _, _, _, _, _]) dX2_addUp_150 rfl (by decide) rfl rfl ?_
              refine aw_goto (tgt := 62) dX2_addUp_153 (by decide) ?_
              exact aw_kill (j := 3) (ls2 := [_, _, _, aw_x, _, _]) rfl (aw_kill (j := 4) (ls2 := [_, _, _, _, aw_x, _]) rfl (aw_kill (j := 5) (ls2 := [_, _, _, _, _, aw_x]) rfl (ph I d ⟨fun j hj => by
                rw [hd j hj]
                by_cases hjq : j < p * 8 + 8
                · rw [if_pos hjq, if_pos (by omega)]
                · rw [if_neg hjq]
                  by_cases hjp : j < (p + 1) * 8
                  · rw [if_pos hjp, f_s, if_neg]
                    have h1 := hF y j (by omega) hj
                    rw [show j / 8 = p by omega]
                    omega
                  · rw [if_neg hjp], hC⟩)))
            · refine aw_iload dX2_addUp_90 rfl ?_
              refine aw_bipush (v := 8) dX2_addUp_92 (by decide) ?_
              refine aw_ic_ge_n (a := 8) (b := 8) (tgt := 150) dX2_addUp_94 (by decide) (by omega) (by omega) (fun c94 => ?_) (fun z => absurd z (by omega))
              refine aw_iinc_n (ls2 := [_, _, _, _, _, _]) dX2_addUp_150 rfl (by decide) rfl rfl ?_
              refine aw_goto (tgt := 62) dX2_addUp_153 (by decide) ?_
              exact aw_kill (j := 3) (ls2 := [_, _, _, aw_x, _, _]) rfl (aw_kill (j := 4) (ls2 := [_, _, _, _, aw_x, _]) rfl (aw_kill (j := 5) (ls2 := [_, _, _, _, _, aw_x]) rfl (ph I d ⟨fun j hj => by rw [hd j hj, show (p + 1) * 8 = p * 8 + 8 by omega], hC⟩)))
          · obtain ⟨hd, hC⟩ := hh
            have hyq : d (y * 8 + q) = f_fw e y (8 * y + q) := by
              rw [hd _ (by omega), Nat.mul_comm y 8]
              split
              · exact f_s_col (by omega) (f_fw_diag (by omega)) (by omega)
              · rfl
            have hpq : d (p * 8 + q) = f_fw e y (8 * p + q) := by rw [hd _ (by omega), if_neg (by omega), Nat.mul_comm p 8]
            have hb1 := hF y (8 * y + q) (by omega) (by omega)
            have hb2 := hF y (8 * p + q) (by omega) (by omega)
            refine aw_iload_n dX2_addUp_83 rfl ?_
            refine aw_sipush (v := 1000) dX2_addUp_84 (by decide) ?_
            refine aw_ic_ge_n (a := f_fw e y (8 * p + y)) (b := 1000) (tgt := 150) dX2_addUp_87 (by decide) (by omega) (by omega) (fun c87 => ?_) (fun c87 => ?_)
            · refine aw_iinc_n (ls2 := [_, _, _, _, _, _]) dX2_addUp_150 rfl (by decide) rfl rfl ?_
              refine aw_goto (tgt := 62) dX2_addUp_153 (by decide) ?_
              exact aw_kill (j := 3) (ls2 := [_, _, _, aw_x, _, _]) rfl (aw_kill (j := 4) (ls2 := [_, _, _, _, aw_x, _]) rfl (aw_kill (j := 5) (ls2 := [_, _, _, _, _, aw_x]) rfl (ph I d ⟨fun j hj => by
                rw [hd j hj]
                by_cases hjq : j < p * 8 + q
                · rw [if_pos hjq, if_pos (by omega)]
                · rw [if_neg hjq]
                  by_cases hjp : j < (p + 1) * 8
                  · rw [if_pos hjp, f_s, if_neg]
                    have h1 := hF y j (by omega) hj
                    rw [show j / 8 = p by omega]
                    omega
                  · rw [if_neg hjp], hC⟩)))
            · refine aw_iload dX2_addUp_90 rfl ?_
              refine aw_bipush (v := 8) dX2_addUp_92 (by decide) ?_
              refine aw_ic_ge_n (a := q) (b := 8) (tgt := 150) dX2_addUp_94 (by decide) (by omega) (by omega) (fun z => absurd z (by omega)) (fun c94 => ?_)
              refine aw_iload_n dX2_addUp_97 rfl ?_
              refine aw_aload_n dX2_addUp_98 rfl ?_
              refine aw_getR dX2_addUp_99 f2_15 rfl ⟨Nat.le_of_ble_eq_true rfl, Nat.le_of_ble_eq_true rfl⟩ rfl rfl ?_
              refine aw_iload_n dX2_addUp_102 rfl ?_
              refine aw_bipush (v := 8) dX2_addUp_103 (by decide) ?_
              refine aw_imul_n (a := y) (b := 8) dX2_addUp_105 ?_
              refine aw_iload dX2_addUp_106 rfl ?_
              refine aw_iadd_n (a := y * 8) (b := q) dX2_addUp_108 ?_
              refine aw_iald_n (j := (y * 8) + q) dX2_addUp_109 rfl (Nat.le_of_ble_eq_true rfl) (by decide) (by omega) ?_
              refine aw_top ((hC.1 ((y * 8) + q) (by omega)).2.1.trans (congrArg nI hyq)) ?_
              refine aw_iadd_n (a := f_fw e y (8 * p + y)) (b := f_fw e y (8 * y + q)) dX2_addUp_110 ?_
              refine aw_istore (ls2 := [_, _, _, _, _, _]) dX2_addUp_111 (by decide) rfl rfl ?_
              refine aw_iload dX2_addUp_113 rfl ?_
              refine aw_aload_n dX2_addUp_115 rfl ?_
              refine aw_getR dX2_addUp_116 f2_15 rfl ⟨Nat.le_of_ble_eq_true rfl, Nat.le_of_ble_eq_true rfl⟩ rfl rfl ?_
              refine aw_iload_n dX2_addUp_119 rfl ?_
              refine aw_bipush (v := 8) dX2_addUp_120 (by decide) ?_
              refine aw_imul_n (a := p) (b := 8) dX2_addUp_122 ?_
              refine aw_iload dX2_addUp_123 rfl ?_
              refine aw_iadd_n (a := p * 8) (b := q) dX2_addUp_125 ?_
              refine aw_iald_n (j := (p * 8) + q) dX2_addUp_126 rfl (Nat.le_of_ble_eq_true rfl) (by decide) (by omega) ?_
              refine aw_top ((hC.1 ((p * 8) + q) (by omega)).2.1.trans (congrArg nI hpq)) ?_
              refine aw_ic_ge_n (a := (f_fw e y (8 * p + y)) + (f_fw e y (8 * y + q))) (b := f_fw e y (8 * p + q)) (tgt := 144) dX2_addUp_127 (by decide) (by omega) (by omega) (fun c127 => ?_) (fun c127 => ?_)
              · refine aw_iinc_n (ls2 := [_, _, _, _, _, _]) dX2_addUp_144 rfl (by decide) rfl rfl ?_
                refine aw_goto (tgt := 83) dX2_addUp_147 (by decide) ?_
                refine aw_kill (j := 5) (ls2 := [_, _, _, _, _, aw_x]) rfl ?_
                have hfs := f_s_at (d := f_fw e y) (k := y) (p := p) (q := q) (by omega)
                rw [if_neg (by omega)] at hfs
                refine ih I d ⟨fun j hj => ?_, hC⟩
                rw [hd j hj]
                by_cases hjq : j = p * 8 + q
                · rw [hjq, if_neg (by omega), if_pos (by omega), Nat.mul_comm p 8, hfs]
                · by_cases h2 : j < p * 8 + q
                  · rw [if_pos h2, if_pos (by omega)]
                  · rw [if_neg h2, if_neg (by omega)]
              · refine aw_aload_n dX2_addUp_130 rfl ?_
                refine aw_getR dX2_addUp_131 f2_15 rfl ⟨Nat.le_of_ble_eq_true rfl, Nat.le_of_ble_eq_true rfl⟩ rfl rfl ?_
                refine aw_iload_n dX2_addUp_134 rfl ?_
                refine aw_bipush (v := 8) dX2_addUp_135 (by decide) ?_
                refine aw_imul_n (a := p) (b := 8) dX2_addUp_137 ?_
                refine aw_iload dX2_addUp_138 rfl ?_
                refine aw_iadd_n (a := p * 8) (b := q) dX2_addUp_140 ?_
                refine aw_iload dX2_addUp_141 rfl ?_
                refine aw_iast_n (j := (p * 8) + q) dX2_addUp_143 rfl ⟨Nat.le_of_ble_eq_true rfl, Nat.le_of_ble_eq_true rfl⟩ (by decide) (by omega) ?_
                refine aw_iinc_n (ls2 := [_, _, _, _, _, _]) dX2_addUp_144 rfl (by decide) rfl rfl ?_
                refine aw_goto (tgt := 83) dX2_addUp_147 (by decide) ?_
                refine aw_kill (j := 5) (ls2 := [_, _, _, _, _, aw_x]) rfl ?_
                have hfs := f_s_at (d := f_fw e y) (k := y) (p := p) (q := q) (by omega)
                rw [if_pos (by omega)] at hfs
                refine ih _ _ ⟨fun j hj => ?_, hC.ud⟩
                by_cases hjq : j = p * 8 + q
                · rw [hjq, va_up_at, if_pos (by omega), Nat.mul_comm p 8, hfs]
                · rw [va_up_nat hjq, hd j hj]
                  by_cases h2 : j < p * 8 + q
                  · rw [if_pos h2, if_pos (by omega)]
                  · rw [if_neg h2, if_neg (by omega)]
      · rw [hd j hj, f_fw, f_d0]
        by_cases hj2 : j / 8 = j % 8
        · rw [if_pos ⟨hj2, by omega⟩, if_pos hj2]
        · rw [if_neg (fun z => hj2 z.1), if_neg hj2]
    · obtain ⟨hd, hC⟩ := hh
      refine aw_iload_n dX2_addUp_28 rfl ?_
      refine aw_bipush (v := 8) dX2_addUp_29 (by decide) ?_
      refine aw_ic_ge_n (a := p) (b := 8) (tgt := 52) dX2_addUp_31 (by decide) (by omega) (by omega) (fun z => absurd z (by omega)) (fun c31 => ?_)
      refine aw_aload_n dX2_addUp_34 rfl ?_
      refine aw_getR dX2_addUp_35 f2_15 rfl ⟨Nat.le_of_ble_eq_true rfl, Nat.le_of_ble_eq_true rfl⟩ rfl rfl ?_
      refine aw_iload_n dX2_addUp_38 rfl ?_
      refine aw_bipush (v := 8) dX2_addUp_39 (by decide) ?_
      refine aw_imul_n (a := p) (b := 8) dX2_addUp_41 ?_
      refine aw_iload_n dX2_addUp_42 rfl ?_
      refine aw_iadd_n (a := p * 8) (b := p) dX2_addUp_43 ?_
      refine aw_iconst (v := 0) dX2_addUp_44 rfl ?_
      refine aw_iast_n (j := (p * 8) + p) dX2_addUp_45 rfl ⟨Nat.le_of_ble_eq_true rfl, Nat.le_of_ble_eq_true rfl⟩ (by decide) (by omega) ?_
      refine aw_iinc_n (ls2 := [_, _, _, _, _, _]) dX2_addUp_46 rfl (by decide) rfl rfl ?_
      refine aw_goto (tgt := 28) dX2_addUp_49 (by decide) ?_
      refine ph _ _ ⟨fun j hj => ?_, hC.ud (i := p * 8 + p) (v := 0)⟩
      by_cases hjp : j = p * 8 + p
      · rw [hjp, va_up_at, if_pos (by omega)]
      · rw [va_up_nat hjp, hd j hj]
        by_cases h2 : j / 8 = j % 8 ∧ j / 8 < p
        · rw [if_pos h2, if_pos (by omega)]
        · rw [if_neg h2, if_neg (by omega)]
  · obtain ⟨hd, hC⟩ := hh
    refine aw_iload_n dX2_addUp_2 rfl ?_
    refine aw_bipush (v := 64) dX2_addUp_3 (by decide) ?_
    refine aw_ic_ge_n (a := i) (b := 64) (tgt := 26) dX2_addUp_5 (by decide) (by omega) (by omega) (fun z => absurd z (by omega)) (fun c5 => ?_)
    refine aw_aload_n dX2_addUp_8 rfl ?_
    refine aw_getR dX2_addUp_9 f2_15 rfl ⟨Nat.le_of_ble_eq_true rfl, Nat.le_of_ble_eq_true rfl⟩ rfl rfl ?_
    refine aw_iload_n dX2_addUp_12 rfl ?_
    refine aw_aload_n dX2_addUp_13 rfl ?_
    refine aw_getR dX2_addUp_14 f2_9 rfl ⟨Nat.le_of_ble_eq_true rfl, Nat.le_of_ble_eq_true rfl⟩ rfl rfl ?_
    refine aw_iload_n dX2_addUp_17 rfl ?_
    refine aw_iald_n (j := i) dX2_addUp_18 rfl (Nat.le_of_ble_eq_true rfl) (by decide) (by omega) ?_
    refine aw_top (hC.1 (i) (by omega)).1 ?_
    refine aw_iast_n (j := i) dX2_addUp_19 rfl ⟨Nat.le_of_ble_eq_true rfl, Nat.le_of_ble_eq_true rfl⟩ (by decide) (by omega) ?_
    refine aw_iinc_n (ls2 := [_, _, _, _, _, _]) dX2_addUp_20 rfl (by decide) rfl rfl ?_
    refine aw_goto (tgt := 2) dX2_addUp_23 (by decide) ?_
    refine ih _ _ ⟨fun j hj => ?_, hC.ud (i := i) (v := e i)⟩
    by_cases hji : j = i
    · rw [hji, va_up_at]
    · rw [va_up_nat hji, hd j (by omega)]
theorem xw_firstTurn12 (G : aw_G) {n c : Nat} {I I0 : Nat → Nat → Int32} {L : Nat → Nat → Int64} {e d r : Nat → Nat} {p g : Nat} (hC : zCx e d r 12 I0 I) (hp : p < 8) (hg : g < 8) (he : ∀ j, j < 64 → e j ≤ 1000) (hdb : ∀ j, j < 64 → d j ≤ 1000) : aw_Met G mX2_firstTurn [.ref 12, .int (nI p), .int (nI g)] (xH n I L c) (fun v h2 => v = some (.int (nI (f_ft e d p g) - 1)) ∧ h2 = xH n I L c) := by
  have hb0 := hdb (p * 8 + g) (by omega)
  have hmc : d (8 * p + g) = d (p * 8 + g) := by rw [Nat.mul_comm]
  refine aw_Met.of okX2_firstTurn (Nat.le_of_ble_eq_true rfl) ?_
  show aw_W G mX2_firstTurn 0 [.ref 12, .int (nI p), .int (nI g), aw_x, aw_x] [] (xH n I L c) (0, 0) _
  refine aw_aload_n dX2_firstTurn_0 rfl ?_
  refine aw_getR dX2_firstTurn_1 f2_15 rfl ⟨Nat.le_of_ble_eq_true rfl, Nat.le_of_ble_eq_true rfl⟩ rfl rfl ?_
  refine aw_iload_n dX2_firstTurn_4 rfl ?_
  refine aw_bipush (v := 8) dX2_firstTurn_5 (by decide) ?_
  refine aw_imul_n (a := p) (b := 8) dX2_firstTurn_7 ?_
  refine aw_iload_n dX2_firstTurn_8 rfl ?_
  refine aw_iadd_n (a := p * 8) (b := g) dX2_firstTurn_9 ?_
  refine aw_iald_n (j := (p * 8) + g) dX2_firstTurn_10 rfl (Nat.le_of_ble_eq_true rfl) (by decide) (by omega) ?_
  refine aw_top (hC.1 ((p * 8) + g) (by omega)).2.1 ?_
  refine aw_istore_n (ls2 := [_, _, _, _, _]) dX2_firstTurn_11 (by decide) rfl rfl ?_
  refine aw_iload_n dX2_firstTurn_12 rfl ?_
  refine aw_iload_n dX2_firstTurn_13 rfl ?_
  refine aw_ic_eq_n (a := p) (b := g) (tgt := 24) dX2_firstTurn_14 (by decide) (by omega) (by omega) (fun c14 => ?_) (fun c14 => ?_)
  · refine aw_iconst (v := -1) dX2_firstTurn_24 rfl ?_
    refine aw_reti dX2_firstTurn_25 rfl rfl ⟨Nat.le_of_ble_eq_true rfl, Nat.le_of_ble_eq_true rfl⟩ ?_
    refine ⟨?_, rfl⟩
    rw [f_ft, if_pos (by omega)]; rfl
  · refine aw_iload_n dX2_firstTurn_17 rfl ?_
    refine aw_sipush (v := 1000) dX2_firstTurn_18 (by decide) ?_
    refine aw_ic_lt_n (a := d ((p * 8) + g)) (b := 1000) (tgt := 26) dX2_firstTurn_21 (by decide) (by omega) (by omega) (fun c21 => ?_) (fun c21 => ?_)
    · refine aw_iconst (v := 0) dX2_firstTurn_26 rfl ?_
      refine aw_istore (ls2 := [_, _, _, _, _]) dX2_firstTurn_27 (by decide) rfl rfl ?_
      refine aw_up (X := fun q => zfst (fun q => decide (e (8 * p + q) + d (8 * q + g) = d (8 * p + g))) q = 0 → aw_W G mX2_firstTurn 29 [.ref 12, .int (nI p), .int (nI g), .int (nI (d (p * 8 + g))), .int (nI q)] [] (xH n I L c) (0, 0) _) (Nat.zero_le 8) (fun hz => ?_) (fun q _ hq ih hz => ?_) rfl
      · refine aw_iload dX2_firstTurn_29 rfl ?_
        refine aw_bipush (v := 8) dX2_firstTurn_31 (by decide) ?_
        refine aw_ic_ge_n (a := 8) (b := 8) (tgt := 74) dX2_firstTurn_33 (by decide) (by omega) (by omega) (fun c33 => ?_) (fun z => absurd z (by omega))
        refine aw_iconst (v := -1) dX2_firstTurn_74 rfl ?_
        refine aw_reti dX2_firstTurn_75 rfl rfl ⟨Nat.le_of_ble_eq_true rfl, Nat.le_of_ble_eq_true rfl⟩ ?_
        refine ⟨?_, rfl⟩
        rw [f_ft, if_neg (by omega), hz]; rfl
      · have hb1 := he (p * 8 + q) (by omega)
        have hb2 := hdb (q * 8 + g) (by omega)
        refine aw_iload dX2_firstTurn_29 rfl ?_
        refine aw_bipush (v := 8) dX2_firstTurn_31 (by decide) ?_
        refine aw_ic_ge_n (a := q) (b := 8) (tgt := 74) dX2_firstTurn_33 (by decide) (by omega) (by omega) (fun z => absurd z (by omega)) (fun c33 => ?_)
        refine aw_aload_n dX2_firstTurn_36 rfl ?_
        refine aw_getR dX2_firstTurn_37 f2_9 rfl ⟨Nat.le_of_ble_eq_true rfl, Nat.le_of_ble_eq_true rfl⟩ rfl rfl ?_
        refine aw_iload_n dX2_firstTurn_40 rfl ?_
        refine aw_bipush (v := 8) dX2_firstTurn_41 (by decide) ?_
        refine aw_imul_n (a := p) (b := 8) dX2_firstTurn_43 ?_
        refine aw_iload dX2_firstTurn_44 rfl ?_
        refine aw_iadd_n (a := p * 8) (b := q) dX2_firstTurn_46 ?_
        refine aw_iald_n (j := (p * 8) + q) dX2_firstTurn_47 rfl (Nat.le_of_ble_eq_true rfl) (by decide) (by omega) ?_
        refine aw_top (hC.1 ((p * 8) + q) (by omega)).1 ?_
        refine aw_aload_n dX2_firstTurn_48 rfl ?_
        refine aw_getR dX2_firstTurn_49 f2_15 rfl ⟨Nat.le_of_ble_eq_true rfl, Nat.le_of_ble_eq_true rfl⟩ rfl rfl ?_
        refine aw_iload dX2_firstTurn_52 rfl ?_
        refine aw_bipush (v := 8) dX2_firstTurn_54 (by decide) ?_
        refine aw_imul_n (a := q) (b := 8) dX2_firstTurn_56 ?_
        refine aw_iload_n dX2_firstTurn_57 rfl ?_
        refine aw_iadd_n (a := q * 8) (b := g) dX2_firstTurn_58 ?_
        refine aw_iald_n (j := (q * 8) + g) dX2_firstTurn_59 rfl (Nat.le_of_ble_eq_true rfl) (by decide) (by omega) ?_
        refine aw_top (hC.1 ((q * 8) + g) (by omega)).2.1 ?_
        refine aw_iadd_n (a := e ((p * 8) + q)) (b := d ((q * 8) + g)) dX2_firstTurn_60 ?_
        refine aw_iload_n dX2_firstTurn_61 rfl ?_
        refine aw_ic_ne_n (a := (e ((p * 8) + q)) + (d ((q * 8) + g))) (b := d (p * 8 + g)) (tgt := 68) dX2_firstTurn_62 (by decide) (by omega) (by omega) (fun c62 => ?_) (fun c62 => ?_)
        · refine aw_iinc_n (ls2 := [_, _, _, _, _]) dX2_firstTurn_68 rfl (by decide) rfl rfl ?_
          refine aw_goto (tgt := 29) dX2_firstTurn_71 (by decide) ?_
          refine ih ?_
          rw [zfst, hz, if_neg (fun z => z rfl), if_neg]
          rw [decide_eq_true_eq, Nat.mul_comm 8 p, Nat.mul_comm 8 q]; exact c62
        · refine aw_iload dX2_firstTurn_65 rfl ?_
          refine aw_reti dX2_firstTurn_67 rfl rfl ⟨Nat.le_of_ble_eq_true rfl, Nat.le_of_ble_eq_true rfl⟩ ?_
          refine ⟨?_, rfl⟩
          have h1 : zfst (fun q => decide (e (8 * p + q) + d (8 * q + g) = d (8 * p + g))) (q + 1) = q + 1 := by
            rw [zfst, hz, if_neg (fun z => z rfl), if_pos]
            rw [decide_eq_true_eq, Nat.mul_comm 8 p, Nat.mul_comm 8 q]; exact c62
          have h2 : zfst (fun q => decide (e (8 * p + q) + d (8 * q + g) = d (8 * p + g))) 8 = q + 1 := zfst_st h1 (by omega)
          rw [f_ft, if_neg (by omega), h2]
          exact congrArg (fun z => some (Value.int z)) (nI_pred q).symm
    · refine aw_iconst (v := -1) dX2_firstTurn_24 rfl ?_
      refine aw_reti dX2_firstTurn_25 rfl rfl ⟨Nat.le_of_ble_eq_true rfl, Nat.le_of_ble_eq_true rfl⟩ ?_
      refine ⟨?_, rfl⟩
      rw [f_ft, if_pos (by omega)]; rfl
theorem xw_fill12 (G : aw_G) {n c : Nat} {I : Nat → Nat → Int32} {L : Nat → Nat → Int64} {b : Nat → Nat} {l lv : Nat} (hT : zTxW b l I) (hlv : lv < 100000) : aw_Met G mX2_fill [.ref 12, .ref 4, .int (nI lv - 1)] (xH n I L c) (fun v h2 => v = none ∧ ∃ I2, h2 = xH n I2 L c ∧ zCx (f_x (f_lv (v_w b) lv) (q_k (q_w b) 5 l) 0) (f_x (f_lv (v_w b) lv) (q_k (q_w b) 5 l) 1) (f_x (f_lv (v_w b) lv) (q_k (q_w b) 5 l) 2) 12 I I2) := by
  refine aw_Met.of okX2_fill (Nat.le_of_ble_eq_true rfl) ?_
  show aw_W G mX2_fill 0 [.ref 12, .ref 4, .int (nI lv - 1), aw_x, aw_x, aw_x, aw_x, aw_x] [] (xH n I L c) (0, 0) _
  refine aw_iconst (v := 0) dX2_fill_0 rfl ?_
  refine aw_istore_n (ls2 := [_, _, _, _, _, _, _, _]) dX2_fill_1 (by decide) rfl rfl ?_
  obtain ⟨e, d, r, hC⟩ := zCx.any 12 I
  obtain ⟨I0, hI0⟩ : ∃ I0, I0 = I := ⟨_, rfl⟩
  rw [← hI0] at hT ⊢
  have hC : zCx e d r 12 I0 I := by rw [hI0]; exact hC
  have hkl := q_k_leW (b := b) hT.1.2.2.2.2
  rw [show xH n I0 L c = xH n I L c by rw [hI0]]
  refine aw_up (X := fun i => ∀ I e, (∀ j, j < i → e j = 1000) ∧ zCx e d r 12 I0 I → aw_W G mX2_fill 2 [.ref 12, .ref 4, .int (nI lv - 1), .int (nI i), aw_x, aw_x, aw_x, aw_x] [] (xH n I L c) (0, 0) _) (Nat.zero_le 64) (fun I e hh => ?_) (fun i _ hi ih I e hh => ?_) I e ⟨fun j hj => absurd hj (by omega), hC⟩
  · obtain ⟨he, hC⟩ := hh
    refine aw_iload_n dX2_fill_2 rfl ?_
    refine aw_bipush (v := 64) dX2_fill_3 (by decide) ?_
    refine aw_ic_ge_n (a := 64) (b := 64) (tgt := 23) dX2_fill_5 (by decide) (by omega) (by omega) (fun c5 => ?_) (fun z => absurd z (by omega))
    refine aw_iconst (v := 0) dX2_fill_23 rfl ?_
    refine aw_istore_n (ls2 := [_, _, _, _, _, _, _, _]) dX2_fill_24 (by decide) rfl rfl ?_
    refine aw_up (X := fun w => ∀ I, zCx (f_e 1000 (f_lv (v_w b) lv) w) d r 12 I0 I → aw_W G mX2_fill 25 [.ref 12, .ref 4, .int (nI lv - 1), .int (nI w), aw_x, aw_x, aw_x, aw_x] [] (xH n I L c) (0, 0) _) (Nat.zero_le (q_k (q_w b) 5 l)) (fun I hC => ?_) (fun w _ hw ih I hC => ?_) I (hC.cg he (fun _ _ => rfl) (fun _ _ => rfl))
    · obtain ⟨E, hEd⟩ : ∃ E, E = f_e 1000 (f_lv (v_w b) lv) (q_k (q_w b) 5 l) := ⟨_, rfl⟩
      rw [← hEd] at hC
      have hR0 := f_e_R (f_lv_ok (lv := lv) (v_w_ok (b := b) (l := l)))
      have hE : ∀ j, j < 64 → E j ≤ 1000 := fun j _ => by rw [hEd]; exact f_e_le j
      have hFF : ∀ k j, k ≤ 8 → j < 64 → f_fw E k j ≤ 1000 := fun k j hk hj => by
        have := (hR0.1.fw hR0.2 hk) j hj
        rw [← hEd] at this
        omega
      refine aw_iload_n dX2_fill_25 rfl ?_
      refine aw_aload_n dX2_fill_26 rfl ?_
      refine aw_getI dX2_fill_27 f2_21 rfl ⟨Nat.le_of_ble_eq_true rfl, Nat.le_of_ble_eq_true rfl⟩ rfl ?_
      refine aw_top (hT.mv (hC.2 1 (by omega)) (hC.2 5 (by omega)) (hC.2 4 (by omega))).2.2 ?_
      refine aw_ic_ge_n (a := q_k (q_w b) 5 l) (b := q_k (q_w b) 5 l) (tgt := 118) dX2_fill_30 (by decide) (by omega) (by omega) (fun c30 => ?_) (fun z => absurd z (by omega))
      refine aw_aload_n dX2_fill_118 rfl ?_
      refine aw_V0c (As := []) dX2_fill_119 k2_35 rfl rfl rfl ⟨Nat.le_of_ble_eq_true rfl, Nat.le_of_ble_eq_true rfl⟩ (Nat.le_of_ble_eq_true rfl) ⟨⟨Nat.le_of_ble_eq_true rfl, Nat.le_of_ble_eq_true rfl⟩, ⟨Nat.le_of_ble_eq_true rfl, Nat.le_of_ble_eq_true rfl⟩⟩ ⟨rfl, rfl⟩ (xw_addUp12 G hC hE hFF) (fun v h2 hq => ?_)
      obtain ⟨rfl, I2, rfl, hC2⟩ := hq
      obtain ⟨D, hDd⟩ : ∃ D, D = f_fw E 8 := ⟨_, rfl⟩
      rw [← hDd] at hC2
      have hD : ∀ j, j < 64 → D j ≤ 1000 := fun j hj => by rw [hDd]; exact hFF 8 j (by omega) hj
      refine aw_iconst (v := 0) dX2_fill_122 rfl ?_
      refine aw_istore_n (ls2 := [_, _, _, _, _, _, _, _]) dX2_fill_123 (by decide) rfl rfl ?_
      refine aw_up (X := fun p => ∀ I r, (∀ j, j < p * 8 → r j = f_ft E D (j / 8) (j % 8)) ∧ zCx E D r 12 I0 I → aw_W G mX2_fill 124 [.ref 12, .ref 4, .int (nI lv - 1), .int (nI p), aw_x, aw_x, aw_x, aw_x] [] (xH n I L c) (0, 0) _) (Nat.zero_le 8) (fun I r hh => ?_) (fun p _ hp ph I r hh => ?_) I2 r ⟨fun j hj => absurd hj (by omega), hC2⟩
      · obtain ⟨hr, hC⟩ := hh
        refine aw_iload_n dX2_fill_124 rfl ?_
        refine aw_bipush (v := 8) dX2_fill_125 (by decide) ?_
        refine aw_ic_ge_n (a := 8) (b := 8) (tgt := 171) dX2_fill_127 (by decide) (by omega) (by omega) (fun c127 => ?_) (fun z => absurd z (by omega))
        refine aw_ret0 dX2_fill_171 rfl ⟨Nat.le_of_ble_eq_true rfl, Nat.le_of_ble_eq_true rfl⟩ ?_
        refine ⟨rfl, _, rfl, hC.cg (fun j _ => ?_) (fun j _ => ?_) (fun j hj => ?_)⟩
        · rw [f_x0, hEd]
        · rw [f_x1, hDd, hEd]
        · rw [hr j hj, f_x2, hDd, hEd]
      · obtain ⟨hr, hC⟩ := hh
        refine aw_iload_n dX2_fill_124 rfl ?_
        refine aw_bipush (v := 8) dX2_fill_125 (by decide) ?_
        refine aw_ic_ge_n (a := p) (b := 8) (tgt := 171) dX2_fill_127 (by decide) (by omega) (by omega) (fun z => absurd z (by omega)) (fun c127 => ?_)
        refine aw_iconst (v := 0) dX2_fill_130 rfl ?_
        refine aw_istore (ls2 := [_, _, _, _, _, _, _, _]) dX2_fill_131 (by decide) rfl rfl ?_
        refine aw_up (X := fun q => ∀ I r, (∀ j, j < p * 8 + q → r j = f_ft E D (j / 8) (j % 8)) ∧ zCx E D r 12 I0 I → aw_W G mX2_fill 133 [.ref 12, .ref 4, .int (nI lv - 1), .int (nI p), .int (nI q), aw_x, aw_x, aw_x] [] (xH n I L c) (0, 0) _) (Nat.zero_le 8) (fun I r hh => ?_) (fun q _ hq ih I r hh => ?_) I r ⟨fun j hj => hr j (by omega), hC⟩
        · obtain ⟨hr, hC⟩ := hh
          refine aw_iload dX2_fill_133 rfl ?_
          refine aw_bipush (v := 8) dX2_fill_135 (by decide) ?_
          refine aw_ic_ge_n (a := 8) (b := 8) (tgt := 165) dX2_fill_137 (by decide) (by omega) (by omega) (fun c137 => ?_) (fun z => absurd z (by omega))
          refine aw_iinc_n (ls2 := [_, _, _, _, _, _, _, _]) dX2_fill_165 rfl (by decide) rfl rfl ?_
          refine aw_goto (tgt := 124) dX2_fill_168 (by decide) ?_
          exact aw_kill (j := 4) (ls2 := [_, _, _, _, aw_x, _, _, _]) rfl (ph I r ⟨fun j hj => hr j (by omega), hC⟩)
        · obtain ⟨hr, hC⟩ := hh
          refine aw_iload dX2_fill_133 rfl ?_
          refine aw_bipush (v := 8) dX2_fill_135 (by decide) ?_
          refine aw_ic_ge_n (a := q) (b := 8) (tgt := 165) dX2_fill_137 (by decide) (by omega) (by omega) (fun z => absurd z (by omega)) (fun c137 => ?_)
          refine aw_aload_n dX2_fill_140 rfl ?_
          refine aw_getR dX2_fill_141 f2_18 rfl ⟨Nat.le_of_ble_eq_true rfl, Nat.le_of_ble_eq_true rfl⟩ rfl rfl ?_
          refine aw_iload_n dX2_fill_144 rfl ?_
          refine aw_bipush (v := 8) dX2_fill_145 (by decide) ?_
          refine aw_imul_n (a := p) (b := 8) dX2_fill_147 ?_
          refine aw_iload dX2_fill_148 rfl ?_
          refine aw_iadd_n (a := p * 8) (b := q) dX2_fill_150 ?_
          refine aw_aload_n dX2_fill_151 rfl ?_
          refine aw_iload_n dX2_fill_152 rfl ?_
          refine aw_iload dX2_fill_153 rfl ?_
          refine aw_V0c (As := [_, _]) dX2_fill_155 k2_38 rfl rfl rfl ⟨Nat.le_of_ble_eq_true rfl, Nat.le_of_ble_eq_true rfl⟩ (Nat.le_of_ble_eq_true rfl) ⟨⟨Nat.le_of_ble_eq_true rfl, Nat.le_of_ble_eq_true rfl⟩, ⟨Nat.le_of_ble_eq_true rfl, Nat.le_of_ble_eq_true rfl⟩⟩ ⟨rfl, rfl⟩ (xw_firstTurn12 G hC hp hq (fun j hj => hE j hj) (fun j hj => hD j hj)) (fun v h2 hq => ?_)
          obtain ⟨rfl, rfl⟩ := hq
          refine aw_iast_n (j := (p * 8) + q) dX2_fill_158 rfl ⟨Nat.le_of_ble_eq_true rfl, Nat.le_of_ble_eq_true rfl⟩ (by decide) (by omega) ?_
          refine aw_iinc_n (ls2 := [_, _, _, _, _, _, _, _]) dX2_fill_159 rfl (by decide) rfl rfl ?_
          refine aw_goto (tgt := 133) dX2_fill_162 (by decide) ?_
          refine ih _ _ ⟨fun j hj => ?_, hC.ur (i := p * 8 + q) (v := f_ft E D p q)⟩
          by_cases hjq : j = p * 8 + q
          · rw [hjq, va_up_at, show (p * 8 + q) / 8 = p by omega, show (p * 8 + q) % 8 = q by omega]
          · rw [va_up_nat hjq]; exact hr j (by omega)
    · have hv := v_w_ok (b := b) (l := l) w hw
      by_cases c35 : w + 1 = lv
      · refine aw_iload_n dX2_fill_25 rfl ?_
        refine aw_aload_n dX2_fill_26 rfl ?_
        refine aw_getI dX2_fill_27 f2_21 rfl ⟨Nat.le_of_ble_eq_true rfl, Nat.le_of_ble_eq_true rfl⟩ rfl ?_
        refine aw_top (hT.mv (hC.2 1 (by omega)) (hC.2 5 (by omega)) (hC.2 4 (by omega))).2.2 ?_
        refine aw_ic_ge_n (a := w) (b := q_k (q_w b) 5 l) (tgt := 118) dX2_fill_30 (by decide) (by omega) (by omega) (fun z => absurd z (by omega)) (fun c30 => ?_)
        refine aw_iload_n dX2_fill_33 rfl ?_
        refine aw_iload_n dX2_fill_34 rfl ?_
        refine aw_snd (show _ = nI (w + 1) - 1 from (nI_pred w).symm) ?_
        refine aw_ic_ne_p (a := w + 1) (b := lv) (tgt := 42) dX2_fill_35 (by decide) (by omega) (by omega) (fun z => absurd z (not_not_intro c35)) (fun c35 => ?_)
        refine aw_iconst (v := 1) dX2_fill_38 rfl ?_
        refine aw_goto (tgt := 48) dX2_fill_39 (by decide) ?_
        refine aw_istore (ls2 := [_, _, _, _, _, _, _, _]) dX2_fill_48 (by decide) rfl rfl ?_
        refine aw_aload_n dX2_fill_50 rfl ?_
        refine aw_iload_n dX2_fill_51 rfl ?_
        refine aw_iconst (v := 0) dX2_fill_52 rfl ?_
        refine aw_V0c (As := [_, _]) dX2_fill_53 k2_27 rfl rfl rfl ⟨Nat.le_of_ble_eq_true rfl, Nat.le_of_ble_eq_true rfl⟩ (Nat.le_of_ble_eq_true rfl) ⟨⟨Nat.le_of_ble_eq_true rfl, Nat.le_of_ble_eq_true rfl⟩, ⟨Nat.le_of_ble_eq_true rfl, Nat.le_of_ble_eq_true rfl⟩⟩ ⟨rfl, rfl⟩ (xw_numW G (hT.mv (hC.2 1 (by omega)) (hC.2 5 (by omega)) (hC.2 4 (by omega))).1 hw (show 0 < 4 by decide)) (fun v h2 hq => ?_)
        obtain ⟨rfl, rfl⟩ := hq
        refine aw_istore (ls2 := [_, _, _, _, _, _, _, _]) dX2_fill_56 (by decide) rfl rfl ?_
        refine aw_aload_n dX2_fill_58 rfl ?_
        refine aw_iload_n dX2_fill_59 rfl ?_
        refine aw_iconst (v := 1) dX2_fill_60 rfl ?_
        refine aw_V0c (As := [_, _]) dX2_fill_61 k2_27 rfl rfl rfl ⟨Nat.le_of_ble_eq_true rfl, Nat.le_of_ble_eq_true rfl⟩ (Nat.le_of_ble_eq_true rfl) ⟨⟨Nat.le_of_ble_eq_true rfl, Nat.le_of_ble_eq_true rfl⟩, ⟨Nat.le_of_ble_eq_true rfl, Nat.le_of_ble_eq_true rfl⟩⟩ ⟨rfl, rfl⟩ (xw_numW G (hT.mv (hC.2 1 (by omega)) (hC.2 5 (by omega)) (hC.2 4 (by omega))).1 hw (show 1 < 4 by decide)) (fun v h2 hq => ?_)
        obtain ⟨rfl, rfl⟩ := hq
        refine aw_istore (ls2 := [_, _, _, _, _, _, _, _]) dX2_fill_64 (by decide) rfl rfl ?_
        refine aw_aload_n dX2_fill_66 rfl ?_
        refine aw_iload_n dX2_fill_67 rfl ?_
        refine aw_iconst (v := 2) dX2_fill_68 rfl ?_
        refine aw_V0c (As := [_, _]) dX2_fill_69 k2_27 rfl rfl rfl ⟨Nat.le_of_ble_eq_true rfl, Nat.le_of_ble_eq_true rfl⟩ (Nat.le_of_ble_eq_true rfl) ⟨⟨Nat.le_of_ble_eq_true rfl, Nat.le_of_ble_eq_true rfl⟩, ⟨Nat.le_of_ble_eq_true rfl, Nat.le_of_ble_eq_true rfl⟩⟩ ⟨rfl, rfl⟩ (xw_numW G (hT.mv (hC.2 1 (by omega)) (hC.2 5 (by omega)) (hC.2 4 (by omega))).1 hw (show 2 < 4 by decide)) (fun v h2 hq => ?_)
        obtain ⟨rfl, rfl⟩ := hq
        refine aw_istore (ls2 := [_, _, _, _, _, _, _, _]) dX2_fill_72 (by decide) rfl rfl ?_
        have hlen := f_len (l := v_w b w 2) (s := 1) ⟨hv.2.2.2.1, hv.2.2.2.2.1⟩ (by decide)
        refine aw_aload_n dX2_fill_74 rfl ?_
        refine aw_iload dX2_fill_75 rfl ?_
        refine aw_bipush (v := 8) dX2_fill_77 (by decide) ?_
        refine aw_imul_n (a := v_w b w 0) (b := 8) dX2_fill_79 ?_
        refine aw_iload dX2_fill_80 rfl ?_
        refine aw_iadd_n (a := (v_w b w 0) * 8) (b := v_w b w 1) dX2_fill_82 ?_
        refine aw_iload dX2_fill_83 rfl ?_
        refine aw_iconst (v := 3) dX2_fill_85 rfl ?_
        refine aw_iload dX2_fill_86 rfl ?_
        refine aw_isub_n (a := 3) (b := 1) dX2_fill_88 (by omega) ?_
        refine aw_imul_n (a := v_w b w 2) (b := 3 - 1) dX2_fill_89 ?_
        refine aw_V0c (As := [_, _]) dX2_fill_90 k2_31 rfl rfl rfl ⟨Nat.le_of_ble_eq_true rfl, Nat.le_of_ble_eq_true rfl⟩ (Nat.le_of_ble_eq_true rfl) ⟨⟨Nat.le_of_ble_eq_true rfl, Nat.le_of_ble_eq_true rfl⟩, ⟨Nat.le_of_ble_eq_true rfl, Nat.le_of_ble_eq_true rfl⟩⟩ ⟨rfl, rfl⟩ (xw_shorten12 G hC (by omega) (by have := f_e_le (X := 1000) (V := f_lv (v_w b) lv) (n := w) (v_w b w 0 * 8 + v_w b w 1); omega) (by omega)) (fun v h2 hq => ?_)
        obtain ⟨rfl, I1, rfl, hC1⟩ := hq
        refine aw_aload_n dX2_fill_93 rfl ?_
        refine aw_iload dX2_fill_94 rfl ?_
        refine aw_bipush (v := 8) dX2_fill_96 (by decide) ?_
        refine aw_imul_n (a := v_w b w 1) (b := 8) dX2_fill_98 ?_
        refine aw_iload dX2_fill_99 rfl ?_
        refine aw_iadd_n (a := (v_w b w 1) * 8) (b := v_w b w 0) dX2_fill_101 ?_
        refine aw_iload dX2_fill_102 rfl ?_
        refine aw_iconst (v := 1) dX2_fill_104 rfl ?_
        refine aw_iload dX2_fill_105 rfl ?_
        refine aw_iadd_n (a := 1) (b := 1) dX2_fill_107 ?_
        refine aw_imul_n (a := v_w b w 2) (b := 1 + 1) dX2_fill_108 ?_
        refine aw_V0c (As := [_, _]) dX2_fill_109 k2_31 rfl rfl rfl ⟨Nat.le_of_ble_eq_true rfl, Nat.le_of_ble_eq_true rfl⟩ (Nat.le_of_ble_eq_true rfl) ⟨⟨Nat.le_of_ble_eq_true rfl, Nat.le_of_ble_eq_true rfl⟩, ⟨Nat.le_of_ble_eq_true rfl, Nat.le_of_ble_eq_true rfl⟩⟩ ⟨rfl, rfl⟩ (xw_shorten12 G hC1 (by omega) (by have := f_put_le (z := f_e 1000 (f_lv (v_w b) lv) w) (i := v_w b w 0 * 8 + v_w b w 1) (v := (v_w b w 2) * (3 - 1)) (fun j => f_e_le j) (v_w b w 1 * 8 + v_w b w 0); omega) (by omega)) (fun v h2 hq => ?_)
        obtain ⟨rfl, I1, rfl, hC1⟩ := hq
        refine aw_iinc_n (ls2 := [_, _, _, _, _, _, _, _]) dX2_fill_112 rfl (by decide) rfl rfl ?_
        refine aw_goto (tgt := 25) dX2_fill_115 (by decide) ?_
        refine aw_kill (j := 4) (ls2 := [_, _, _, _, aw_x, _, _, _]) rfl (aw_kill (j := 5) (ls2 := [_, _, _, _, _, aw_x, _, _]) rfl (aw_kill (j := 6) (ls2 := [_, _, _, _, _, _, aw_x, _]) rfl (aw_kill (j := 7) (ls2 := [_, _, _, _, _, _, _, aw_x]) rfl (ih _ ?_))))
        rw [f_e, f_lv_n (by decide), f_lv_n (by decide), f_lv_n (by decide), Nat.mul_comm 8, Nat.mul_comm 8, show f_lv (v_w b) lv w 3 = 1 by rw [f_lv, if_pos ⟨rfl, c35⟩]]
        exact hC1
      · refine aw_iload_n dX2_fill_25 rfl ?_
        refine aw_aload_n dX2_fill_26 rfl ?_
        refine aw_getI dX2_fill_27 f2_21 rfl ⟨Nat.le_of_ble_eq_true rfl, Nat.le_of_ble_eq_true rfl⟩ rfl ?_
        refine aw_top (hT.mv (hC.2 1 (by omega)) (hC.2 5 (by omega)) (hC.2 4 (by omega))).2.2 ?_
        refine aw_ic_ge_n (a := w) (b := q_k (q_w b) 5 l) (tgt := 118) dX2_fill_30 (by decide) (by omega) (by omega) (fun z => absurd z (by omega)) (fun c30 => ?_)
        refine aw_iload_n dX2_fill_33 rfl ?_
        refine aw_iload_n dX2_fill_34 rfl ?_
        refine aw_snd (show _ = nI (w + 1) - 1 from (nI_pred w).symm) ?_
        refine aw_ic_ne_p (a := w + 1) (b := lv) (tgt := 42) dX2_fill_35 (by decide) (by omega) (by omega) (fun c35 => ?_) (fun z => absurd z c35)
        refine aw_aload_n dX2_fill_42 rfl ?_
        refine aw_iload_n dX2_fill_43 rfl ?_
        refine aw_iconst (v := 3) dX2_fill_44 rfl ?_
        refine aw_V0c (As := [_, _]) dX2_fill_45 k2_27 rfl rfl rfl ⟨Nat.le_of_ble_eq_true rfl, Nat.le_of_ble_eq_true rfl⟩ (Nat.le_of_ble_eq_true rfl) ⟨⟨Nat.le_of_ble_eq_true rfl, Nat.le_of_ble_eq_true rfl⟩, ⟨Nat.le_of_ble_eq_true rfl, Nat.le_of_ble_eq_true rfl⟩⟩ ⟨rfl, rfl⟩ (xw_numW G (hT.mv (hC.2 1 (by omega)) (hC.2 5 (by omega)) (hC.2 4 (by omega))).1 hw (show 3 < 4 by decide)) (fun v h2 hq => ?_)
        obtain ⟨rfl, rfl⟩ := hq
        refine aw_istore (ls2 := [_, _, _, _, _, _, _, _]) dX2_fill_48 (by decide) rfl rfl ?_
        refine aw_aload_n dX2_fill_50 rfl ?_
        refine aw_iload_n dX2_fill_51 rfl ?_
        refine aw_iconst (v := 0) dX2_fill_52 rfl ?_
        refine aw_V0c (As := [_, _]) dX2_fill_53 k2_27 rfl rfl rfl ⟨Nat.le_of_ble_eq_true rfl, Nat.le_of_ble_eq_true rfl⟩ (Nat.le_of_ble_eq_true rfl) ⟨⟨Nat.le_of_ble_eq_true rfl, Nat.le_of_ble_eq_true rfl⟩, ⟨Nat.le_of_ble_eq_true rfl, Nat.le_of_ble_eq_true rfl⟩⟩ ⟨rfl, rfl⟩ (xw_numW G (hT.mv (hC.2 1 (by omega)) (hC.2 5 (by omega)) (hC.2 4 (by omega))).1 hw (show 0 < 4 by decide)) (fun v h2 hq => ?_)
        obtain ⟨rfl, rfl⟩ := hq
        refine aw_istore (ls2 := [_, _, _, _, _, _, _, _]) dX2_fill_56 (by decide) rfl rfl ?_
        refine aw_aload_n dX2_fill_58 rfl ?_
        refine aw_iload_n dX2_fill_59 rfl ?_
        refine aw_iconst (v := 1) dX2_fill_60 rfl ?_
        refine aw_V0c (As := [_, _]) dX2_fill_61 k2_27 rfl rfl rfl ⟨Nat.le_of_ble_eq_true rfl, Nat.le_of_ble_eq_true rfl⟩ (Nat.le_of_ble_eq_true rfl) ⟨⟨Nat.le_of_ble_eq_true rfl, Nat.le_of_ble_eq_true rfl⟩, ⟨Nat.le_of_ble_eq_true rfl, Nat.le_of_ble_eq_true rfl⟩⟩ ⟨rfl, rfl⟩ (xw_numW G (hT.mv (hC.2 1 (by omega)) (hC.2 5 (by omega)) (hC.2 4 (by omega))).1 hw (show 1 < 4 by decide)) (fun v h2 hq => ?_)
        obtain ⟨rfl, rfl⟩ := hq
        refine aw_istore (ls2 := [_, _, _, _, _, _, _, _]) dX2_fill_64 (by decide) rfl rfl ?_
        refine aw_aload_n dX2_fill_66 rfl ?_
        refine aw_iload_n dX2_fill_67 rfl ?_
        refine aw_iconst (v := 2) dX2_fill_68 rfl ?_
        refine aw_V0c (As := [_, _]) dX2_fill_69 k2_27 rfl rfl rfl ⟨Nat.le_of_ble_eq_true rfl, Nat.le_of_ble_eq_true rfl⟩ (Nat.le_of_ble_eq_true rfl) ⟨⟨Nat.le_of_ble_eq_true rfl, Nat.le_of_ble_eq_true rfl⟩, ⟨Nat.le_of_ble_eq_true rfl, Nat.le_of_ble_eq_true rfl⟩⟩ ⟨rfl, rfl⟩ (xw_numW G (hT.mv (hC.2 1 (by omega)) (hC.2 5 (by omega)) (hC.2 4 (by omega))).1 hw (show 2 < 4 by decide)) (fun v h2 hq => ?_)
        obtain ⟨rfl, rfl⟩ := hq
        refine aw_istore (ls2 := [_, _, _, _, _, _, _, _]) dX2_fill_72 (by decide) rfl rfl ?_
        have hlen := f_len (l := v_w b w 2) (s := v_w b w 3) ⟨hv.2.2.2.1, hv.2.2.2.2.1⟩ hv.2.2.2.2.2
        refine aw_aload_n dX2_fill_74 rfl ?_
        refine aw_iload dX2_fill_75 rfl ?_
        refine aw_bipush (v := 8) dX2_fill_77 (by decide) ?_
        refine aw_imul_n (a := v_w b w 0) (b := 8) dX2_fill_79 ?_
        refine aw_iload dX2_fill_80 rfl ?_
        refine aw_iadd_n (a := (v_w b w 0) * 8) (b := v_w b w 1) dX2_fill_82 ?_
        refine aw_iload dX2_fill_83 rfl ?_
        refine aw_iconst (v := 3) dX2_fill_85 rfl ?_
        refine aw_iload dX2_fill_86 rfl ?_
        refine aw_isub_n (a := 3) (b := v_w b w 3) dX2_fill_88 (by omega) ?_
        refine aw_imul_n (a := v_w b w 2) (b := 3 - (v_w b w 3)) dX2_fill_89 ?_
        refine aw_V0c (As := [_, _]) dX2_fill_90 k2_31 rfl rfl rfl ⟨Nat.le_of_ble_eq_true rfl, Nat.le_of_ble_eq_true rfl⟩ (Nat.le_of_ble_eq_true rfl) ⟨⟨Nat.le_of_ble_eq_true rfl, Nat.le_of_ble_eq_true rfl⟩, ⟨Nat.le_of_ble_eq_true rfl, Nat.le_of_ble_eq_true rfl⟩⟩ ⟨rfl, rfl⟩ (xw_shorten12 G hC (by omega) (by have := f_e_le (X := 1000) (V := f_lv (v_w b) lv) (n := w) (v_w b w 0 * 8 + v_w b w 1); omega) (by omega)) (fun v h2 hq => ?_)
        obtain ⟨rfl, I1, rfl, hC1⟩ := hq
        refine aw_aload_n dX2_fill_93 rfl ?_
        refine aw_iload dX2_fill_94 rfl ?_
        refine aw_bipush (v := 8) dX2_fill_96 (by decide) ?_
        refine aw_imul_n (a := v_w b w 1) (b := 8) dX2_fill_98 ?_
        refine aw_iload dX2_fill_99 rfl ?_
        refine aw_iadd_n (a := (v_w b w 1) * 8) (b := v_w b w 0) dX2_fill_101 ?_
        refine aw_iload dX2_fill_102 rfl ?_
        refine aw_iconst (v := 1) dX2_fill_104 rfl ?_
        refine aw_iload dX2_fill_105 rfl ?_
        refine aw_iadd_n (a := 1) (b := v_w b w 3) dX2_fill_107 ?_
        refine aw_imul_n (a := v_w b w 2) (b := 1 + (v_w b w 3)) dX2_fill_108 ?_
        refine aw_V0c (As := [_, _]) dX2_fill_109 k2_31 rfl rfl rfl ⟨Nat.le_of_ble_eq_true rfl, Nat.le_of_ble_eq_true rfl⟩ (Nat.le_of_ble_eq_true rfl) ⟨⟨Nat.le_of_ble_eq_true rfl, Nat.le_of_ble_eq_true rfl⟩, ⟨Nat.le_of_ble_eq_true rfl, Nat.le_of_ble_eq_true rfl⟩⟩ ⟨rfl, rfl⟩ (xw_shorten12 G hC1 (by omega) (by have := f_put_le (z := f_e 1000 (f_lv (v_w b) lv) w) (i := v_w b w 0 * 8 + v_w b w 1) (v := (v_w b w 2) * (3 - (v_w b w 3))) (fun j => f_e_le j) (v_w b w 1 * 8 + v_w b w 0); omega) (by omega)) (fun v h2 hq => ?_)
        obtain ⟨rfl, I1, rfl, hC1⟩ := hq
        refine aw_iinc_n (ls2 := [_, _, _, _, _, _, _, _]) dX2_fill_112 rfl (by decide) rfl rfl ?_
        refine aw_goto (tgt := 25) dX2_fill_115 (by decide) ?_
        refine aw_kill (j := 4) (ls2 := [_, _, _, _, aw_x, _, _, _]) rfl (aw_kill (j := 5) (ls2 := [_, _, _, _, _, aw_x, _, _]) rfl (aw_kill (j := 6) (ls2 := [_, _, _, _, _, _, aw_x, _]) rfl (aw_kill (j := 7) (ls2 := [_, _, _, _, _, _, _, aw_x]) rfl (ih _ ?_))))
        rw [f_e, f_lv_n (by decide), f_lv_n (by decide), f_lv_n (by decide), Nat.mul_comm 8, Nat.mul_comm 8, show f_lv (v_w b) lv w 3 = v_w b w 3 by rw [f_lv, if_neg (fun z => c35 z.2)]]
        exact hC1
  · obtain ⟨he, hC⟩ := hh
    refine aw_iload_n dX2_fill_2 rfl ?_
    refine aw_bipush (v := 64) dX2_fill_3 (by decide) ?_
    refine aw_ic_ge_n (a := i) (b := 64) (tgt := 23) dX2_fill_5 (by decide) (by omega) (by omega) (fun z => absurd z (by omega)) (fun c5 => ?_)
    refine aw_aload_n dX2_fill_8 rfl ?_
    refine aw_getR dX2_fill_9 f2_9 rfl ⟨Nat.le_of_ble_eq_true rfl, Nat.le_of_ble_eq_true rfl⟩ rfl rfl ?_
    refine aw_iload_n dX2_fill_12 rfl ?_
    refine aw_sipush (v := 1000) dX2_fill_13 (by decide) ?_
    refine aw_iast_n (j := i) dX2_fill_16 rfl ⟨Nat.le_of_ble_eq_true rfl, Nat.le_of_ble_eq_true rfl⟩ (by decide) (by omega) ?_
    refine aw_iinc_n (ls2 := [_, _, _, _, _, _, _, _]) dX2_fill_17 rfl (by decide) rfl rfl ?_
    refine aw_goto (tgt := 2) dX2_fill_20 (by decide) ?_
    refine ih _ _ ⟨fun j hj => ?_, hC.ue (i := i) (v := 1000)⟩
    by_cases hji : j = i
    · rw [hji, va_up_at]
    · rw [va_up_nat hji]; exact he j (by omega)
theorem yw_clear22 (G : aw_G) {n c : Nat} {I : Nat → Nat → Int32} {L : Nat → Nat → Int64} {s : Nat → Nat → Nat} {I0 : Nat → Nat → Int32} (hR : zRun s 22 I0 I) {k : Nat} (hk : k < 8) : aw_Met G mX4_clear [.ref 31, .int (nI k)] (yH n I L c) (fun v h2 => v = none ∧ ∃ I2, h2 = yH n I2 L c ∧ zRun (aw_u s 10 k 0) 22 I0 I2) := by
  refine aw_Met.of okX4_clear (Nat.le_of_ble_eq_true rfl) ?_
  show aw_W G mX4_clear 0 [.ref 31, .int (nI k)] [] (yH n I L c) (0, 0) _
  refine aw_aload_n dX4_clear_0 rfl ?_
  refine aw_getR dX4_clear_1 f4_9 rfl ⟨Nat.le_of_ble_eq_true rfl, Nat.le_of_ble_eq_true rfl⟩ rfl rfl ?_
  refine aw_iload_n dX4_clear_4 rfl ?_
  refine aw_iconst (v := 0) dX4_clear_5 rfl ?_
  refine aw_iast_n dX4_clear_6 rfl ⟨Nat.le_of_ble_eq_true rfl, Nat.le_of_ble_eq_true rfl⟩ (by decide) hk ?_
  refine aw_ret0 dX4_clear_7 rfl ⟨Nat.le_of_ble_eq_true rfl, Nat.le_of_ble_eq_true rfl⟩ ?_
  exact ⟨rfl, _, rfl, hR.u (i := 10) (v := 0) (by decide)⟩
theorem yw_note22 (G : aw_G) {n c : Nat} {I : Nat → Nat → Int32} {L : Nat → Nat → Int64} {s : Nat → Nat → Nat} {I0 : Nat → Nat → Int32} (hR : zRun s 22 I0 I) {k t p l w : Nat} (hk : k < 8) (hl : s 10 k < 100000) : aw_Met G mX4_note [.ref 31, .int (nI k), .int (nI t), .int (nI p), .int (nI l), .int (nI w - 1)] (yH n I L c) (fun v h2 => v = none ∧ ∃ I2, h2 = yH n I2 L c ∧ zRun (p_note s k t p l w) 22 I0 I2) := by
  have h10 : I 32 k = nI (s 10 k) := hR.at 10 k (by decide) (by decide) (by decide) (by omega)
  refine aw_Met.of okX4_note (Nat.le_of_ble_eq_true rfl) ?_
  show aw_W G mX4_note 0 [.ref 31, .int (nI k), .int (nI t), .int (nI p), .int (nI l), .int (nI w - 1), aw_x] [] (yH n I L c) (0, 0) _
  refine aw_aload_n dX4_note_0 rfl ?_
  refine aw_getR dX4_note_1 f4_9 rfl ⟨Nat.le_of_ble_eq_true rfl, Nat.le_of_ble_eq_true rfl⟩ rfl rfl ?_
  refine aw_iload_n dX4_note_4 rfl ?_
  refine aw_iald_n dX4_note_5 rfl (Nat.le_of_ble_eq_true rfl) (by decide) hk ?_
  refine aw_top h10 ?_
  refine aw_bipush (v := 8) dX4_note_6 (by decide) ?_
  refine aw_ic_lt (tgt := 12) dX4_note_8 (by decide) (fun c8 => ?_) (fun c8 => ?_)
  · have c8 : s 10 k < 8 := (zi_lt (b := 8) hl (by decide)).mp c8
    refine aw_iload_n dX4_note_12 rfl ?_
    refine aw_bipush (v := 8) dX4_note_13 (by decide) ?_
    refine aw_imul dX4_note_15 ?_
    refine aw_aload_n dX4_note_16 rfl ?_
    refine aw_getR dX4_note_17 f4_9 rfl ⟨Nat.le_of_ble_eq_true rfl, Nat.le_of_ble_eq_true rfl⟩ rfl rfl ?_
    refine aw_iload_n dX4_note_20 rfl ?_
    refine aw_iald_n dX4_note_21 rfl (Nat.le_of_ble_eq_true rfl) (by decide) hk ?_
    refine aw_top h10 ?_
    refine aw_iadd dX4_note_22 ?_
    refine aw_top (zi_mul8 _ _) ?_
    refine aw_istore (ls2 := [_, _, _, _, _, _, _]) dX4_note_23 (by decide) rfl rfl ?_
    refine aw_aload_n dX4_note_25 rfl ?_
    refine aw_getR dX4_note_26 f4_15 rfl ⟨Nat.le_of_ble_eq_true rfl, Nat.le_of_ble_eq_true rfl⟩ rfl rfl ?_
    refine aw_iload dX4_note_29 rfl ?_
    refine aw_iload_n dX4_note_31 rfl ?_
    refine aw_iast_n dX4_note_32 rfl ⟨Nat.le_of_ble_eq_true rfl, Nat.le_of_ble_eq_true rfl⟩ (by decide) (by omega) ?_
    refine aw_aload_n dX4_note_33 rfl ?_
    refine aw_getR dX4_note_34 f4_18 rfl ⟨Nat.le_of_ble_eq_true rfl, Nat.le_of_ble_eq_true rfl⟩ rfl rfl ?_
    refine aw_iload dX4_note_37 rfl ?_
    refine aw_iload_n dX4_note_39 rfl ?_
    refine aw_iast_n dX4_note_40 rfl ⟨Nat.le_of_ble_eq_true rfl, Nat.le_of_ble_eq_true rfl⟩ (by decide) (by omega) ?_
    refine aw_aload_n dX4_note_41 rfl ?_
    refine aw_getR dX4_note_42 f4_21 rfl ⟨Nat.le_of_ble_eq_true rfl, Nat.le_of_ble_eq_true rfl⟩ rfl rfl ?_
    refine aw_iload dX4_note_45 rfl ?_
    refine aw_iload dX4_note_47 rfl ?_
    refine aw_iast_n dX4_note_49 rfl ⟨Nat.le_of_ble_eq_true rfl, Nat.le_of_ble_eq_true rfl⟩ (by decide) (by omega) ?_
    refine aw_aload_n dX4_note_50 rfl ?_
    refine aw_getR dX4_note_51 f4_24 rfl ⟨Nat.le_of_ble_eq_true rfl, Nat.le_of_ble_eq_true rfl⟩ rfl rfl ?_
    refine aw_iload dX4_note_54 rfl ?_
    refine aw_iload dX4_note_56 rfl ?_
    refine aw_iast_n dX4_note_58 rfl ⟨Nat.le_of_ble_eq_true rfl, Nat.le_of_ble_eq_true rfl⟩ (by decide) (by omega) ?_
    refine aw_aload_n dX4_note_59 rfl ?_
    refine aw_getR dX4_note_60 f4_9 rfl ⟨Nat.le_of_ble_eq_true rfl, Nat.le_of_ble_eq_true rfl⟩ rfl rfl ?_
    refine aw_iload_n dX4_note_63 rfl ?_
    refine aw_dup2 dX4_note_64 rfl rfl ?_
    refine aw_iald_n dX4_note_65 rfl (Nat.le_of_ble_eq_true rfl) (by decide) hk ?_
    refine aw_top h10 ?_
    refine aw_iconst (v := 1) dX4_note_66 rfl ?_
    refine aw_iadd dX4_note_67 ?_
    refine aw_top (nI_1 _) ?_
    refine aw_iast_n dX4_note_68 rfl ⟨Nat.le_of_ble_eq_true rfl, Nat.le_of_ble_eq_true rfl⟩ (by decide) hk ?_
    refine aw_ret0 dX4_note_69 rfl ⟨Nat.le_of_ble_eq_true rfl, Nat.le_of_ble_eq_true rfl⟩ ?_
    refine ⟨rfl, _, rfl, ?_⟩
    rw [p_note, if_neg (by omega)]
    exact (((((hR.u (i := 11) (by decide)).u (i := 12) (by decide)).u (i := 13) (by decide)).u (i := 14) (by decide)).u (i := 10) (by decide))
  · have c8 : ¬ s 10 k < 8 := fun z => c8 ((zi_lt (b := 8) hl (by decide)).mpr z)
    refine aw_ret0 dX4_note_11 rfl ⟨Nat.le_of_ble_eq_true rfl, Nat.le_of_ble_eq_true rfl⟩ ?_
    exact ⟨rfl, _, rfl, by rw [p_note, if_pos (by omega)]; exact hR⟩
theorem yw_turn12 (G : aw_G) {n c : Nat} {I : Nat → Nat → Int32} {L : Nat → Nat → Int64} {x : Nat → Nat → Nat} (hX : zCh x 12 I) {p g : Nat} (hp : p < 8) (hg : g < 8) : aw_Met G mX2_turn [.ref 12, .int (nI p), .int (nI g)] (yH n I L c) (fun v h2 => v = some (.int (nI (x 2 (p * 8 + g)) - 1)) ∧ h2 = yH n I L c) := by
  refine aw_Met.of okX2_turn (Nat.le_of_ble_eq_true rfl) ?_
  show aw_W G mX2_turn 0 [.ref 12, .int (nI p), .int (nI g)] [] (yH n I L c) (0, 0) _
  refine aw_aload_n dX2_turn_0 rfl ?_
  refine aw_getR dX2_turn_1 f2_18 rfl ⟨Nat.le_of_ble_eq_true rfl, Nat.le_of_ble_eq_true rfl⟩ rfl rfl ?_
  refine aw_iload_n dX2_turn_4 rfl ?_
  refine aw_bipush (v := 8) dX2_turn_5 (by decide) ?_
  refine aw_imul dX2_turn_7 ?_
  refine aw_iload_n dX2_turn_8 rfl ?_
  refine aw_iadd dX2_turn_9 ?_
  refine aw_top (zi_mul8 _ _) ?_
  refine aw_iald_n dX2_turn_10 rfl (Nat.le_of_ble_eq_true rfl) (by decide) (by omega) ?_
  refine aw_reti dX2_turn_11 rfl rfl ⟨Nat.le_of_ble_eq_true rfl, Nat.le_of_ble_eq_true rfl⟩ ?_
  exact ⟨by rw [← (hX (p * 8 + g) (by omega)).2.2], rfl⟩
theorem yw_step12 (G : aw_G) {n c : Nat} {I : Nat → Nat → Int32} {L : Nat → Nat → Int64} {x : Nat → Nat → Nat} (hX : zCh x 12 I) {p g : Nat} (hp : p < 8) (hg : g < 8) : aw_Met G mX2_step [.ref 12, .int (nI p), .int (nI g)] (yH n I L c) (fun v h2 => v = some (.int (nI (x 0 (p * 8 + g)))) ∧ h2 = yH n I L c) := by
  refine aw_Met.of okX2_step (Nat.le_of_ble_eq_true rfl) ?_
  show aw_W G mX2_step 0 [.ref 12, .int (nI p), .int (nI g)] [] (yH n I L c) (0, 0) _
  refine aw_aload_n dX2_step_0 rfl ?_
  refine aw_getR dX2_step_1 f2_9 rfl ⟨Nat.le_of_ble_eq_true rfl, Nat.le_of_ble_eq_true rfl⟩ rfl rfl ?_
  refine aw_iload_n dX2_step_4 rfl ?_
  refine aw_bipush (v := 8) dX2_step_5 (by decide) ?_
  refine aw_imul dX2_step_7 ?_
  refine aw_iload_n dX2_step_8 rfl ?_
  refine aw_iadd dX2_step_9 ?_
  refine aw_top (zi_mul8 _ _) ?_
  refine aw_iald_n dX2_step_10 rfl (Nat.le_of_ble_eq_true rfl) (by decide) (by omega) ?_
  refine aw_reti dX2_step_11 rfl rfl ⟨Nat.le_of_ble_eq_true rfl, Nat.le_of_ble_eq_true rfl⟩ ?_
  exact ⟨by rw [← (hX (p * 8 + g) (by omega)).1], rfl⟩
theorem yw_tells11 (G : aw_G) {n c : Nat} {I : Nat → Nat → Int32} {L : Nat → Nat → Int64} {t u : Nat → Nat → Nat} (hT : zSet t 11 16 I) (hU : zAn u I) {h p : Nat} (hh : h < 100000) (hp : p < 8) (hw : t 6 1 < 100000) (hn8 : u 2 0 ≤ 8) (hu : ∀ a, a < 8 → u 0 a < 100000 ∧ u 1 a < 100000) : aw_Met G mX7_tells [.ref 11, .int (nI h), .int (nI p)] (yH n I L c) (fun v h2 => v = some (.int (if p_tells t u h p = true then 1 else 0)) ∧ h2 = yH n I L c) := by
  refine aw_Met.of okX7_tells (Nat.le_of_ble_eq_true rfl) ?_
  show aw_W G mX7_tells 0 [.ref 11, .int (nI h), .int (nI p), aw_x, aw_x] [] (yH n I L c) (0, 0) _
  refine aw_iconst (v := 0) dX7_tells_0 rfl ?_
  refine aw_istore_n (ls2 := [_, _, _, _, _]) dX7_tells_1 (by decide) rfl rfl ?_
  refine aw_up (X := fun i => (∀ a, a < i → p_hit t u h p a = false) → aw_W G mX7_tells 2 [.ref 11, .int (nI h), .int (nI p), .int (nI i), aw_x] [] (yH n I L c) (0, 0) _) (Nat.zero_le (u 2 0)) (fun hno => ?_) (fun i _ hi ih hno => ?_) (fun a ha => absurd ha (Nat.not_lt_zero a))
  · refine aw_iload_n dX7_tells_2 rfl ?_
    refine aw_aload_n dX7_tells_3 rfl ?_
    refine aw_getR dX7_tells_4 f7_37 rfl ⟨Nat.le_of_ble_eq_true rfl, Nat.le_of_ble_eq_true rfl⟩ rfl rfl ?_
    refine aw_getI dX7_tells_7 f7_53 rfl ⟨Nat.le_of_ble_eq_true rfl, Nat.le_of_ble_eq_true rfl⟩ rfl ?_
    refine aw_ic_ge (tgt := 70) dX7_tells_10 (by decide) (fun _ => ?_) (fun z => absurd (by rw [hU.1]; exact nI_le (Nat.le_refl _) (by omega)) z)
    refine aw_iconst (v := 0) dX7_tells_70 rfl ?_
    refine aw_reti dX7_tells_71 rfl rfl ⟨Nat.le_of_ble_eq_true rfl, Nat.le_of_ble_eq_true rfl⟩ ?_
    refine ⟨?_, rfl⟩
    rw [show p_tells t u h p = false from ?_]; rfl
    rw [p_tells, List.any_eq_false]
    intro a ha
    rw [hno a (List.mem_range.mp ha)]; decide
  · refine aw_iload_n dX7_tells_2 rfl ?_
    refine aw_aload_n dX7_tells_3 rfl ?_
    refine aw_getR dX7_tells_4 f7_37 rfl ⟨Nat.le_of_ble_eq_true rfl, Nat.le_of_ble_eq_true rfl⟩ rfl rfl ?_
    refine aw_getI dX7_tells_7 f7_53 rfl ⟨Nat.le_of_ble_eq_true rfl, Nat.le_of_ble_eq_true rfl⟩ rfl ?_
    refine aw_ic_ge (tgt := 70) dX7_tells_10 (by decide) (fun z => absurd z (by rw [hU.1]; exact nI_ge hi (by omega))) (fun _ => ?_)
    refine aw_aload_n dX7_tells_13 rfl ?_
    refine aw_getI dX7_tells_14 f7_34 rfl ⟨Nat.le_of_ble_eq_true rfl, Nat.le_of_ble_eq_true rfl⟩ rfl ?_
    refine aw_iload_n dX7_tells_17 rfl ?_
    refine aw_ishr dX7_tells_18 ?_
    refine aw_iconst (v := 1) dX7_tells_19 rfl ?_
    refine aw_iand dX7_tells_20 ?_
    refine aw_top (y := nI (t 6 1 / 2 ^ i % 2)) (by rw [hT.2.2]; exact zi_bit (by omega) (by omega)) ?_
    refine aw_if_ne (tgt := 28) dX7_tells_21 (by decide) (fun c21 => ?_) (fun c21 => ?_)
    · have hb : (t 6 1).testBit i = true := by
        cases hc : (t 6 1).testBit i with
        | true => rfl
        | false => exact absurd (show nI (t 6 1 / 2 ^ i % 2) = 0 by rw [(zi_tb _ _).mpr hc]; rfl) c21
      refine aw_iconst (v := 0) dX7_tells_28 rfl ?_
      refine aw_istore (ls2 := [_, _, _, _, _]) dX7_tells_29 (by decide) rfl rfl ?_
      refine aw_iload dX7_tells_31 rfl ?_
      refine aw_if_eq (tgt := 64) dX7_tells_33 (by decide) (fun _ => ?_) (fun z => absurd rfl z)
      refine aw_iinc_n (ls2 := [_, _, _, _, _]) dX7_tells_64 rfl (by decide) rfl rfl ?_
      refine aw_goto (tgt := 2) dX7_tells_67 (by decide) ?_
      exact aw_kill (j := 4) (ls2 := [_, _, _, _, aw_x]) rfl (ih (fun b hb2 => by
        rcases Nat.lt_succ_iff_lt_or_eq.mp hb2 with hb2 | rfl
        · exact hno b hb2
        · simp only [p_hit]; simp [hb]))
    · have hb : (t 6 1).testBit i = false := (zi_tb _ _).mp ((zi_eq (b := 0) (by omega) (by decide)).mp c21)
      refine aw_iconst (v := 1) dX7_tells_24 rfl ?_
      refine aw_goto (tgt := 29) dX7_tells_25 (by decide) ?_
      refine aw_istore (ls2 := [_, _, _, _, _]) dX7_tells_29 (by decide) rfl rfl ?_
      refine aw_iload dX7_tells_31 rfl ?_
      refine aw_if_eq (tgt := 64) dX7_tells_33 (by decide) (fun z => absurd z (by decide)) (fun _ => ?_)
      refine aw_aload_n dX7_tells_36 rfl ?_
      refine aw_getR dX7_tells_37 f7_37 rfl ⟨Nat.le_of_ble_eq_true rfl, Nat.le_of_ble_eq_true rfl⟩ rfl rfl ?_
      refine aw_getR dX7_tells_40 f7_56 rfl ⟨Nat.le_of_ble_eq_true rfl, Nat.le_of_ble_eq_true rfl⟩ rfl rfl ?_
      refine aw_iload_n dX7_tells_43 rfl ?_
      refine aw_iald_n dX7_tells_44 rfl (Nat.le_of_ble_eq_true rfl) (by decide) (by omega) ?_
      refine aw_top (hU.2 i (by omega)).1 ?_
      refine aw_iload_n dX7_tells_45 rfl ?_
      refine aw_ic_ne (tgt := 64) dX7_tells_46 (by decide) (fun c46 => ?_) (fun c46 => ?_)
      · refine aw_iinc_n (ls2 := [_, _, _, _, _]) dX7_tells_64 rfl (by decide) rfl rfl ?_
        refine aw_goto (tgt := 2) dX7_tells_67 (by decide) ?_
        exact aw_kill (j := 4) (ls2 := [_, _, _, _, aw_x]) rfl (ih (fun b hb2 => by
          rcases Nat.lt_succ_iff_lt_or_eq.mp hb2 with hb2 | rfl
          · exact hno b hb2
          · simp only [p_hit]; simp [show ¬ u 0 b = h from fun z => c46 (by rw [z])]))
      · refine aw_aload_n dX7_tells_49 rfl ?_
        refine aw_getR dX7_tells_50 f7_37 rfl ⟨Nat.le_of_ble_eq_true rfl, Nat.le_of_ble_eq_true rfl⟩ rfl rfl ?_
        refine aw_getR dX7_tells_53 f7_59 rfl ⟨Nat.le_of_ble_eq_true rfl, Nat.le_of_ble_eq_true rfl⟩ rfl rfl ?_
        refine aw_iload_n dX7_tells_56 rfl ?_
        refine aw_iald_n dX7_tells_57 rfl (Nat.le_of_ble_eq_true rfl) (by decide) (by omega) ?_
        refine aw_top (hU.2 i (by omega)).2 ?_
        refine aw_iload_n dX7_tells_58 rfl ?_
        refine aw_ic_ne (tgt := 64) dX7_tells_59 (by decide) (fun c59 => ?_) (fun c59 => ?_)
        · refine aw_iinc_n (ls2 := [_, _, _, _, _]) dX7_tells_64 rfl (by decide) rfl rfl ?_
          refine aw_goto (tgt := 2) dX7_tells_67 (by decide) ?_
          exact aw_kill (j := 4) (ls2 := [_, _, _, _, aw_x]) rfl (ih (fun b hb2 => by
            rcases Nat.lt_succ_iff_lt_or_eq.mp hb2 with hb2 | rfl
            · exact hno b hb2
            · simp only [p_hit]; simp [show ¬ u 1 b = p from fun z => c59 (by rw [z])]))
        · refine aw_iconst (v := 1) dX7_tells_62 rfl ?_
          refine aw_reti dX7_tells_63 rfl rfl ⟨Nat.le_of_ble_eq_true rfl, Nat.le_of_ble_eq_true rfl⟩ ?_
          refine ⟨?_, rfl⟩
          rw [show p_tells t u h p = true from ?_]; rfl
          rw [p_tells, List.any_eq_true]
          exact ⟨i, List.mem_range.mpr hi, by simp [p_hit, hb, (zi_eq (hu i (by omega)).1 hh).mp c46, (zi_eq (hu i (by omega)).2 (show p < 100000 by omega)).mp c59]⟩
theorem yw_isTold22 (G : aw_G) {n c : Nat} {I : Nat → Nat → Int32} {L : Nat → Nat → Int64} {s : Nat → Nat → Nat} {I0 : Nat → Nat → Int32} (hR : zRun s 22 I0 I) {so p : Nat} {b : Bool} (hso : so < 100000) (hp : p < 8) (h3 : s 3 p < 100000) : aw_Met G mX6_isTold [.ref 22, .int (nI so), .int (nI p), .int (if b = true then 1 else 0)] (yH n I L c) (fun v h2 => v = some (.int (if ((!(so == 2) && b) || (so == 1 && decide (1 < s 3 p))) = true then 1 else 0)) ∧ h2 = yH n I L c) := by
  have h3e : I 25 p = nI (s 3 p) := hR.at 3 p (by decide) (by decide) (by decide) (by omega)
  have e2 : (nI so = 2) ↔ so = 2 := zi_eq (b := 2) hso (by decide)
  have e1 : (nI so = 1) ↔ so = 1 := zi_eq (b := 1) hso (by decide)
  have e3 : (nI (s 3 p) ≤ 1) ↔ s 3 p ≤ 1 := zi_le (b := 1) h3 (by decide)
  refine aw_Met.of okX6_isTold (Nat.le_of_ble_eq_true rfl) ?_
  show aw_W G mX6_isTold 0 [.ref 22, .int (nI so), .int (nI p), .int (if b = true then 1 else 0)] [] (yH n I L c) (0, 0) _
  refine aw_iload_n dX6_isTold_0 rfl ?_
  refine aw_iconst (v := 2) dX6_isTold_1 rfl ?_
  refine aw_ic_eq (tgt := 9) dX6_isTold_2 (by decide) (fun c2 => ?_) (fun c2 => ?_)
  · refine aw_iload_n dX6_isTold_9 rfl ?_
    refine aw_iconst (v := 1) dX6_isTold_10 rfl ?_
    refine aw_ic_ne (tgt := 28) dX6_isTold_11 (by decide) (fun c11 => ?_) (fun c11 => ?_)
    · refine aw_iconst (v := 0) dX6_isTold_28 rfl ?_
      refine aw_reti dX6_isTold_29 rfl rfl ⟨Nat.le_of_ble_eq_true rfl, Nat.le_of_ble_eq_true rfl⟩ ?_
      refine ⟨?_, rfl⟩
      cases b <;> simp_all
    · refine aw_aload_n dX6_isTold_14 rfl ?_
      refine aw_getR dX6_isTold_15 f6_22 rfl ⟨Nat.le_of_ble_eq_true rfl, Nat.le_of_ble_eq_true rfl⟩ rfl rfl ?_
      refine aw_iload_n dX6_isTold_18 rfl ?_
      refine aw_iald_n dX6_isTold_19 rfl (Nat.le_of_ble_eq_true rfl) (by decide) hp ?_
      refine aw_top h3e ?_
      refine aw_iconst (v := 1) dX6_isTold_20 rfl ?_
      refine aw_ic_le (tgt := 28) dX6_isTold_21 (by decide) (fun c21 => ?_) (fun c21 => ?_)
      · refine aw_iconst (v := 0) dX6_isTold_28 rfl ?_
        refine aw_reti dX6_isTold_29 rfl rfl ⟨Nat.le_of_ble_eq_true rfl, Nat.le_of_ble_eq_true rfl⟩ ?_
        refine ⟨?_, rfl⟩
        cases b <;> simp_all
      · refine aw_iconst (v := 1) dX6_isTold_24 rfl ?_
        refine aw_goto (tgt := 29) dX6_isTold_25 (by decide) ?_
        refine aw_reti dX6_isTold_29 rfl rfl ⟨Nat.le_of_ble_eq_true rfl, Nat.le_of_ble_eq_true rfl⟩ ?_
        refine ⟨?_, rfl⟩
        cases b <;> simp_all
  · refine aw_iload_n dX6_isTold_5 rfl ?_
    refine aw_if_ne (tgt := 24) dX6_isTold_6 (by decide) (fun c6 => ?_) (fun c6 => ?_)
    · refine aw_iconst (v := 1) dX6_isTold_24 rfl ?_
      refine aw_goto (tgt := 29) dX6_isTold_25 (by decide) ?_
      refine aw_reti dX6_isTold_29 rfl rfl ⟨Nat.le_of_ble_eq_true rfl, Nat.le_of_ble_eq_true rfl⟩ ?_
      refine ⟨?_, rfl⟩
      cases b <;> simp_all
    · refine aw_iload_n dX6_isTold_9 rfl ?_
      refine aw_iconst (v := 1) dX6_isTold_10 rfl ?_
      refine aw_ic_ne (tgt := 28) dX6_isTold_11 (by decide) (fun c11 => ?_) (fun c11 => ?_)
      · refine aw_iconst (v := 0) dX6_isTold_28 rfl ?_
        refine aw_reti dX6_isTold_29 rfl rfl ⟨Nat.le_of_ble_eq_true rfl, Nat.le_of_ble_eq_true rfl⟩ ?_
        refine ⟨?_, rfl⟩
        cases b <;> simp_all
      · refine aw_aload_n dX6_isTold_14 rfl ?_
        refine aw_getR dX6_isTold_15 f6_22 rfl ⟨Nat.le_of_ble_eq_true rfl, Nat.le_of_ble_eq_true rfl⟩ rfl rfl ?_
        refine aw_iload_n dX6_isTold_18 rfl ?_
        refine aw_iald_n dX6_isTold_19 rfl (Nat.le_of_ble_eq_true rfl) (by decide) hp ?_
        refine aw_top h3e ?_
        refine aw_iconst (v := 1) dX6_isTold_20 rfl ?_
        refine aw_ic_le (tgt := 28) dX6_isTold_21 (by decide) (fun c21 => ?_) (fun c21 => ?_)
        · refine aw_iconst (v := 0) dX6_isTold_28 rfl ?_
          refine aw_reti dX6_isTold_29 rfl rfl ⟨Nat.le_of_ble_eq_true rfl, Nat.le_of_ble_eq_true rfl⟩ ?_
          refine ⟨?_, rfl⟩
          cases b <;> simp_all
        · refine aw_iconst (v := 1) dX6_isTold_24 rfl ?_
          refine aw_goto (tgt := 29) dX6_isTold_25 (by decide) ?_
          refine aw_reti dX6_isTold_29 rfl rfl ⟨Nat.le_of_ble_eq_true rfl, Nat.le_of_ble_eq_true rfl⟩ ?_
          refine ⟨?_, rfl⟩
          cases b <;> simp_all
abbrev yzPost (n : Nat) (L : Nat → Nat → Int64) (c r : Nat) (I0 : Nat → Nat → Int32) (z : Nat → Nat → Nat) : Option Value → aw_H → Prop := fun v h2 => v = none ∧ ∃ I2, h2 = yH n I2 L c ∧ zRun z r I0 I2
theorem yw_finA (G : aw_G) {n c : Nat} {I I0 : Nat → Nat → Int32} {L : Nat → Nat → Int64} {s : Nat → Nat → Nat} {k t p : Nat} {l5 l6 l7 : Value} (hR : zRun s 22 I0 I) (hk : k < 8) (hst : s 6 k ≠ 1) (h6 : s 6 k < 100000) (hl : s 10 k < 100000) :
    aw_W G mX6_settle 179 [.ref 22, .ref 11, .int (nI k), .int (nI t), .int (nI p), l5, l6, l7] [] (yH n I L c) (0, 0) (yzPost n L c 22 I0 (p_fin s k t p)) := by
  have e6 : I 28 k = nI (s 6 k) := hR.at 6 k (by decide) (by decide) (by decide) (by omega)
  have e2 : I 24 k = nI (s 2 k) := hR.at 2 k (by decide) (by decide) (by decide) (by omega)
  refine aw_aload_n dX6_settle_179 rfl ?_
  refine aw_getR dX6_settle_180 f6_31 rfl ⟨Nat.le_of_ble_eq_true rfl, Nat.le_of_ble_eq_true rfl⟩ rfl rfl ?_
  refine aw_iload_n dX6_settle_183 rfl ?_
  refine aw_iald_n dX6_settle_184 rfl (Nat.le_of_ble_eq_true rfl) (by decide) hk ?_
  refine aw_top e6 ?_
  refine aw_iconst (v := 1) dX6_settle_185 rfl ?_
  refine aw_ic_ne (tgt := 240) dX6_settle_186 (by decide) (fun _ => ?_) (fun z => absurd z (fun z => hst ((zi_eq (b := 1) h6 (by decide)).mp z)))
  refine aw_aload_n dX6_settle_240 rfl ?_
  refine aw_getR dX6_settle_241 f6_34 rfl ⟨Nat.le_of_ble_eq_true rfl, Nat.le_of_ble_eq_true rfl⟩ rfl rfl ?_
  refine aw_iload_n dX6_settle_244 rfl ?_
  refine aw_iload_n dX6_settle_245 rfl ?_
  refine aw_iast_n dX6_settle_246 rfl ⟨Nat.le_of_ble_eq_true rfl, Nat.le_of_ble_eq_true rfl⟩ (by decide) hk ?_
  refine aw_aload_n dX6_settle_247 rfl ?_
  refine aw_getR dX6_settle_248 f6_15 rfl ⟨Nat.le_of_ble_eq_true rfl, Nat.le_of_ble_eq_true rfl⟩ rfl rfl ?_
  refine aw_iload_n dX6_settle_251 rfl ?_
  refine aw_sipush (v := 1000) dX6_settle_252 (by decide) ?_
  refine aw_iast_n dX6_settle_255 rfl ⟨Nat.le_of_ble_eq_true rfl, Nat.le_of_ble_eq_true rfl⟩ (by decide) hk ?_
  refine aw_aload_n dX6_settle_256 rfl ?_
  refine aw_getR dX6_settle_257 f6_43 rfl ⟨Nat.le_of_ble_eq_true rfl, Nat.le_of_ble_eq_true rfl⟩ rfl rfl ?_
  refine aw_iload_n dX6_settle_260 rfl ?_
  refine aw_iload_n dX6_settle_261 rfl ?_
  refine aw_iload dX6_settle_262 rfl ?_
  refine aw_aload_n dX6_settle_264 rfl ?_
  refine aw_getR dX6_settle_265 f6_19 rfl ⟨Nat.le_of_ble_eq_true rfl, Nat.le_of_ble_eq_true rfl⟩ rfl rfl ?_
  refine aw_iload_n dX6_settle_268 rfl ?_
  refine aw_iald_n dX6_settle_269 rfl (Nat.le_of_ble_eq_true rfl) (by decide) hk ?_
  refine aw_top e2 ?_
  refine aw_iconst (v := -1) dX6_settle_270 rfl ?_
  refine aw_top (show (-1 : Int32) = nI 0 - 1 from rfl) ?_
  refine aw_V0c (As := [_, _, _, _, _]) dX6_settle_271 k6_119 rfl rfl rfl ⟨Nat.le_of_ble_eq_true rfl, Nat.le_of_ble_eq_true rfl⟩ (Nat.le_of_ble_eq_true rfl) ⟨⟨Nat.le_of_ble_eq_true rfl, Nat.le_of_ble_eq_true rfl⟩, ⟨Nat.le_of_ble_eq_true rfl, Nat.le_of_ble_eq_true rfl⟩⟩ ⟨rfl, rfl⟩ (yw_note22 G ((hR.u7 (j := k) (v := t)).u (i := 1) (j := k) (v := 1000) (by decide)) hk hl) (fun v h2 hq => ?_)
  obtain ⟨rfl, I2, rfl, hR2⟩ := hq
  refine aw_ret0 dX6_settle_274 rfl ⟨Nat.le_of_ble_eq_true rfl, Nat.le_of_ble_eq_true rfl⟩ ?_
  exact ⟨rfl, I2, rfl, hR2⟩
theorem yw_settleA (G : aw_G) {n c : Nat} {I I0 : Nat → Nat → Int32} {L : Nat → Nat → Int64} {s t u x : Nat → Nat → Nat} (hR : zRun s 22 I0 I) (hT : zSet t 11 16 I0) (hX : zCh x 12 I0) (hU : zAn u I0) {k h : Nat} (hk : k < 8) (hh : h < 1000) (hst : s 6 k = 1) (hl : s 10 k < 100000) (hp : s 5 k < 8) (hg : t 1 k < 8) (hx2 : ∀ j, j < 64 → x 2 j ≤ 8) (hx0 : ∀ j, j < 64 → x 0 j ≤ 1000) (hld : t 4 k < 1000) (hlf : s 2 k ≤ t 3 k) (hs3 : t 3 k < 1000) (h4 : s 4 (s 5 k) < 10000) (hpr : s 3 (s 5 k) < 10000) (hso : t 2 k < 100) (hw : t 6 1 < 100000) (hn8 : u 2 0 ≤ 8) (hu : ∀ a, a < 8 → u 0 a < 100000 ∧ u 1 a < 100000) : aw_Met G mX6_settle [.ref 22, .ref 11, .int (nI k), .int (nI h)] (yH n I L c) (yzPost n L c 22 I0 (p_settle s t u x k h)) := by
  have hj : s 5 k * 8 + t 1 k < 64 := by omega
  have hW8 := hx2 _ hj
  generalize hWe : x 2 (s 5 k * 8 + t 1 k) = W at hW8
  have e5 : I 27 k = nI (s 5 k) := hR.at 5 k (by decide) (by decide) (by decide) (by omega)
  have e2 : I 24 k = nI (s 2 k) := hR.at 2 k (by decide) (by decide) (by decide) (by omega)
  have e4 : I 26 (s 5 k) = nI (s 4 (s 5 k)) := hR.at 4 _ (by decide) (by decide) (by decide) (by omega)
  have e6 : I 28 k = nI (s 6 k) := hR.at 6 k (by decide) (by decide) (by decide) (by omega)
  have hT1 := (hT.mv hR (by decide) (by decide))
  have g1 : I 17 k = nI (t 1 k) := hT1.1 1 k (by decide) hk
  have g2 : I 18 k = nI (t 2 k) := hT1.1 2 k (by decide) hk
  have g3 : I 19 k = nI (t 3 k) := hT1.1 3 k (by decide) hk
  have g4 : I 20 k = nI (t 4 k) := hT1.1 4 k (by decide) hk
  have hR1 := hR.u (i := 4) (j := s 5 k) (v := s 4 (s 5 k) + 1) (by decide)
  have key : ∀ d : Nat, d ≤ 1000 → (W ≠ 0 → d = x 0 (s 5 k * 8 + (W - 1))) → aw_W G mX6_settle 46 [.ref 22, .ref 11, .int (nI k), .int (nI h), .int (nI (s 5 k)), .int (nI W - 1), aw_x, aw_x] [.int (nI d)] (yH n I L c) (0, 0) (yzPost n L c 22 I0 (p_settle s t u x k h)) := by
    intro d hd hdW
    refine aw_istore (ls2 := [_, _, _, _, _, _, _, _]) dX6_settle_46 (by decide) rfl rfl ?_
    refine aw_iload dX6_settle_48 rfl ?_
    refine aw_aload_n dX6_settle_50 rfl ?_
    refine aw_getR dX6_settle_51 f6_105 rfl ⟨Nat.le_of_ble_eq_true rfl, Nat.le_of_ble_eq_true rfl⟩ rfl rfl ?_
    refine aw_iload_n dX6_settle_54 rfl ?_
    refine aw_iald_n dX6_settle_55 rfl (Nat.le_of_ble_eq_true rfl) (by decide) hk ?_
    refine aw_top g4 ?_
    refine aw_iadd dX6_settle_56 ?_
    refine aw_top (nI_add _ _) ?_
    refine aw_istore (ls2 := [_, _, _, _, _, _, _, _]) dX6_settle_57 (by decide) rfl rfl ?_
    refine aw_aload_n dX6_settle_59 rfl ?_
    refine aw_getR dX6_settle_60 f6_25 rfl ⟨Nat.le_of_ble_eq_true rfl, Nat.le_of_ble_eq_true rfl⟩ rfl rfl ?_
    refine aw_iload dX6_settle_63 rfl ?_
    refine aw_dup2 dX6_settle_65 rfl rfl ?_
    refine aw_iald_n dX6_settle_66 rfl (Nat.le_of_ble_eq_true rfl) (by decide) hp ?_
    refine aw_top e4 ?_
    refine aw_iconst (v := 1) dX6_settle_67 rfl ?_
    refine aw_iadd dX6_settle_68 ?_
    refine aw_top (nI_1 _) ?_
    refine aw_iast_n dX6_settle_69 rfl ⟨Nat.le_of_ble_eq_true rfl, Nat.le_of_ble_eq_true rfl⟩ (by decide) hp ?_
    refine aw_iload dX6_settle_70 rfl ?_
    refine aw_aload_n dX6_settle_72 rfl ?_
    refine aw_getR dX6_settle_73 f6_94 rfl ⟨Nat.le_of_ble_eq_true rfl, Nat.le_of_ble_eq_true rfl⟩ rfl rfl ?_
    refine aw_iload_n dX6_settle_76 rfl ?_
    refine aw_iald_n dX6_settle_77 rfl (Nat.le_of_ble_eq_true rfl) (by decide) hk ?_
    refine aw_top g1 ?_
    refine aw_ic_ne (tgt := 91) dX6_settle_78 (by decide) (fun c78 => ?_) (fun c78 => ?_)
    · refine aw_aload_n dX6_settle_91 rfl ?_
      refine aw_aload_n dX6_settle_92 rfl ?_
      refine aw_getR dX6_settle_93 f6_108 rfl ⟨Nat.le_of_ble_eq_true rfl, Nat.le_of_ble_eq_true rfl⟩ rfl rfl ?_
      refine aw_iload_n dX6_settle_96 rfl ?_
      refine aw_iald_n dX6_settle_97 rfl (Nat.le_of_ble_eq_true rfl) (by decide) hk ?_
      refine aw_top g2 ?_
      refine aw_iload dX6_settle_98 rfl ?_
      refine aw_aload_n dX6_settle_100 rfl ?_
      refine aw_iload_n dX6_settle_101 rfl ?_
      refine aw_iload dX6_settle_102 rfl ?_
      refine aw_V0c (As := [_, _]) dX6_settle_104 k6_111 rfl rfl rfl ⟨Nat.le_of_ble_eq_true rfl, Nat.le_of_ble_eq_true rfl⟩ (Nat.le_of_ble_eq_true rfl) ⟨⟨Nat.le_of_ble_eq_true rfl, Nat.le_of_ble_eq_true rfl⟩, ⟨Nat.le_of_ble_eq_true rfl, Nat.le_of_ble_eq_true rfl⟩⟩ ⟨rfl, rfl⟩ (yw_tells11 G (hT.mv hR1 (by decide) (by decide)) (hU.mv hR1 (by decide)) (by omega) hp hw hn8 hu) (fun v h2 hq => ?_)
      obtain ⟨rfl, rfl⟩ := hq
      refine aw_V0c (As := [_, _, _]) dX6_settle_107 k6_115 rfl rfl rfl ⟨Nat.le_of_ble_eq_true rfl, Nat.le_of_ble_eq_true rfl⟩ (Nat.le_of_ble_eq_true rfl) ⟨⟨Nat.le_of_ble_eq_true rfl, Nat.le_of_ble_eq_true rfl⟩, ⟨Nat.le_of_ble_eq_true rfl, Nat.le_of_ble_eq_true rfl⟩⟩ ⟨rfl, rfl⟩ (yw_isTold22 G hR1 (by omega) hp (show aw_u s 4 (s 5 k) (s 4 (s 5 k) + 1) 3 (s 5 k) < 100000 from by rw [aw_u_ne (by decide)]; omega)) (fun v h2 hq => ?_)
      obtain ⟨rfl, rfl⟩ := hq
      refine aw_if_eq (tgt := 123) dX6_settle_110 (by decide) (fun c110 => ?_) (fun c110 => ?_)
      · refine aw_iload dX6_settle_123 rfl ?_
        refine aw_iconst (v := -1) dX6_settle_125 rfl ?_
        refine aw_ic_ne (tgt := 139) dX6_settle_126 (by decide) (fun c126 => ?_) (fun c126 => ?_)
        · refine aw_aload_n dX6_settle_139 rfl ?_
          refine aw_getR dX6_settle_140 f6_19 rfl ⟨Nat.le_of_ble_eq_true rfl, Nat.le_of_ble_eq_true rfl⟩ rfl rfl ?_
          refine aw_iload_n dX6_settle_143 rfl ?_
          refine aw_iald_n dX6_settle_144 rfl (Nat.le_of_ble_eq_true rfl) (by decide) hk ?_
          refine aw_top e2 ?_
          refine aw_iload dX6_settle_145 rfl ?_
          refine aw_ic_ge (tgt := 179) dX6_settle_147 (by decide) (fun c147 => ?_) (fun c147 => ?_)
          · have n1 : ¬ s 5 k = t 1 k := fun z => c78 (by rw [z])
            have hbb : (((!(t 2 k == 2) && p_tells t u h (s 5 k)) || (t 2 k == 1 && decide (1 < aw_u s 4 (s 5 k) (s 4 (s 5 k) + 1) 3 (s 5 k)))) = p_told s t u k h (s 5 k)) := by rw [aw_u_ne (by decide)]; rfl
            rw [hbb] at c110
            have hto : ¬ p_told s t u k h (s 5 k) = true := fun z => by rw [z] at c110; exact absurd c110 (by decide)
            have w1 : ¬ W = 0 := fun z => c126 ((zi_none (by omega)).mpr z)
            have hd2 := hdW w1
            have ge : ¬ s 2 k < d + t 4 k := fun z => absurd ((zi_lt (by omega) (by omega)).mpr z) (Int32.not_lt.mpr c147)
            have e : p_settle s t u x k h = p_note (aw_u (aw_u (aw_u (aw_u s 4 (s 5 k) (s 4 (s 5 k) + 1)) 2 k (s 2 k - (d + t 4 k))) 1 k (h + d)) 5 k (W - 1)) k h (s 5 k) (s 2 k - (d + t 4 k)) W := by
              rw [p_settle, if_neg n1, if_neg hto, hWe, if_neg w1, ← hd2, if_neg ge]
            rw [e]
            refine aw_aload_n dX6_settle_179 rfl ?_
            refine aw_getR dX6_settle_180 f6_31 rfl ⟨Nat.le_of_ble_eq_true rfl, Nat.le_of_ble_eq_true rfl⟩ rfl rfl ?_
            refine aw_iload_n dX6_settle_183 rfl ?_
            refine aw_iald_n dX6_settle_184 rfl (Nat.le_of_ble_eq_true rfl) (by decide) hk ?_
            refine aw_top (e6.trans (by rw [hst]; rfl : _ = (1 : Int32))) ?_
            refine aw_iconst (v := 1) dX6_settle_185 rfl ?_
            refine aw_ic_ne (tgt := 240) dX6_settle_186 (by decide) (fun z => absurd rfl z) (fun _ => ?_)
            refine aw_aload_n dX6_settle_189 rfl ?_
            refine aw_getR dX6_settle_190 f6_19 rfl ⟨Nat.le_of_ble_eq_true rfl, Nat.le_of_ble_eq_true rfl⟩ rfl rfl ?_
            refine aw_iload_n dX6_settle_193 rfl ?_
            refine aw_dup2 dX6_settle_194 rfl rfl ?_
            refine aw_iald_n dX6_settle_195 rfl (Nat.le_of_ble_eq_true rfl) (by decide) hk ?_
            refine aw_top e2 ?_
            refine aw_iload dX6_settle_196 rfl ?_
            refine aw_isub dX6_settle_198 ?_
            refine aw_top (pk_sub (by omega)) ?_
            refine aw_iast_n dX6_settle_199 rfl ⟨Nat.le_of_ble_eq_true rfl, Nat.le_of_ble_eq_true rfl⟩ (by decide) hk ?_
            refine aw_aload_n dX6_settle_200 rfl ?_
            refine aw_getR dX6_settle_201 f6_15 rfl ⟨Nat.le_of_ble_eq_true rfl, Nat.le_of_ble_eq_true rfl⟩ rfl rfl ?_
            refine aw_iload_n dX6_settle_204 rfl ?_
            refine aw_iload_n dX6_settle_205 rfl ?_
            refine aw_iload dX6_settle_206 rfl ?_
            refine aw_iadd dX6_settle_208 ?_
            refine aw_top (nI_add _ _) ?_
            refine aw_iast_n dX6_settle_209 rfl ⟨Nat.le_of_ble_eq_true rfl, Nat.le_of_ble_eq_true rfl⟩ (by decide) hk ?_
            refine aw_aload_n dX6_settle_210 rfl ?_
            refine aw_getR dX6_settle_211 f6_28 rfl ⟨Nat.le_of_ble_eq_true rfl, Nat.le_of_ble_eq_true rfl⟩ rfl rfl ?_
            refine aw_iload_n dX6_settle_214 rfl ?_
            refine aw_iload dX6_settle_215 rfl ?_
            refine aw_top (zi_pred w1) ?_
            refine aw_iast_n dX6_settle_217 rfl ⟨Nat.le_of_ble_eq_true rfl, Nat.le_of_ble_eq_true rfl⟩ (by decide) hk ?_
            refine aw_aload_n dX6_settle_218 rfl ?_
            refine aw_getR dX6_settle_219 f6_43 rfl ⟨Nat.le_of_ble_eq_true rfl, Nat.le_of_ble_eq_true rfl⟩ rfl rfl ?_
            refine aw_iload_n dX6_settle_222 rfl ?_
            refine aw_iload_n dX6_settle_223 rfl ?_
            refine aw_iload dX6_settle_224 rfl ?_
            refine aw_aload_n dX6_settle_226 rfl ?_
            refine aw_getR dX6_settle_227 f6_19 rfl ⟨Nat.le_of_ble_eq_true rfl, Nat.le_of_ble_eq_true rfl⟩ rfl rfl ?_
            refine aw_iload_n dX6_settle_230 rfl ?_
            refine aw_iald_n dX6_settle_231 rfl (Nat.le_of_ble_eq_true rfl) (by decide) hk ?_
            refine aw_top (show aw_u I 24 k (nI (s 2 k - (d + t 4 k))) 24 k = _ from aw_u_eq) ?_
            refine aw_iload dX6_settle_232 rfl ?_
            refine aw_V0c (As := [_, _, _, _, _]) dX6_settle_234 k6_119 rfl rfl rfl ⟨Nat.le_of_ble_eq_true rfl, Nat.le_of_ble_eq_true rfl⟩ (Nat.le_of_ble_eq_true rfl) ⟨⟨Nat.le_of_ble_eq_true rfl, Nat.le_of_ble_eq_true rfl⟩, ⟨Nat.le_of_ble_eq_true rfl, Nat.le_of_ble_eq_true rfl⟩⟩ ⟨rfl, rfl⟩ (yw_note22 G (((hR1.u (i := 2) (j := k) (v := s 2 k - (d + t 4 k)) (by decide)).u (i := 1) (j := k) (v := h + d) (by decide)).u (i := 5) (j := k) (v := W - 1) (by decide)) hk hl) (fun v h2 hq => ?_)
            obtain ⟨rfl, I2, rfl, hR2⟩ := hq
            refine aw_goto (tgt := 274) dX6_settle_237 (by decide) ?_
            refine aw_ret0 dX6_settle_274 rfl ⟨Nat.le_of_ble_eq_true rfl, Nat.le_of_ble_eq_true rfl⟩ ?_
            exact ⟨rfl, I2, rfl, hR2⟩
          · refine aw_aload_n dX6_settle_150 rfl ?_
            refine aw_getR dX6_settle_151 f6_31 rfl ⟨Nat.le_of_ble_eq_true rfl, Nat.le_of_ble_eq_true rfl⟩ rfl rfl ?_
            refine aw_iload_n dX6_settle_154 rfl ?_
            refine aw_iconst (v := 4) dX6_settle_155 rfl ?_
            refine aw_iast_n dX6_settle_156 rfl ⟨Nat.le_of_ble_eq_true rfl, Nat.le_of_ble_eq_true rfl⟩ (by decide) hk ?_
            refine aw_aload_n dX6_settle_157 rfl ?_
            refine aw_getR dX6_settle_158 f6_37 rfl ⟨Nat.le_of_ble_eq_true rfl, Nat.le_of_ble_eq_true rfl⟩ rfl rfl ?_
            refine aw_iload_n dX6_settle_161 rfl ?_
            refine aw_aload_n dX6_settle_162 rfl ?_
            refine aw_getR dX6_settle_163 f6_78 rfl ⟨Nat.le_of_ble_eq_true rfl, Nat.le_of_ble_eq_true rfl⟩ rfl rfl ?_
            refine aw_iload_n dX6_settle_166 rfl ?_
            refine aw_iald_n dX6_settle_167 rfl (Nat.le_of_ble_eq_true rfl) (by decide) hk ?_
            refine aw_top g3 ?_
            refine aw_aload_n dX6_settle_168 rfl ?_
            refine aw_getR dX6_settle_169 f6_19 rfl ⟨Nat.le_of_ble_eq_true rfl, Nat.le_of_ble_eq_true rfl⟩ rfl rfl ?_
            refine aw_iload_n dX6_settle_172 rfl ?_
            refine aw_iald_n dX6_settle_173 rfl (Nat.le_of_ble_eq_true rfl) (by decide) hk ?_
            refine aw_top e2 ?_
            refine aw_isub dX6_settle_174 ?_
            refine aw_top (pk_sub hlf) ?_
            refine aw_iload dX6_settle_175 rfl ?_
            refine aw_iadd dX6_settle_177 ?_
            refine aw_top (nI_add _ _) ?_
            refine aw_iast_n dX6_settle_178 rfl ⟨Nat.le_of_ble_eq_true rfl, Nat.le_of_ble_eq_true rfl⟩ (by decide) hk ?_
            have n1 : ¬ s 5 k = t 1 k := fun z => c78 (by rw [z])
            have hbb : (((!(t 2 k == 2) && p_tells t u h (s 5 k)) || (t 2 k == 1 && decide (1 < aw_u s 4 (s 5 k) (s 4 (s 5 k) + 1) 3 (s 5 k)))) = p_told s t u k h (s 5 k)) := by rw [aw_u_ne (by decide)]; rfl
            rw [hbb] at c110
            have hto : ¬ p_told s t u k h (s 5 k) = true := fun z => by rw [z] at c110; exact absurd c110 (by decide)
            have w1 : ¬ W = 0 := fun z => c126 ((zi_none (by omega)).mpr z)
            have hd2 := hdW w1
            have lt : s 2 k < d + t 4 k := (zi_lt (by omega) (by omega)).mp (Int32.not_le.mp c147)
            have e : p_settle s t u x k h = p_fin (aw_u (aw_u (aw_u s 4 (s 5 k) (s 4 (s 5 k) + 1)) 6 k 4) 8 k (t 3 k - s 2 k + (d + t 4 k))) k h (s 5 k) := by
              rw [p_settle, if_neg n1, if_neg hto, hWe, if_neg w1, ← hd2, if_pos lt]
            rw [e]
            exact yw_finA G ((hR1.u (i := 6) (j := k) (v := 4) (by decide)).u (i := 8) (j := k) (v := t 3 k - s 2 k + (d + t 4 k)) (by decide)) hk (by rw [aw_u_ne (by decide), aw_u_eq]; decide) (by rw [aw_u_ne (by decide), aw_u_eq]; decide) hl
        · refine aw_aload_n dX6_settle_129 rfl ?_
          refine aw_getR dX6_settle_130 f6_31 rfl ⟨Nat.le_of_ble_eq_true rfl, Nat.le_of_ble_eq_true rfl⟩ rfl rfl ?_
          refine aw_iload_n dX6_settle_133 rfl ?_
          refine aw_iconst (v := 5) dX6_settle_134 rfl ?_
          refine aw_iast_n dX6_settle_135 rfl ⟨Nat.le_of_ble_eq_true rfl, Nat.le_of_ble_eq_true rfl⟩ (by decide) hk ?_
          refine aw_goto (tgt := 179) dX6_settle_136 (by decide) ?_
          have n1 : ¬ s 5 k = t 1 k := fun z => c78 (by rw [z])
          have hbb : (((!(t 2 k == 2) && p_tells t u h (s 5 k)) || (t 2 k == 1 && decide (1 < aw_u s 4 (s 5 k) (s 4 (s 5 k) + 1) 3 (s 5 k)))) = p_told s t u k h (s 5 k)) := by rw [aw_u_ne (by decide)]; rfl
          rw [hbb] at c110
          have hto : ¬ p_told s t u k h (s 5 k) = true := fun z => by rw [z] at c110; exact absurd c110 (by decide)
          have w0 : W = 0 := (zi_none (by omega)).mp c126
          have e : p_settle s t u x k h = p_fin (aw_u (aw_u s 4 (s 5 k) (s 4 (s 5 k) + 1)) 6 k 5) k h (s 5 k) := by
            rw [p_settle, if_neg n1, if_neg hto, hWe, if_pos w0]
          rw [e]
          exact yw_finA G (hR1.u (i := 6) (j := k) (v := 5) (by decide)) hk (by rw [aw_u_eq]; decide) (by rw [aw_u_eq]; decide) hl
      · refine aw_aload_n dX6_settle_113 rfl ?_
        refine aw_getR dX6_settle_114 f6_31 rfl ⟨Nat.le_of_ble_eq_true rfl, Nat.le_of_ble_eq_true rfl⟩ rfl rfl ?_
        refine aw_iload_n dX6_settle_117 rfl ?_
        refine aw_iconst (v := 3) dX6_settle_118 rfl ?_
        refine aw_iast_n dX6_settle_119 rfl ⟨Nat.le_of_ble_eq_true rfl, Nat.le_of_ble_eq_true rfl⟩ (by decide) hk ?_
        refine aw_goto (tgt := 179) dX6_settle_120 (by decide) ?_
        have n1 : ¬ s 5 k = t 1 k := fun z => c78 (by rw [z])
        have hbb : (((!(t 2 k == 2) && p_tells t u h (s 5 k)) || (t 2 k == 1 && decide (1 < aw_u s 4 (s 5 k) (s 4 (s 5 k) + 1) 3 (s 5 k)))) = p_told s t u k h (s 5 k)) := by rw [aw_u_ne (by decide)]; rfl
        rw [hbb] at c110
        have hto : p_told s t u k h (s 5 k) = true := by
          cases hb : p_told s t u k h (s 5 k) with
          | true => rfl
          | false => rw [hb] at c110; exact absurd rfl c110
        have e : p_settle s t u x k h = p_fin (aw_u (aw_u s 4 (s 5 k) (s 4 (s 5 k) + 1)) 6 k 3) k h (s 5 k) := by
          rw [p_settle, if_neg n1, if_pos hto]
        rw [e]
        exact yw_finA G (hR1.u (i := 6) (j := k) (v := 3) (by decide)) hk (by rw [aw_u_eq]; decide) (by rw [aw_u_eq]; decide) hl
    · refine aw_aload_n dX6_settle_81 rfl ?_
      refine aw_getR dX6_settle_82 f6_31 rfl ⟨Nat.le_of_ble_eq_true rfl, Nat.le_of_ble_eq_true rfl⟩ rfl rfl ?_
      refine aw_iload_n dX6_settle_85 rfl ?_
      refine aw_iconst (v := 2) dX6_settle_86 rfl ?_
      refine aw_iast_n dX6_settle_87 rfl ⟨Nat.le_of_ble_eq_true rfl, Nat.le_of_ble_eq_true rfl⟩ (by decide) hk ?_
      refine aw_goto (tgt := 179) dX6_settle_88 (by decide) ?_
      have e : p_settle s t u x k h = p_fin (aw_u (aw_u s 4 (s 5 k) (s 4 (s 5 k) + 1)) 6 k 2) k h (s 5 k) := by
        rw [p_settle, if_pos ((zi_eq (by omega) (by omega)).mp c78)]
      rw [e]
      exact yw_finA G (hR1.u (i := 6) (j := k) (v := 2) (by decide)) hk (by rw [aw_u_eq]; decide) (by rw [aw_u_eq]; decide) hl
  refine aw_Met.of okX6_settle (Nat.le_of_ble_eq_true rfl) ?_
  show aw_W G mX6_settle 0 [.ref 22, .ref 11, .int (nI k), .int (nI h), aw_x, aw_x, aw_x, aw_x] [] (yH n I L c) (0, 0) _
  refine aw_aload_n dX6_settle_0 rfl ?_
  refine aw_getR dX6_settle_1 f6_28 rfl ⟨Nat.le_of_ble_eq_true rfl, Nat.le_of_ble_eq_true rfl⟩ rfl rfl ?_
  refine aw_iload_n dX6_settle_4 rfl ?_
  refine aw_iald_n dX6_settle_5 rfl (Nat.le_of_ble_eq_true rfl) (by decide) hk ?_
  refine aw_top e5 ?_
  refine aw_istore (ls2 := [_, _, _, _, _, _, _, _]) dX6_settle_6 (by decide) rfl rfl ?_
  refine aw_aload_n dX6_settle_8 rfl ?_
  refine aw_getR dX6_settle_9 f6_90 rfl ⟨Nat.le_of_ble_eq_true rfl, Nat.le_of_ble_eq_true rfl⟩ rfl rfl ?_
  refine aw_iload dX6_settle_12 rfl ?_
  refine aw_aload_n dX6_settle_14 rfl ?_
  refine aw_getR dX6_settle_15 f6_94 rfl ⟨Nat.le_of_ble_eq_true rfl, Nat.le_of_ble_eq_true rfl⟩ rfl rfl ?_
  refine aw_iload_n dX6_settle_18 rfl ?_
  refine aw_iald_n dX6_settle_19 rfl (Nat.le_of_ble_eq_true rfl) (by decide) hk ?_
  refine aw_top g1 ?_
  refine aw_V0c (As := [_, _]) dX6_settle_20 k6_97 rfl rfl rfl ⟨Nat.le_of_ble_eq_true rfl, Nat.le_of_ble_eq_true rfl⟩ (Nat.le_of_ble_eq_true rfl) ⟨⟨Nat.le_of_ble_eq_true rfl, Nat.le_of_ble_eq_true rfl⟩, ⟨Nat.le_of_ble_eq_true rfl, Nat.le_of_ble_eq_true rfl⟩⟩ ⟨rfl, rfl⟩ (yw_turn12 G (hX.mv hR (by decide)) hp hg) (fun v h2 hq => ?_)
  obtain ⟨rfl, rfl⟩ := hq
  rw [hWe]
  refine aw_istore (ls2 := [_, _, _, _, _, _, _, _]) dX6_settle_23 (by decide) rfl rfl ?_
  refine aw_iload dX6_settle_25 rfl ?_
  refine aw_iconst (v := -1) dX6_settle_27 rfl ?_
  refine aw_ic_ne (tgt := 35) dX6_settle_28 (by decide) (fun c28 => ?_) (fun c28 => ?_)
  · have w1 : W ≠ 0 := fun z => c28 ((zi_none (by omega)).mpr z)
    refine aw_aload_n dX6_settle_35 rfl ?_
    refine aw_getR dX6_settle_36 f6_90 rfl ⟨Nat.le_of_ble_eq_true rfl, Nat.le_of_ble_eq_true rfl⟩ rfl rfl ?_
    refine aw_iload dX6_settle_39 rfl ?_
    refine aw_iload dX6_settle_41 rfl ?_
    refine aw_top (zi_pred w1) ?_
    refine aw_V0c (As := [_, _]) dX6_settle_43 k6_102 rfl rfl rfl ⟨Nat.le_of_ble_eq_true rfl, Nat.le_of_ble_eq_true rfl⟩ (Nat.le_of_ble_eq_true rfl) ⟨⟨Nat.le_of_ble_eq_true rfl, Nat.le_of_ble_eq_true rfl⟩, ⟨Nat.le_of_ble_eq_true rfl, Nat.le_of_ble_eq_true rfl⟩⟩ ⟨rfl, rfl⟩ (yw_step12 G (hX.mv hR (by decide)) hp (show W - 1 < 8 by omega)) (fun v h2 hq => ?_)
    obtain ⟨rfl, rfl⟩ := hq
    exact key _ (hx0 _ (by omega)) (fun _ => rfl)
  · refine aw_iconst (v := 0) dX6_settle_31 rfl ?_
    refine aw_goto (tgt := 46) dX6_settle_32 (by decide) ?_
    exact key 0 (by omega) (fun z => absurd ((zi_none (by omega)).mp c28) z)
theorem yw_soonest22 (G : aw_G) {n c : Nat} {I I0 : Nat → Nat → Int32} {L : Nat → Nat → Int64} {s : Nat → Nat → Nat} (hR : zRun s 22 I0 I) (hk : s 0 0 ≤ 8) (hb : ∀ j, j < 8 → s 1 j < 100000) : aw_Met G mX6_soonest [.ref 22] (yH n I L c) (fun v h2 => v = some (.int (nI (p_min (s 1) (s 0 0)))) ∧ h2 = yH n I L c) := by
  have e0 : I 22 0 = nI (s 0 0) := hR.at0 0 (Or.inl rfl)
  refine aw_Met.of okX6_soonest (Nat.le_of_ble_eq_true rfl) ?_
  show aw_W G mX6_soonest 0 [.ref 22, aw_x, aw_x] [] (yH n I L c) (0, 0) _
  refine aw_sipush (v := 1000) dX6_soonest_0 (by decide) ?_
  refine aw_istore_n (ls2 := [_, _, _]) dX6_soonest_3 (by decide) rfl rfl ?_
  refine aw_iconst (v := 0) dX6_soonest_4 rfl ?_
  refine aw_istore_n (ls2 := [_, _, _]) dX6_soonest_5 (by decide) rfl rfl ?_
  refine aw_up (X := fun i => aw_W G mX6_soonest 6 [.ref 22, .int (nI (p_min (s 1) i)), .int (nI i)] [] (yH n I L c) (0, 0) _) (Nat.zero_le (s 0 0)) ?_ (fun i _ hi ih => ?_)
  · refine aw_iload_n dX6_soonest_6 rfl ?_
    refine aw_aload_n dX6_soonest_7 rfl ?_
    refine aw_getI dX6_soonest_8 f6_9 rfl ⟨Nat.le_of_ble_eq_true rfl, Nat.le_of_ble_eq_true rfl⟩ rfl ?_
    refine aw_top e0 ?_
    refine aw_ic_ge (tgt := 31) dX6_soonest_11 (by decide) (fun _ => ?_) (fun z => absurd (nI_le (Nat.le_refl _) (by omega)) z)
    refine aw_iload_n dX6_soonest_31 rfl ?_
    refine aw_reti dX6_soonest_32 rfl rfl ⟨Nat.le_of_ble_eq_true rfl, Nat.le_of_ble_eq_true rfl⟩ ?_
    exact ⟨rfl, rfl⟩
  · refine aw_iload_n dX6_soonest_6 rfl ?_
    refine aw_aload_n dX6_soonest_7 rfl ?_
    refine aw_getI dX6_soonest_8 f6_9 rfl ⟨Nat.le_of_ble_eq_true rfl, Nat.le_of_ble_eq_true rfl⟩ rfl ?_
    refine aw_top e0 ?_
    refine aw_ic_ge (tgt := 31) dX6_soonest_11 (by decide) (fun z => absurd z (nI_ge hi (by omega))) (fun _ => ?_)
    refine aw_iload_n dX6_soonest_14 rfl ?_
    refine aw_aload_n dX6_soonest_15 rfl ?_
    refine aw_getR dX6_soonest_16 f6_15 rfl ⟨Nat.le_of_ble_eq_true rfl, Nat.le_of_ble_eq_true rfl⟩ rfl rfl ?_
    refine aw_iload_n dX6_soonest_19 rfl ?_
    refine aw_iald_n dX6_soonest_20 rfl (Nat.le_of_ble_eq_true rfl) (by decide) (by omega) ?_
    refine aw_top (hR.at 1 i (by decide) (by decide) (by decide) (by omega)) ?_
    refine aw_min dX6_soonest_21 mm6_84 ⟨Nat.le_of_ble_eq_true rfl, Nat.le_of_ble_eq_true rfl⟩ ⟨Nat.le_of_ble_eq_true rfl, Nat.le_of_ble_eq_true rfl⟩ ?_
    refine aw_top (y := nI (p_min (s 1) (i + 1))) (by rw [p_min]; exact zi_minI (hb i (by omega)) (Nat.lt_of_le_of_lt p_min_le (by decide))) ?_
    refine aw_istore_n (ls2 := [_, _, _]) dX6_soonest_24 (by decide) rfl rfl ?_
    refine aw_iinc_n (ls2 := [_, _, _]) dX6_soonest_25 rfl (by decide) rfl rfl ?_
    refine aw_goto (tgt := 6) dX6_soonest_28 (by decide) ?_
    exact ih
theorem yw_gather22 (G : aw_G) {n c : Nat} {I I0 : Nat → Nat → Int32} {L : Nat → Nat → Int64} {s : Nat → Nat → Nat} (hR : zRun s 22 I0 I) {h : Nat} (hk : s 0 0 ≤ 8) (hh : h < 900) (h10 : s 0 10 < 1000) (hb : ∀ j, j < 8 → s 1 j < 100000 ∧ s 7 j < 100000 ∧ s 5 j < 8) : aw_Met G mX6_gather [.ref 22, .int (nI h)] (yH n I L c) (yzPost n L c 22 I0 (p_gather s h)) := by
  refine aw_Met.of okX6_gather (Nat.le_of_ble_eq_true rfl) ?_
  show aw_W G mX6_gather 0 [.ref 22, .int (nI h), aw_x] [] (yH n I L c) (0, 0) _
  refine aw_iconst (v := 0) dX6_gather_0 rfl ?_
  refine aw_istore_n (ls2 := [_, _, _]) dX6_gather_1 (by decide) rfl rfl ?_
  refine aw_up (X := fun i => ∀ I, zRun (p_g1 s i) 22 I0 I → aw_W G mX6_gather 2 [.ref 22, .int (nI h), .int (nI i)] [] (yH n I L c) (0, 0) _) (Nat.zero_le 8) (fun I hR => ?_) (fun i _ hi ih I hR => ?_) _ hR
  · refine aw_iload_n dX6_gather_2 rfl ?_
    refine aw_bipush (v := 8) dX6_gather_3 (by decide) ?_
    refine aw_ic_ge (tgt := 21) dX6_gather_5 (by decide) (fun _ => ?_) (fun z => absurd (by decide) z)
    refine aw_iconst (v := 0) dX6_gather_21 rfl ?_
    refine aw_istore_n (ls2 := [_, _, _]) dX6_gather_22 (by decide) rfl rfl ?_
    refine aw_up (X := fun i => ∀ I, zRun (p_g2 (p_g1 s 8) h i) 22 I0 I → aw_W G mX6_gather 23 [.ref 22, .int (nI h), .int (nI i)] [] (yH n I L c) (0, 0) _) (Nat.zero_le (s 0 0)) (fun I hR => ?_) (fun i _ hi ih I hR => ?_) _ hR
    · refine aw_iload_n dX6_gather_23 rfl ?_
      refine aw_aload_n dX6_gather_24 rfl ?_
      refine aw_getI dX6_gather_25 f6_9 rfl ⟨Nat.le_of_ble_eq_true rfl, Nat.le_of_ble_eq_true rfl⟩ rfl ?_
      have e0 : _ = nI (p_g2 (p_g1 s 8) h (s 0 0) 0 0) := hR.at0 0 (Or.inl rfl)
      rw [p_g2_row (by decide), p_g1_row (by decide)] at e0
      refine aw_top e0 ?_
      refine aw_ic_ge (tgt := 72) dX6_gather_28 (by decide) (fun _ => ?_) (fun z => absurd (nI_le (Nat.le_refl _) (by omega)) z)
      refine aw_iconst (v := 0) dX6_gather_72 rfl ?_
      refine aw_istore_n (ls2 := [_, _, _]) dX6_gather_73 (by decide) rfl rfl ?_
      obtain ⟨z2, hz2⟩ : ∃ z, z = p_g2 (p_g1 s 8) h (s 0 0) := ⟨_, rfl⟩
      have hz10 : z2 0 10 < 1000 := by rw [hz2, p_g2_row (by decide), p_g1_row (by decide)]; exact h10
      have hz3 : ∀ p, p < 8 → z2 3 p ≤ 8 := fun p hp => by rw [hz2]; exact Nat.le_trans (p_g2_le (fun p hp => p_g1_lt hp) hp) hk
      rw [p_gather, ← hz2]
      rw [← hz2] at hR
      refine aw_up (X := fun i => ∀ I, zRun (p_g3 z2 h i) 22 I0 I → aw_W G mX6_gather 74 [.ref 22, .int (nI h), .int (nI i)] [] (yH n I L c) (0, 0) _) (Nat.zero_le 8) (fun I hR => ?_) (fun i _ hi ih I hR => ?_) _ hR
      · refine aw_iload_n dX6_gather_74 rfl ?_
        refine aw_bipush (v := 8) dX6_gather_75 (by decide) ?_
        refine aw_ic_ge (tgt := 114) dX6_gather_77 (by decide) (fun _ => ?_) (fun z => absurd (by decide) z)
        refine aw_ret0 dX6_gather_114 rfl ⟨Nat.le_of_ble_eq_true rfl, Nat.le_of_ble_eq_true rfl⟩ ?_
        exact ⟨rfl, _, rfl, hR⟩
      · have h10 : p_g3 z2 h i 0 10 < 1000 := p_g3_10 hz10 hh
        have hlt : p_g3 z2 h i 3 i < 100000 := by rw [p_g3_row (by decide)]; exact Nat.lt_of_le_of_lt (hz3 i hi) (by decide)
        refine aw_iload_n dX6_gather_74 rfl ?_
        refine aw_bipush (v := 8) dX6_gather_75 (by decide) ?_
        refine aw_ic_ge (tgt := 114) dX6_gather_77 (by decide) (fun z => absurd z (nI_ge (b := 8) hi (by decide))) (fun _ => ?_)
        refine aw_aload_n dX6_gather_80 rfl ?_
        refine aw_getI dX6_gather_81 f6_47 rfl ⟨Nat.le_of_ble_eq_true rfl, Nat.le_of_ble_eq_true rfl⟩ rfl ?_
        have e10 := hR.at0 10 (by decide)
        refine aw_top e10 ?_
        refine aw_iconst (v := -1) dX6_gather_84 rfl ?_
        refine aw_ic_ne (tgt := 114) dX6_gather_85 (by decide) (fun c85 => ?_) (fun c85 => ?_)
        · have hne : p_g3 z2 h i 0 10 ≠ 0 := fun z => c85 ((zi_none (by omega)).mpr z)
          have e8 : p_g3 z2 h 8 = p_g3 z2 h i := by
            have := p_g3_stop hne (8 - i)
            rw [show i + (8 - i) = 8 by omega] at this; exact this
          refine aw_ret0 dX6_gather_114 rfl ⟨Nat.le_of_ble_eq_true rfl, Nat.le_of_ble_eq_true rfl⟩ ?_
          exact ⟨rfl, _, rfl, by rw [e8]; exact hR⟩
        · have h0 : p_g3 z2 h i 0 10 = 0 := (zi_none (by omega)).mp c85
          refine aw_aload_n dX6_gather_88 rfl ?_
          refine aw_getR dX6_gather_89 f6_22 rfl ⟨Nat.le_of_ble_eq_true rfl, Nat.le_of_ble_eq_true rfl⟩ rfl rfl ?_
          refine aw_iload_n dX6_gather_92 rfl ?_
          refine aw_iald_n dX6_gather_93 rfl (Nat.le_of_ble_eq_true rfl) (by decide) hi ?_
          have e3 := hR.at 3 i (by decide) (by decide) (by decide) (by omega)
          refine aw_top e3 ?_
          refine aw_iconst (v := 1) dX6_gather_94 rfl ?_
          refine aw_ic_le (tgt := 108) dX6_gather_95 (by decide) (fun c95 => ?_) (fun c95 => ?_)
          · refine aw_iinc_n (ls2 := [_, _, _]) dX6_gather_108 rfl (by decide) rfl rfl ?_
            refine aw_goto (tgt := 74) dX6_gather_111 (by decide) ?_
            refine ih _ ?_
            have c95 := (zi_le (b := 1) hlt (by decide)).mp c95
            rw [p_g3, if_neg (by omega)]
            exact hR
          · refine aw_aload_n dX6_gather_98 rfl ?_
            refine aw_iload_n dX6_gather_99 rfl ?_
            refine aw_putI dX6_gather_100 f6_47 rfl ⟨Nat.le_of_ble_eq_true rfl, Nat.le_of_ble_eq_true rfl⟩ (Or.inl rfl) rfl ?_
            refine aw_aload_n dX6_gather_103 rfl ?_
            refine aw_iload_n dX6_gather_104 rfl ?_
            refine aw_putI dX6_gather_105 f6_50 rfl ⟨Nat.le_of_ble_eq_true rfl, Nat.le_of_ble_eq_true rfl⟩ (Or.inl rfl) rfl ?_
            refine aw_iinc_n (ls2 := [_, _, _]) dX6_gather_108 rfl (by decide) rfl rfl ?_
            refine aw_goto (tgt := 74) dX6_gather_111 (by decide) ?_
            refine ih _ ?_
            have c95 : ¬ p_g3 z2 h i 3 i ≤ 1 := fun z => c95 ((zi_le (b := 1) hlt (by decide)).mpr z)
            rw [p_g3, if_pos ⟨h0, by omega⟩]
            exact (hR.uM (j := 10) (v := h) (by decide)).uM (j := 11) (v := i) (by decide)
    · have hi8 : i < 8 := by omega
      have e1 := hR.at 1 i (by decide) (by decide) (by decide) (by omega)
      have e7 := hR.at 7 i (by decide) (by decide) (by decide) (by omega)
      have e5 := hR.at 5 i (by decide) (by decide) (by decide) (by omega)
      have h1 : p_g2 (p_g1 s 8) h i 1 i < 100000 := by rw [p_g2_row (by decide), p_g1_row (by decide)]; exact (hb i hi8).1
      have h7 : p_g2 (p_g1 s 8) h i 7 i < 100000 := by rw [p_g2_row (by decide), p_g1_row (by decide)]; exact (hb i hi8).2.1
      have h5 : p_g2 (p_g1 s 8) h i 5 i < 8 := by rw [p_g2_row (by decide), p_g1_row (by decide)]; exact (hb i hi8).2.2
      refine aw_iload_n dX6_gather_23 rfl ?_
      refine aw_aload_n dX6_gather_24 rfl ?_
      refine aw_getI dX6_gather_25 f6_9 rfl ⟨Nat.le_of_ble_eq_true rfl, Nat.le_of_ble_eq_true rfl⟩ rfl ?_
      have e0 : _ = nI (p_g2 (p_g1 s 8) h i 0 0) := hR.at0 0 (Or.inl rfl)
      rw [p_g2_row (by decide), p_g1_row (by decide)] at e0
      refine aw_top e0 ?_
      refine aw_ic_ge (tgt := 72) dX6_gather_28 (by decide) (fun z => absurd z (nI_ge hi (by omega))) (fun _ => ?_)
      refine aw_aload_n dX6_gather_31 rfl ?_
      refine aw_getR dX6_gather_32 f6_15 rfl ⟨Nat.le_of_ble_eq_true rfl, Nat.le_of_ble_eq_true rfl⟩ rfl rfl ?_
      refine aw_iload_n dX6_gather_35 rfl ?_
      refine aw_iald_n dX6_gather_36 rfl (Nat.le_of_ble_eq_true rfl) (by decide) (by omega) ?_
      refine aw_top e1 ?_
      refine aw_iload_n dX6_gather_37 rfl ?_
      refine aw_ic_eq (tgt := 51) dX6_gather_38 (by decide) (fun c38 => ?_) (fun c38 => ?_)
      · refine aw_aload_n dX6_gather_51 rfl ?_
        refine aw_getR dX6_gather_52 f6_22 rfl ⟨Nat.le_of_ble_eq_true rfl, Nat.le_of_ble_eq_true rfl⟩ rfl rfl ?_
        refine aw_aload_n dX6_gather_55 rfl ?_
        refine aw_getR dX6_gather_56 f6_28 rfl ⟨Nat.le_of_ble_eq_true rfl, Nat.le_of_ble_eq_true rfl⟩ rfl rfl ?_
        refine aw_iload_n dX6_gather_59 rfl ?_
        refine aw_iald_n dX6_gather_60 rfl (Nat.le_of_ble_eq_true rfl) (by decide) (by omega) ?_
        refine aw_top e5 ?_
        refine aw_dup2 dX6_gather_61 rfl rfl ?_
        refine aw_iald_n dX6_gather_62 rfl (Nat.le_of_ble_eq_true rfl) (by decide) h5 ?_
        refine aw_top (hR.at 3 _ (by decide) (by decide) (by decide) (by omega)) ?_
        refine aw_iconst (v := 1) dX6_gather_63 rfl ?_
        refine aw_iadd dX6_gather_64 ?_
        refine aw_top (nI_1 _) ?_
        refine aw_iast_n dX6_gather_65 rfl ⟨Nat.le_of_ble_eq_true rfl, Nat.le_of_ble_eq_true rfl⟩ (by decide) h5 ?_
        refine aw_iinc_n (ls2 := [_, _, _]) dX6_gather_66 rfl (by decide) rfl rfl ?_
        refine aw_goto (tgt := 23) dX6_gather_69 (by decide) ?_
        refine ih _ ?_
        rw [p_g2, if_pos (Or.inl ((zi_eq (by omega) (by omega)).mp c38))]
        exact hR.u (i := 3) (by decide)
      · refine aw_aload_n dX6_gather_41 rfl ?_
        refine aw_getR dX6_gather_42 f6_34 rfl ⟨Nat.le_of_ble_eq_true rfl, Nat.le_of_ble_eq_true rfl⟩ rfl rfl ?_
        refine aw_iload_n dX6_gather_45 rfl ?_
        refine aw_iald_n dX6_gather_46 rfl (Nat.le_of_ble_eq_true rfl) (by decide) (by omega) ?_
        refine aw_top e7 ?_
        refine aw_iconst (v := -1) dX6_gather_47 rfl ?_
        refine aw_ic_eq (tgt := 66) dX6_gather_48 (by decide) (fun c48 => ?_) (fun c48 => ?_)
        · refine aw_iinc_n (ls2 := [_, _, _]) dX6_gather_66 rfl (by decide) rfl rfl ?_
          refine aw_goto (tgt := 23) dX6_gather_69 (by decide) ?_
          refine ih _ ?_
          have n1 : ¬ p_g2 (p_g1 s 8) h i 1 i = h := fun z => c38 (by rw [z]; rfl)
          have n7 : p_g2 (p_g1 s 8) h i 7 i = 0 := (zi_none (by omega)).mp c48
          rw [p_g2, if_neg (fun z => z.elim n1 (fun y => y n7))]
          exact hR
        · refine aw_aload_n dX6_gather_51 rfl ?_
          refine aw_getR dX6_gather_52 f6_22 rfl ⟨Nat.le_of_ble_eq_true rfl, Nat.le_of_ble_eq_true rfl⟩ rfl rfl ?_
          refine aw_aload_n dX6_gather_55 rfl ?_
          refine aw_getR dX6_gather_56 f6_28 rfl ⟨Nat.le_of_ble_eq_true rfl, Nat.le_of_ble_eq_true rfl⟩ rfl rfl ?_
          refine aw_iload_n dX6_gather_59 rfl ?_
          refine aw_iald_n dX6_gather_60 rfl (Nat.le_of_ble_eq_true rfl) (by decide) (by omega) ?_
          refine aw_top e5 ?_
          refine aw_dup2 dX6_gather_61 rfl rfl ?_
          refine aw_iald_n dX6_gather_62 rfl (Nat.le_of_ble_eq_true rfl) (by decide) h5 ?_
          refine aw_top (hR.at 3 _ (by decide) (by decide) (by decide) (by omega)) ?_
          refine aw_iconst (v := 1) dX6_gather_63 rfl ?_
          refine aw_iadd dX6_gather_64 ?_
          refine aw_top (nI_1 _) ?_
          refine aw_iast_n dX6_gather_65 rfl ⟨Nat.le_of_ble_eq_true rfl, Nat.le_of_ble_eq_true rfl⟩ (by decide) h5 ?_
          refine aw_iinc_n (ls2 := [_, _, _]) dX6_gather_66 rfl (by decide) rfl rfl ?_
          refine aw_goto (tgt := 23) dX6_gather_69 (by decide) ?_
          refine ih _ ?_
          rw [p_g2, if_pos (Or.inr (fun z => c48 ((zi_none (by omega)).mpr z)))]
          exact hR.u (i := 3) (by decide)
  · refine aw_iload_n dX6_gather_2 rfl ?_
    refine aw_bipush (v := 8) dX6_gather_3 (by decide) ?_
    refine aw_ic_ge (tgt := 21) dX6_gather_5 (by decide) (fun z => absurd z (nI_ge (b := 8) hi (by decide))) (fun _ => ?_)
    refine aw_aload_n dX6_gather_8 rfl ?_
    refine aw_getR dX6_gather_9 f6_22 rfl ⟨Nat.le_of_ble_eq_true rfl, Nat.le_of_ble_eq_true rfl⟩ rfl rfl ?_
    refine aw_iload_n dX6_gather_12 rfl ?_
    refine aw_iconst (v := 0) dX6_gather_13 rfl ?_
    refine aw_iast_n dX6_gather_14 rfl ⟨Nat.le_of_ble_eq_true rfl, Nat.le_of_ble_eq_true rfl⟩ (by decide) hi ?_
    refine aw_iinc_n (ls2 := [_, _, _]) dX6_gather_15 rfl (by decide) rfl rfl ?_
    refine aw_goto (tgt := 2) dX6_gather_18 (by decide) ?_
    exact ih _ (hR.u (i := 3) (v := 0) (by decide))
theorem yw_begin22 (G : aw_G) {n c : Nat} {I I0 : Nat → Nat → Int32} {L : Nat → Nat → Int64} {s : Nat → Nat → Nat} (hR : zRun s 22 I0 I) {t : Nat → Nat → Nat} (hT : zSet t 11 16 I0) (hk : t 6 0 ≤ 8) : aw_Met G mX6_begin [.ref 22, .ref 11] (yH n I L c) (yzPost n L c 22 I0 (p_begin s t)) := by
  refine aw_Met.of okX6_begin (Nat.le_of_ble_eq_true rfl) ?_
  show aw_W G mX6_begin 0 [.ref 22, .ref 11, aw_x] [] (yH n I L c) (0, 0) _
  refine aw_aload_n dX6_begin_0 rfl ?_
  refine aw_aload_n dX6_begin_1 rfl ?_
  refine aw_getI dX6_begin_2 f6_69 rfl ⟨Nat.le_of_ble_eq_true rfl, Nat.le_of_ble_eq_true rfl⟩ rfl ?_
  refine aw_top (hT.mv hR (by decide) (by decide)).2.1 ?_
  refine aw_putI dX6_begin_5 f6_9 rfl ⟨Nat.le_of_ble_eq_true rfl, Nat.le_of_ble_eq_true rfl⟩ (Or.inl rfl) rfl ?_
  refine aw_aload_n dX6_begin_8 rfl ?_
  refine aw_iconst (v := -1) dX6_begin_9 rfl ?_
  refine aw_top (show (-1 : Int32) = nI 0 - 1 from rfl) ?_
  refine aw_putI dX6_begin_10 f6_47 rfl ⟨Nat.le_of_ble_eq_true rfl, Nat.le_of_ble_eq_true rfl⟩ (Or.inl rfl) rfl ?_
  refine aw_aload_n dX6_begin_13 rfl ?_
  refine aw_iconst (v := -1) dX6_begin_14 rfl ?_
  refine aw_top (show (-1 : Int32) = nI 0 - 1 from rfl) ?_
  refine aw_putI dX6_begin_15 f6_50 rfl ⟨Nat.le_of_ble_eq_true rfl, Nat.le_of_ble_eq_true rfl⟩ (Or.inl rfl) rfl ?_
  refine aw_iconst (v := 0) dX6_begin_18 rfl ?_
  refine aw_istore_n (ls2 := [_, _, _]) dX6_begin_19 (by decide) rfl rfl ?_
  refine aw_up (X := fun i => ∀ I, zRun (p_b1 (aw_u (aw_u (aw_u s 0 0 (t 6 0)) 0 10 0) 0 11 0) i) 22 I0 I → aw_W G mX6_begin 20 [.ref 22, .ref 11, .int (nI i)] [] (yH n I L c) (0, 0) _) (Nat.zero_le 8) (fun I hR => ?_) (fun i _ hi ih I hR => ?_) _ (((hR.u (i := 0) (j := 0) (v := t 6 0) (by decide)).u (i := 0) (j := 10) (v := 0) (by decide)).u (i := 0) (j := 11) (v := 0) (by decide))
  · refine aw_iload_n dX6_begin_20 rfl ?_
    refine aw_bipush (v := 8) dX6_begin_21 (by decide) ?_
    refine aw_ic_ge (tgt := 39) dX6_begin_23 (by decide) (fun _ => ?_) (fun z => absurd (by decide) z)
    refine aw_iconst (v := 0) dX6_begin_39 rfl ?_
    refine aw_istore_n (ls2 := [_, _, _]) dX6_begin_40 (by decide) rfl rfl ?_
    refine aw_up (X := fun i => ∀ I, zRun (p_b2 (p_b1 (aw_u (aw_u (aw_u s 0 0 (t 6 0)) 0 10 0) 0 11 0) 8) t i) 22 I0 I → aw_W G mX6_begin 41 [.ref 22, .ref 11, .int (nI i)] [] (yH n I L c) (0, 0) _) (Nat.zero_le (t 6 0)) (fun I hR => ?_) (fun i _ hi ih I hR => ?_) _ hR
    · refine aw_iload_n dX6_begin_41 rfl ?_
      refine aw_aload_n dX6_begin_42 rfl ?_
      refine aw_getI dX6_begin_43 f6_9 rfl ⟨Nat.le_of_ble_eq_true rfl, Nat.le_of_ble_eq_true rfl⟩ rfl ?_
      have e0 : _ = nI (p_b2 (p_b1 (aw_u (aw_u (aw_u s 0 0 (t 6 0)) 0 10 0) 0 11 0) 8) t (t 6 0) 0 0) := hR.at0 0 (Or.inl rfl)
      rw [p_b2_0, p_b1_row (by decide), aw_u_nj (by decide), aw_u_nj (by decide), aw_u_eq] at e0
      refine aw_top e0 ?_
      refine aw_ic_ge (tgt := 121) dX6_begin_46 (by decide) (fun _ => ?_) (fun z => absurd (nI_le (Nat.le_refl _) (by omega)) z)
      refine aw_ret0 dX6_begin_121 rfl ⟨Nat.le_of_ble_eq_true rfl, Nat.le_of_ble_eq_true rfl⟩ ?_
      exact ⟨rfl, _, rfl, hR⟩
    · have hT1 := hT.mv hR (by decide) (by decide)
      refine aw_iload_n dX6_begin_41 rfl ?_
      refine aw_aload_n dX6_begin_42 rfl ?_
      refine aw_getI dX6_begin_43 f6_9 rfl ⟨Nat.le_of_ble_eq_true rfl, Nat.le_of_ble_eq_true rfl⟩ rfl ?_
      have e0 : _ = nI (p_b2 (p_b1 (aw_u (aw_u (aw_u s 0 0 (t 6 0)) 0 10 0) 0 11 0) 8) t i 0 0) := hR.at0 0 (Or.inl rfl)
      rw [p_b2_0, p_b1_row (by decide), aw_u_nj (by decide), aw_u_nj (by decide), aw_u_eq] at e0
      refine aw_top e0 ?_
      refine aw_ic_ge (tgt := 121) dX6_begin_46 (by decide) (fun z => absurd z (nI_ge hi (by omega))) (fun _ => ?_)
      refine aw_aload_n dX6_begin_49 rfl ?_
      refine aw_getR dX6_begin_50 f6_15 rfl ⟨Nat.le_of_ble_eq_true rfl, Nat.le_of_ble_eq_true rfl⟩ rfl rfl ?_
      refine aw_iload_n dX6_begin_53 rfl ?_
      refine aw_aload_n dX6_begin_54 rfl ?_
      refine aw_getR dX6_begin_55 f6_72 rfl ⟨Nat.le_of_ble_eq_true rfl, Nat.le_of_ble_eq_true rfl⟩ rfl rfl ?_
      refine aw_iload_n dX6_begin_58 rfl ?_
      refine aw_iald_n dX6_begin_59 rfl (Nat.le_of_ble_eq_true rfl) (by decide) (by omega) ?_
      refine aw_top (hT1.1 5 i (by decide) (by omega)) ?_
      refine aw_iast_n dX6_begin_60 rfl ⟨Nat.le_of_ble_eq_true rfl, Nat.le_of_ble_eq_true rfl⟩ (by decide) (by omega) ?_
      refine aw_aload_n dX6_begin_61 rfl ?_
      refine aw_getR dX6_begin_62 f6_28 rfl ⟨Nat.le_of_ble_eq_true rfl, Nat.le_of_ble_eq_true rfl⟩ rfl rfl ?_
      refine aw_iload_n dX6_begin_65 rfl ?_
      refine aw_aload_n dX6_begin_66 rfl ?_
      refine aw_getR dX6_begin_67 f6_75 rfl ⟨Nat.le_of_ble_eq_true rfl, Nat.le_of_ble_eq_true rfl⟩ rfl rfl ?_
      refine aw_iload_n dX6_begin_70 rfl ?_
      refine aw_iald_n dX6_begin_71 rfl (Nat.le_of_ble_eq_true rfl) (by decide) (by omega) ?_
      refine aw_top (hT1.1 0 i (by decide) (by omega)) ?_
      refine aw_iast_n dX6_begin_72 rfl ⟨Nat.le_of_ble_eq_true rfl, Nat.le_of_ble_eq_true rfl⟩ (by decide) (by omega) ?_
      refine aw_aload_n dX6_begin_73 rfl ?_
      refine aw_getR dX6_begin_74 f6_19 rfl ⟨Nat.le_of_ble_eq_true rfl, Nat.le_of_ble_eq_true rfl⟩ rfl rfl ?_
      refine aw_iload_n dX6_begin_77 rfl ?_
      refine aw_aload_n dX6_begin_78 rfl ?_
      refine aw_getR dX6_begin_79 f6_78 rfl ⟨Nat.le_of_ble_eq_true rfl, Nat.le_of_ble_eq_true rfl⟩ rfl rfl ?_
      refine aw_iload_n dX6_begin_82 rfl ?_
      refine aw_iald_n dX6_begin_83 rfl (Nat.le_of_ble_eq_true rfl) (by decide) (by omega) ?_
      refine aw_top (hT1.1 3 i (by decide) (by omega)) ?_
      refine aw_iast_n dX6_begin_84 rfl ⟨Nat.le_of_ble_eq_true rfl, Nat.le_of_ble_eq_true rfl⟩ (by decide) (by omega) ?_
      refine aw_aload_n dX6_begin_85 rfl ?_
      refine aw_getR dX6_begin_86 f6_31 rfl ⟨Nat.le_of_ble_eq_true rfl, Nat.le_of_ble_eq_true rfl⟩ rfl rfl ?_
      refine aw_iload_n dX6_begin_89 rfl ?_
      refine aw_iconst (v := 1) dX6_begin_90 rfl ?_
      refine aw_iast_n dX6_begin_91 rfl ⟨Nat.le_of_ble_eq_true rfl, Nat.le_of_ble_eq_true rfl⟩ (by decide) (by omega) ?_
      refine aw_aload_n dX6_begin_92 rfl ?_
      refine aw_getR dX6_begin_93 f6_34 rfl ⟨Nat.le_of_ble_eq_true rfl, Nat.le_of_ble_eq_true rfl⟩ rfl rfl ?_
      refine aw_iload_n dX6_begin_96 rfl ?_
      refine aw_iconst (v := -1) dX6_begin_97 rfl ?_
      refine aw_top (show (-1 : Int32) = nI 0 - 1 from rfl) ?_
      refine aw_iast_n dX6_begin_98 rfl ⟨Nat.le_of_ble_eq_true rfl, Nat.le_of_ble_eq_true rfl⟩ (by decide) (by omega) ?_
      refine aw_aload_n dX6_begin_99 rfl ?_
      refine aw_getR dX6_begin_100 f6_37 rfl ⟨Nat.le_of_ble_eq_true rfl, Nat.le_of_ble_eq_true rfl⟩ rfl rfl ?_
      refine aw_iload_n dX6_begin_103 rfl ?_
      refine aw_bipush (v := 100) dX6_begin_104 (by decide) ?_
      refine aw_iast_n dX6_begin_106 rfl ⟨Nat.le_of_ble_eq_true rfl, Nat.le_of_ble_eq_true rfl⟩ (by decide) (by omega) ?_
      refine aw_aload_n dX6_begin_107 rfl ?_
      refine aw_getR dX6_begin_108 f6_43 rfl ⟨Nat.le_of_ble_eq_true rfl, Nat.le_of_ble_eq_true rfl⟩ rfl rfl ?_
      refine aw_iload_n dX6_begin_111 rfl ?_
      refine aw_V0c (As := [_]) dX6_begin_112 k6_81 rfl rfl rfl ⟨Nat.le_of_ble_eq_true rfl, Nat.le_of_ble_eq_true rfl⟩ (Nat.le_of_ble_eq_true rfl) ⟨⟨Nat.le_of_ble_eq_true rfl, Nat.le_of_ble_eq_true rfl⟩, ⟨Nat.le_of_ble_eq_true rfl, Nat.le_of_ble_eq_true rfl⟩⟩ ⟨rfl, rfl⟩ (yw_clear22 G ((((((hR.u (i := 1) (j := i) (v := t 5 i) (by decide)).u (i := 5) (j := i) (v := t 0 i) (by decide)).u (i := 2) (j := i) (v := t 3 i) (by decide)).u (i := 6) (j := i) (v := 1) (by decide)).u (i := 7) (j := i) (v := 0) (by decide)).u (i := 8) (j := i) (v := 100) (by decide)) (show i < 8 by omega)) (fun v h2 hq => ?_)
      obtain ⟨rfl, I2, rfl, hR2⟩ := hq
      refine aw_iinc_n (ls2 := [_, _, _]) dX6_begin_115 rfl (by decide) rfl rfl ?_
      refine aw_goto (tgt := 41) dX6_begin_118 (by decide) ?_
      exact ih I2 hR2
  · refine aw_iload_n dX6_begin_20 rfl ?_
    refine aw_bipush (v := 8) dX6_begin_21 (by decide) ?_
    refine aw_ic_ge (tgt := 39) dX6_begin_23 (by decide) (fun z => absurd z (nI_ge (b := 8) hi (by decide))) (fun _ => ?_)
    refine aw_aload_n dX6_begin_26 rfl ?_
    refine aw_getR dX6_begin_27 f6_25 rfl ⟨Nat.le_of_ble_eq_true rfl, Nat.le_of_ble_eq_true rfl⟩ rfl rfl ?_
    refine aw_iload_n dX6_begin_30 rfl ?_
    refine aw_iconst (v := 0) dX6_begin_31 rfl ?_
    refine aw_iast_n dX6_begin_32 rfl ⟨Nat.le_of_ble_eq_true rfl, Nat.le_of_ble_eq_true rfl⟩ (by decide) hi ?_
    refine aw_iinc_n (ls2 := [_, _, _]) dX6_begin_33 rfl (by decide) rfl rfl ?_
    refine aw_goto (tgt := 20) dX6_begin_36 (by decide) ?_
    exact ih _ (hR.u (i := 4) (v := 0) (by decide))
theorem yw_playA (G : aw_G) {n c : Nat} {I I0 : Nat → Nat → Int32} {L : Nat → Nat → Int64} {s t u x : Nat → Nat → Nat} (hR : zRun s 22 I0 I) (hT : zSet t 11 16 I0) (hX : zCh x 12 I0) (hU : zAn u I0) (hTo : zTok t) (hXo : zXok x) (hUo : zUok u) (hO : zOld s 8) : aw_Met G mX6_play [.ref 22, .ref 11] (yH n I L c) (yzPost n L c 22 I0 (p_play s t u x)) := by
  refine aw_Met.of okX6_play (Nat.le_of_ble_eq_true rfl) ?_
  show aw_W G mX6_play 0 [.ref 22, .ref 11, aw_x, aw_x, aw_x] [] (yH n I L c) (0, 0) _
  refine aw_aload_n dX6_play_0 rfl ?_
  refine aw_aload_n dX6_play_1 rfl ?_
  refine aw_V0c (As := [_]) dX6_play_2 k6_53 rfl rfl rfl ⟨Nat.le_of_ble_eq_true rfl, Nat.le_of_ble_eq_true rfl⟩ (Nat.le_of_ble_eq_true rfl) ⟨⟨Nat.le_of_ble_eq_true rfl, Nat.le_of_ble_eq_true rfl⟩, ⟨Nat.le_of_ble_eq_true rfl, Nat.le_of_ble_eq_true rfl⟩⟩ ⟨rfl, rfl⟩ (yw_begin22 G (c := c) hR hT hTo.1) (fun v h2 hq => ?_)
  obtain ⟨rfl, I2, rfl, hR2⟩ := hq
  rw [p_play]
  obtain ⟨z, hzd⟩ : ∃ z, z = p_begin s t := ⟨_, rfl⟩
  have hz : zWf z t 8 := by rw [hzd]; exact zWf.begin hTo hO
  rw [← hzd] at hR2 ⊢
  have hz6 : z 0 0 = t 6 0 := hz.1
  have hz8 : z 0 0 ≤ 8 := by rw [hz.1]; exact hTo.1
  refine aw_aload_n dX6_play_5 rfl ?_
  refine aw_V0c (As := []) dX6_play_6 k6_57 rfl rfl rfl ⟨Nat.le_of_ble_eq_true rfl, Nat.le_of_ble_eq_true rfl⟩ (Nat.le_of_ble_eq_true rfl) ⟨⟨Nat.le_of_ble_eq_true rfl, Nat.le_of_ble_eq_true rfl⟩, ⟨Nat.le_of_ble_eq_true rfl, Nat.le_of_ble_eq_true rfl⟩⟩ ⟨rfl, rfl⟩ (yw_soonest22 G (c := c) hR2 hz8 (fun j hj => by have := (hz.2.2.2.1 j hj).1; omega)) (fun v h2 hq => ?_)
  obtain ⟨rfl, rfl⟩ := hq
  refine aw_istore_n (ls2 := [_, _, _, _, _]) dX6_play_9 (by decide) rfl rfl ?_
  refine aw_iconst (v := 0) dX6_play_10 rfl ?_
  refine aw_istore_n (ls2 := [_, _, _, _, _]) dX6_play_11 (by decide) rfl rfl ?_
  refine aw_up (X := fun i => ∀ I, zRun (p_ev z t u x i) 22 I0 I → aw_W G mX6_play 12 [.ref 22, .ref 11, .int (nI (p_min (p_ev z t u x i 1) (z 0 0))), .int (nI i), aw_x] [] (yH n I L c) (0, 0) _) (Nat.zero_le 40) (fun I hR => ?_) (fun i _ hi ih I hR => ?_) _ hR2
  · refine aw_iload_n dX6_play_12 rfl ?_
    refine aw_bipush (v := 40) dX6_play_13 (by decide) ?_
    refine aw_ic_ge (tgt := 77) dX6_play_15 (by decide) (fun _ => ?_) (fun z => absurd (by decide) z)
    refine aw_ret0 dX6_play_77 rfl ⟨Nat.le_of_ble_eq_true rfl, Nat.le_of_ble_eq_true rfl⟩ ?_
    exact ⟨rfl, _, rfl, hR⟩
  · obtain ⟨S, hS⟩ : ∃ S, S = p_ev z t u x i := ⟨_, rfl⟩
    have hSw : zWf S t (8 + 8 * i) := by rw [hS]; exact hz.ev hXo hTo
    rw [← hS] at hR ⊢
    obtain ⟨h, hhd⟩ : ∃ h, h = p_min (S 1) (z 0 0) := ⟨_, rfl⟩
    rw [← hhd]
    have hb : h ≤ 1000 := by rw [hhd]; exact p_min_le
    refine aw_iload_n dX6_play_12 rfl ?_
    refine aw_bipush (v := 40) dX6_play_13 (by decide) ?_
    refine aw_ic_ge (tgt := 77) dX6_play_15 (by decide) (fun z => absurd z (nI_ge (b := 40) hi (by decide))) (fun _ => ?_)
    refine aw_iload_n dX6_play_18 rfl ?_
    refine aw_bipush (v := 40) dX6_play_19 (by decide) ?_
    refine aw_ic_ge (tgt := 77) dX6_play_21 (by decide) (fun c21 => ?_) (fun c21 => ?_)
    · have hn : ¬ h < 40 := by
        have := (zi_le (a := 40) (by decide) (by omega)).mp c21
        omega
      have e : p_ev z t u x 40 = S := by
        have := p_ev_stop (s := z) (t := t) (u := u) (x := x) (i := i) (by rw [← hS, ← hhd]; exact hn) (40 - i)
        rw [show i + (40 - i) = 40 by omega, ← hS] at this
        exact this
      rw [e]
      refine aw_ret0 dX6_play_77 rfl ⟨Nat.le_of_ble_eq_true rfl, Nat.le_of_ble_eq_true rfl⟩ ?_
      exact ⟨rfl, _, rfl, hR⟩
    · have hh : h < 40 := by
        have : ¬ 40 ≤ h := fun z => c21 ((zi_le (a := 40) (by decide) (by omega)).mpr z)
        omega
      have hw2 := (hSw.gather (h := h) (by omega)).sw (u := u) hXo hTo (h := h) (i := z 0 0) (by omega) (by rw [hz.1]; exact Nat.le_refl _)
      have hpr : ∀ j, p_sw (p_gather S h) t u x h j 3 = p_gather S h 3 := fun j => by
        induction j with
        | zero => rfl
        | succ j ih =>
          rw [p_sw]
          split
          · rw [p_settle_03 (Or.inr rfl), ih]
          · exact ih
      have hpr3 : ∀ p, p < 8 → p_gather S h 3 p ≤ 8 := fun p hp => by
        rw [p_gather, p_g3_row (by decide)]
        exact Nat.le_trans (p_g2_le (fun p hp => p_g1_lt hp) hp) (by rw [hSw.1]; exact hTo.1)
      refine aw_aload_n dX6_play_24 rfl ?_
      refine aw_iload_n dX6_play_25 rfl ?_
      refine aw_V0c (As := [_]) dX6_play_26 k6_61 rfl rfl rfl ⟨Nat.le_of_ble_eq_true rfl, Nat.le_of_ble_eq_true rfl⟩ (Nat.le_of_ble_eq_true rfl) ⟨⟨Nat.le_of_ble_eq_true rfl, Nat.le_of_ble_eq_true rfl⟩, ⟨Nat.le_of_ble_eq_true rfl, Nat.le_of_ble_eq_true rfl⟩⟩ ⟨rfl, rfl⟩ (yw_gather22 G (c := c) hR (by rw [hSw.1]; exact hTo.1) (show h < 900 by omega) hSw.2.1 (fun j hj => by have := hSw.2.2.2.1 j hj; omega)) (fun v h2 hq => ?_)
      obtain ⟨rfl, I2, rfl, hR2⟩ := hq
      refine aw_iconst (v := 0) dX6_play_29 rfl ?_
      refine aw_istore (ls2 := [_, _, _, _, _]) dX6_play_30 (by decide) rfl rfl ?_
      refine aw_up (X := fun j => ∀ I, zRun (p_sw (p_gather S h) t u x h j) 22 I0 I → aw_W G mX6_play 32 [.ref 22, .ref 11, .int (nI h), .int (nI i), .int (nI j)] [] (yH n I L c) (0, 0) _) (Nat.zero_le (z 0 0)) (fun I hR => ?_) (fun j _ hj jh I hR => ?_) _ hR2
      · refine aw_iload dX6_play_32 rfl ?_
        refine aw_aload_n dX6_play_34 rfl ?_
        refine aw_getI dX6_play_35 f6_9 rfl ⟨Nat.le_of_ble_eq_true rfl, Nat.le_of_ble_eq_true rfl⟩ rfl ?_
        have e0 : _ = nI (p_sw (p_gather S h) t u x h (z 0 0) 0 0) := hR.at0 0 (Or.inl rfl)
        rw [hw2.1, ← hz.1] at e0
        refine aw_top e0 ?_
        refine aw_ic_ge (tgt := 66) dX6_play_38 (by decide) (fun _ => ?_) (fun z => absurd (nI_le (Nat.le_refl _) (by omega)) z)
        refine aw_aload_n dX6_play_66 rfl ?_
        refine aw_V0c (As := []) dX6_play_67 k6_57 rfl rfl rfl ⟨Nat.le_of_ble_eq_true rfl, Nat.le_of_ble_eq_true rfl⟩ (Nat.le_of_ble_eq_true rfl) ⟨⟨Nat.le_of_ble_eq_true rfl, Nat.le_of_ble_eq_true rfl⟩, ⟨Nat.le_of_ble_eq_true rfl, Nat.le_of_ble_eq_true rfl⟩⟩ ⟨rfl, rfl⟩ (yw_soonest22 G (c := c) hR (by rw [hw2.1]; omega) (fun j hj => by have := (hw2.2.2.2.1 j hj).1; omega)) (fun v h2 hq => ?_)
        obtain ⟨rfl, rfl⟩ := hq
        rw [hw2.1, ← hz.1]
        refine aw_istore_n (ls2 := [_, _, _, _, _]) dX6_play_70 (by decide) rfl rfl ?_
        refine aw_iinc_n (ls2 := [_, _, _, _, _]) dX6_play_71 rfl (by decide) rfl rfl ?_
        refine aw_goto (tgt := 12) dX6_play_74 (by decide) ?_
        refine aw_kill (j := 4) (ls2 := [_, _, _, _, aw_x]) rfl ?_
        have e : p_ev z t u x (i + 1) = p_sw (p_gather S h) t u x h (z 0 0) := by
          rw [p_ev, ← hS, ← hhd, if_pos hh, p_hour, hSw.1, hz.1]
        have h3 := ih I (by rw [e]; exact hR)
        rw [e] at h3
        exact h3
      · have hwj := (hSw.gather (h := h) (by omega)).sw (u := u) hXo hTo (h := h) (i := j) (by omega) (by omega)
        have hj8 : j < 8 := by omega
        refine aw_iload dX6_play_32 rfl ?_
        refine aw_aload_n dX6_play_34 rfl ?_
        refine aw_getI dX6_play_35 f6_9 rfl ⟨Nat.le_of_ble_eq_true rfl, Nat.le_of_ble_eq_true rfl⟩ rfl ?_
        have e0 : _ = nI (p_sw (p_gather S h) t u x h j 0 0) := hR.at0 0 (Or.inl rfl)
        rw [hwj.1, ← hz.1] at e0
        refine aw_top e0 ?_
        refine aw_ic_ge (tgt := 66) dX6_play_38 (by decide) (fun z => absurd z (nI_ge hj (by omega))) (fun _ => ?_)
        refine aw_aload_n dX6_play_41 rfl ?_
        refine aw_getR dX6_play_42 f6_15 rfl ⟨Nat.le_of_ble_eq_true rfl, Nat.le_of_ble_eq_true rfl⟩ rfl rfl ?_
        refine aw_iload dX6_play_45 rfl ?_
        refine aw_iald_n dX6_play_47 rfl (Nat.le_of_ble_eq_true rfl) (by decide) hj8 ?_
        have e1 := hR.at 1 j (by decide) (by decide) (by decide) (by omega)
        refine aw_top e1 ?_
        have hb1 := (hwj.2.2.2.1 j hj8).1
        refine aw_iload_n dX6_play_48 rfl ?_
        refine aw_ic_ne (tgt := 60) dX6_play_49 (by decide) (fun c49 => ?_) (fun c49 => ?_)
        · refine aw_iinc_n (ls2 := [_, _, _, _, _]) dX6_play_60 rfl (by decide) rfl rfl ?_
          refine aw_goto (tgt := 32) dX6_play_63 (by decide) ?_
          refine jh I ?_
          have n1 : ¬ p_sw (p_gather S h) t u x h j 1 j = h := fun z => c49 (by rw [z]; rfl)
          rw [p_sw, if_neg n1]
          exact hR
        · have he : p_sw (p_gather S h) t u x h j 1 j = h := (zi_eq (by omega) (by omega)).mp c49
          have hst := (hwj.2.2.1 j (by omega)).1 (by omega)
          refine aw_aload_n dX6_play_52 rfl ?_
          refine aw_aload_n dX6_play_53 rfl ?_
          refine aw_iload dX6_play_54 rfl ?_
          refine aw_iload_n dX6_play_56 rfl ?_
          refine aw_V0c (As := [_, _, _]) dX6_play_57 k6_65 rfl rfl rfl ⟨Nat.le_of_ble_eq_true rfl, Nat.le_of_ble_eq_true rfl⟩ (Nat.le_of_ble_eq_true rfl) ⟨⟨Nat.le_of_ble_eq_true rfl, Nat.le_of_ble_eq_true rfl⟩, ⟨Nat.le_of_ble_eq_true rfl, Nat.le_of_ble_eq_true rfl⟩⟩ ⟨rfl, rfl⟩ (yw_settleA G hR hT hX hU hj8 (show h < 1000 by omega) hst (by have := (hwj.2.2.2.1 j hj8).2.2.2; omega) (hwj.2.2.2.1 j hj8).2.2.1 (hTo.2.2 j hj8).2.1 (fun j hj => (hXo j hj).2) (fun j hj => (hXo j hj).1) (hTo.2.2 j hj8).2.2.2.2.1 (hwj.2.2.1 j (by omega)).2 (hTo.2.2 j hj8).2.2.2.1 (by have := hwj.2.2.2.2 (p_sw (p_gather S h) t u x h j 5 j); omega) (by rw [hpr j]; have := hpr3 _ (hwj.2.2.2.1 j hj8).2.2.1; omega) (Nat.lt_trans (hTo.2.2 j hj8).2.2.1 (by decide)) hTo.2.1 hUo.1 hUo.2) (fun v h2 hq => ?_)
          obtain ⟨rfl, I2, rfl, hR2⟩ := hq
          refine aw_iinc_n (ls2 := [_, _, _, _, _]) dX6_play_60 rfl (by decide) rfl rfl ?_
          refine aw_goto (tgt := 32) dX6_play_63 (by decide) ?_
          refine jh I2 ?_
          rw [p_sw, if_pos he]
          exact hR2
