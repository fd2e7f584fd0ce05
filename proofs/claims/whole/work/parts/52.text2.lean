theorem q_k_at {q : Nat → Bool} {W l w j : Nat} (hw : w < q_k q W l) (hj : j < W - 1) : q (w * W + j) = true := by
  rw [Nat.mul_comm]; exact q_k_all (by omega) hw hj
theorem q_k_lt {q : Nat → Bool} {W l w j : Nat} (hw : w < q_k q W l) (hj : j < W - 1) : w * W + j < l := by
  unfold q_k at hw
  split at hw
  · omega
  · split at hw
    · have h1 : W * (l / W) + l % W = l := Nat.div_add_mod l W
      have h2 : w * W ≤ l / W * W := Nat.mul_le_mul_right W (by omega)
      rw [Nat.mul_comm (l / W)] at h2
      omega
    · omega
/-- the numbers of ways and of carters -/
def v_w (b : Nat → Nat) (w j : Nat) : Nat := if j = 0 ∨ j = 1 then b (w * 5 + j) - 97 else if j = 2 then b (w * 5 + 2) - 48 else if b (w * 5 + 3) = 117 then 0 else if b (w * 5 + 3) = 102 then 1 else 2
def v_c (b : Nat → Nat) (w j : Nat) : Nat := if j = 0 ∨ j = 1 then b (w * 7 + j) - 97 else if j = 2 then (if b (w * 7 + 2) = 111 then 0 else if b (w * 7 + 2) = 99 then 1 else 2) else b (w * 7 + j) - 48
theorem q_w_0 {b : Nat → Nat} {w : Nat} (h : q_w b (w * 5 + 0) = true) : q_pl (b (w * 5 + 0)) := by
  unfold q_w at h; rw [if_pos (by omega)] at h; exact of_decide_eq_true h
theorem q_w_1 {b : Nat → Nat} {w : Nat} (h : q_w b (w * 5 + 1) = true) : q_pl (b (w * 5 + 1)) ∧ ¬ b (w * 5 + 1) = b (w * 5) := by
  unfold q_w at h; rw [if_neg (by omega), if_pos (by omega)] at h; exact of_decide_eq_true h
theorem q_w_2 {b : Nat → Nat} {w : Nat} (h : q_w b (w * 5 + 2) = true) : q_fg (b (w * 5 + 2)) ∧ ¬ b (w * 5 + 2) = 48 := by
  unfold q_w at h; rw [if_neg (by omega), if_neg (by omega), if_pos (by omega)] at h; exact of_decide_eq_true h
theorem q_w_3 {b : Nat → Nat} {w : Nat} (h : q_w b (w * 5 + 3) = true) : b (w * 5 + 3) = 117 ∨ b (w * 5 + 3) = 102 ∨ b (w * 5 + 3) = 100 := by
  unfold q_w at h; rw [if_neg (by omega), if_neg (by omega), if_neg (by omega), if_pos (by omega)] at h; exact of_decide_eq_true h
theorem q_c_0 {b : Nat → Nat} {w : Nat} (h : q_c b (w * 7 + 0) = true) : q_pl (b (w * 7 + 0)) := by
  unfold q_c at h; rw [if_pos (by omega)] at h; exact of_decide_eq_true h
theorem q_c_1 {b : Nat → Nat} {w : Nat} (h : q_c b (w * 7 + 1) = true) : q_pl (b (w * 7 + 1)) := by
  unfold q_c at h; rw [if_neg (by omega), if_pos (by omega)] at h; exact of_decide_eq_true h
theorem q_c_2 {b : Nat → Nat} {w : Nat} (h : q_c b (w * 7 + 2) = true) : b (w * 7 + 2) = 111 ∨ b (w * 7 + 2) = 99 ∨ b (w * 7 + 2) = 114 := by
  unfold q_c at h; rw [if_neg (by omega), if_neg (by omega), if_pos (by omega)] at h; exact of_decide_eq_true h
theorem q_c_3 {b : Nat → Nat} {w : Nat} (h : q_c b (w * 7 + 3) = true) : q_fg (b (w * 7 + 3)) := by
  unfold q_c at h; rw [if_neg (by omega), if_neg (by omega), if_neg (by omega), if_pos (by omega)] at h; exact of_decide_eq_true h
theorem q_c_4 {b : Nat → Nat} {w : Nat} (h : q_c b (w * 7 + 4) = true) : q_fg (b (w * 7 + 4)) := by
  unfold q_c at h; rw [if_neg (by omega), if_neg (by omega), if_neg (by omega), if_neg (by omega), if_pos (by omega)] at h; exact of_decide_eq_true h
theorem q_c_5 {b : Nat → Nat} {w : Nat} (h : q_c b (w * 7 + 5) = true) : q_fg (b (w * 7 + 5)) := by
  unfold q_c at h; rw [if_neg (by omega), if_neg (by omega), if_neg (by omega), if_neg (by omega), if_neg (by omega), if_pos (by omega)] at h; exact of_decide_eq_true h
theorem v_w_ok {b : Nat → Nat} {l : Nat} : f_Vok (v_w b) (q_k (q_w b) 5 l) := by
  intro w hw
  have h0 : q_pl (b (w * 5)) := q_w_0 (q_k_at (j := 0) hw (by decide))
  have h1 := q_w_1 (q_k_at (j := 1) hw (by decide))
  have h2 := q_w_2 (q_k_at (j := 2) hw (by decide))
  have h3 := q_w_3 (q_k_at (j := 3) hw (by decide))
  have e0 : v_w b w 0 = b (w * 5) - 97 := by unfold v_w; rw [if_pos (by decide)]; rfl
  have e1 : v_w b w 1 = b (w * 5 + 1) - 97 := by unfold v_w; rw [if_pos (by decide)]
  have e2 : v_w b w 2 = b (w * 5 + 2) - 48 := by unfold v_w; rw [if_neg (by decide), if_pos rfl]
  have e3 : v_w b w 3 ≤ 2 := by unfold v_w; rw [if_neg (by decide), if_neg (by decide)]; repeat' split
                                all_goals omega
  rw [e0, e1, e2]
  refine ⟨by omega, by omega, by omega, by omega, by omega, e3⟩
theorem v_c_ok {b : Nat → Nat} {l w : Nat} (hw : w < q_k (q_c b) 7 l) : v_c b w 0 < 8 ∧ v_c b w 1 < 8 ∧ v_c b w 2 < 3 ∧ v_c b w 3 < 10 ∧ v_c b w 4 < 10 ∧ v_c b w 5 < 10 := by
  have h0 : q_pl (b (w * 7)) := q_c_0 (q_k_at (j := 0) hw (by decide))
  have h1 := q_c_1 (q_k_at (j := 1) hw (by decide))
  have h3 := q_c_3 (q_k_at (j := 3) hw (by decide))
  have h4 := q_c_4 (q_k_at (j := 4) hw (by decide))
  have h5 := q_c_5 (q_k_at (j := 5) hw (by decide))
  have e0 : v_c b w 0 = b (w * 7) - 97 := by unfold v_c; rw [if_pos (by decide)]; rfl
  have e1 : v_c b w 1 = b (w * 7 + 1) - 97 := by unfold v_c; rw [if_pos (by decide)]
  have e2 : v_c b w 2 ≤ 2 := by unfold v_c; rw [if_neg (by decide), if_pos rfl]; repeat' split
                                all_goals omega
  have e3 : v_c b w 3 = b (w * 7 + 3) - 48 := by unfold v_c; rw [if_neg (by decide), if_neg (by decide)]
  have e4 : v_c b w 4 = b (w * 7 + 4) - 48 := by unfold v_c; rw [if_neg (by decide), if_neg (by decide)]
  have e5 : v_c b w 5 = b (w * 7 + 5) - 48 := by unfold v_c; rw [if_neg (by decide), if_neg (by decide)]
  rw [e0, e1, e3, e4, e5]
  exact ⟨by omega, by omega, by omega, by omega, by omega, by omega⟩
theorem q_k_leW {b : Nat → Nat} {l : Nat} (h : l ≤ 49) : q_k (q_w b) 5 l ≤ 10 := by
  unfold q_k; repeat' split
  all_goals omega
theorem q_k_leC {b : Nat → Nat} {l : Nat} (h : l ≤ 55) : q_k (q_c b) 7 l ≤ 8 := by
  unfold q_k; repeat' split
  all_goals omega
theorem q_f_le {q : Nat → Bool} {W l : Nat} : q_f q W l ≤ l + 1 := by
  unfold q_f
  have := q_b_le (q := q) (l := l)
  repeat' split
  all_goals omega
theorem w_numW0 (G : aw_G) {n c : Nat} {I : Nat → Nat → Int32} {L : Nat → Nat → Int64} {b : Nat → Nat} {l : Nat} {w : Nat} (hb : zTbW b l I) (hi : w * 5 + 0 < 49) (hq : q_w b (w * 5 + 0) = true) : aw_Met G mX9_number [.ref 4, .int (nI w), .int 0] (zH n I L c) (fun v h2 => v = some (.int (nI (v_w b w 0))) ∧ h2 = zH n I L c) := by
  obtain ⟨hp0, hp1, hp2, hp3, hp4⟩ := hb.1
  have hbi := (hb.2.1 (w * 5 + 0) hi).2
  have hh := q_w_0 hq
  refine aw_Met.of okX9_number (Nat.le_of_ble_eq_true rfl) ?_
  show aw_W G mX9_number 0 [.ref 4, .int (nI w), .int 0, aw_x] [] (zH n I L c) (0, 0) _
  refine aw_aload_n dX9_number_0 rfl ?_
  refine aw_getR dX9_number_1 f9_34 rfl ⟨Nat.le_of_ble_eq_true rfl, Nat.le_of_ble_eq_true rfl⟩ rfl rfl ?_
  refine aw_iload_n dX9_number_4 rfl ?_
  refine aw_aload_n dX9_number_5 rfl ?_
  refine aw_getR dX9_number_6 f9_21 rfl ⟨Nat.le_of_ble_eq_true rfl, Nat.le_of_ble_eq_true rfl⟩ rfl rfl ?_
  refine aw_alen dX9_number_9 rfl (Nat.le_of_ble_eq_true rfl) ?_
  refine aw_imul_n (a := w) (b := 5) dX9_number_10 ?_
  refine aw_iload_n dX9_number_11 rfl ?_
  refine aw_iadd_n (a := w * 5) (b := 0) dX9_number_12 ?_
  refine aw_iald_n (j := (w * 5) + 0) dX9_number_13 rfl (Nat.le_of_ble_eq_true rfl) (by decide) (by omega) ?_
  refine aw_top (hb.2.1 ((w * 5) + 0) (by omega)).1 ?_
  refine aw_istore_n (ls2 := [_, _, _, _]) dX9_number_14 (by decide) rfl rfl ?_
  refine aw_aload_n dX9_number_15 rfl ?_
  refine aw_getR dX9_number_16 f9_21 rfl ⟨Nat.le_of_ble_eq_true rfl, Nat.le_of_ble_eq_true rfl⟩ rfl rfl ?_
  refine aw_iload_n dX9_number_19 rfl ?_
  refine aw_iald_n (j := 0) dX9_number_20 rfl (Nat.le_of_ble_eq_true rfl) (by decide) (by omega) ?_
  refine aw_top hp0 ?_
  refine aw_swIn (off := 35) (tgt := 56) dX9_number_21 (by decide) (by decide) rfl (by decide) ?_
  refine aw_iload_n dX9_number_56 rfl ?_
  refine aw_bipush (v := 97) dX9_number_57 (by decide) ?_
  refine aw_isub_n (a := b ((w * 5) + 0)) (b := 97) dX9_number_59 (by omega) ?_
  refine aw_reti dX9_number_60 rfl rfl ⟨Nat.le_of_ble_eq_true rfl, Nat.le_of_ble_eq_true rfl⟩ ?_
  refine ⟨?_, rfl⟩
  unfold v_w
  rw [if_pos (by decide)]
theorem w_numW1 (G : aw_G) {n c : Nat} {I : Nat → Nat → Int32} {L : Nat → Nat → Int64} {b : Nat → Nat} {l : Nat} {w : Nat} (hb : zTbW b l I) (hi : w * 5 + 1 < 49) (hq : q_w b (w * 5 + 1) = true) : aw_Met G mX9_number [.ref 4, .int (nI w), .int 1] (zH n I L c) (fun v h2 => v = some (.int (nI (v_w b w 1))) ∧ h2 = zH n I L c) := by
  obtain ⟨hp0, hp1, hp2, hp3, hp4⟩ := hb.1
  have hbi := (hb.2.1 (w * 5 + 1) hi).2
  have hh := q_w_1 hq
  refine aw_Met.of okX9_number (Nat.le_of_ble_eq_true rfl) ?_
  show aw_W G mX9_number 0 [.ref 4, .int (nI w), .int 1, aw_x] [] (zH n I L c) (0, 0) _
  refine aw_aload_n dX9_number_0 rfl ?_
  refine aw_getR dX9_number_1 f9_34 rfl ⟨Nat.le_of_ble_eq_true rfl, Nat.le_of_ble_eq_true rfl⟩ rfl rfl ?_
  refine aw_iload_n dX9_number_4 rfl ?_
  refine aw_aload_n dX9_number_5 rfl ?_
  refine aw_getR dX9_number_6 f9_21 rfl ⟨Nat.le_of_ble_eq_true rfl, Nat.le_of_ble_eq_true rfl⟩ rfl rfl ?_
  refine aw_alen dX9_number_9 rfl (Nat.le_of_ble_eq_true rfl) ?_
  refine aw_imul_n (a := w) (b := 5) dX9_number_10 ?_
  refine aw_iload_n dX9_number_11 rfl ?_
  refine aw_iadd_n (a := w * 5) (b := 1) dX9_number_12 ?_
  refine aw_iald_n (j := (w * 5) + 1) dX9_number_13 rfl (Nat.le_of_ble_eq_true rfl) (by decide) (by omega) ?_
  refine aw_top (hb.2.1 ((w * 5) + 1) (by omega)).1 ?_
  refine aw_istore_n (ls2 := [_, _, _, _]) dX9_number_14 (by decide) rfl rfl ?_
  refine aw_aload_n dX9_number_15 rfl ?_
  refine aw_getR dX9_number_16 f9_21 rfl ⟨Nat.le_of_ble_eq_true rfl, Nat.le_of_ble_eq_true rfl⟩ rfl rfl ?_
  refine aw_iload_n dX9_number_19 rfl ?_
  refine aw_iald_n (j := 1) dX9_number_20 rfl (Nat.le_of_ble_eq_true rfl) (by decide) (by omega) ?_
  refine aw_top hp1 ?_
  refine aw_swIn (off := 35) (tgt := 56) dX9_number_21 (by decide) (by decide) rfl (by decide) ?_
  refine aw_iload_n dX9_number_56 rfl ?_
  refine aw_bipush (v := 97) dX9_number_57 (by decide) ?_
  refine aw_isub_n (a := b ((w * 5) + 1)) (b := 97) dX9_number_59 (by omega) ?_
  refine aw_reti dX9_number_60 rfl rfl ⟨Nat.le_of_ble_eq_true rfl, Nat.le_of_ble_eq_true rfl⟩ ?_
  refine ⟨?_, rfl⟩
  unfold v_w
  rw [if_pos (by decide)]
theorem w_numW2 (G : aw_G) {n c : Nat} {I : Nat → Nat → Int32} {L : Nat → Nat → Int64} {b : Nat → Nat} {l : Nat} {w : Nat} (hb : zTbW b l I) (hi : w * 5 + 2 < 49) (hq : q_w b (w * 5 + 2) = true) : aw_Met G mX9_number [.ref 4, .int (nI w), .int 2] (zH n I L c) (fun v h2 => v = some (.int (nI (v_w b w 2))) ∧ h2 = zH n I L c) := by
  obtain ⟨hp0, hp1, hp2, hp3, hp4⟩ := hb.1
  have hbi := (hb.2.1 (w * 5 + 2) hi).2
  have hh := q_w_2 hq
  refine aw_Met.of okX9_number (Nat.le_of_ble_eq_true rfl) ?_
  show aw_W G mX9_number 0 [.ref 4, .int (nI w), .int 2, aw_x] [] (zH n I L c) (0, 0) _
  refine aw_aload_n dX9_number_0 rfl ?_
  refine aw_getR dX9_number_1 f9_34 rfl ⟨Nat.le_of_ble_eq_true rfl, Nat.le_of_ble_eq_true rfl⟩ rfl rfl ?_
  refine aw_iload_n dX9_number_4 rfl ?_
  refine aw_aload_n dX9_number_5 rfl ?_
  refine aw_getR dX9_number_6 f9_21 rfl ⟨Nat.le_of_ble_eq_true rfl, Nat.le_of_ble_eq_true rfl⟩ rfl rfl ?_
  refine aw_alen dX9_number_9 rfl (Nat.le_of_ble_eq_true rfl) ?_
  refine aw_imul_n (a := w) (b := 5) dX9_number_10 ?_
  refine aw_iload_n dX9_number_11 rfl ?_
  refine aw_iadd_n (a := w * 5) (b := 2) dX9_number_12 ?_
  refine aw_iald_n (j := (w * 5) + 2) dX9_number_13 rfl (Nat.le_of_ble_eq_true rfl) (by decide) (by omega) ?_
  refine aw_top (hb.2.1 ((w * 5) + 2) (by omega)).1 ?_
  refine aw_istore_n (ls2 := [_, _, _, _]) dX9_number_14 (by decide) rfl rfl ?_
  refine aw_aload_n dX9_number_15 rfl ?_
  refine aw_getR dX9_number_16 f9_21 rfl ⟨Nat.le_of_ble_eq_true rfl, Nat.le_of_ble_eq_true rfl⟩ rfl rfl ?_
  refine aw_iload_n dX9_number_19 rfl ?_
  refine aw_iald_n (j := 2) dX9_number_20 rfl (Nat.le_of_ble_eq_true rfl) (by decide) (by omega) ?_
  refine aw_top hp2 ?_
  refine aw_swIn (off := 40) (tgt := 61) dX9_number_21 (by decide) (by decide) rfl (by decide) ?_
  refine aw_iload_n dX9_number_61 rfl ?_
  refine aw_bipush (v := 48) dX9_number_62 (by decide) ?_
  refine aw_isub_n (a := b ((w * 5) + 2)) (b := 48) dX9_number_64 (by omega) ?_
  refine aw_reti dX9_number_65 rfl rfl ⟨Nat.le_of_ble_eq_true rfl, Nat.le_of_ble_eq_true rfl⟩ ?_
  refine ⟨?_, rfl⟩
  unfold v_w
  rw [if_neg (by decide), if_pos rfl]
theorem w_numW3 (G : aw_G) {n c : Nat} {I : Nat → Nat → Int32} {L : Nat → Nat → Int64} {b : Nat → Nat} {l : Nat} {w : Nat} (hb : zTbW b l I) (hi : w * 5 + 3 < 49) (hq : q_w b (w * 5 + 3) = true) : aw_Met G mX9_number [.ref 4, .int (nI w), .int 3] (zH n I L c) (fun v h2 => v = some (.int (nI (v_w b w 3))) ∧ h2 = zH n I L c) := by
  obtain ⟨hp0, hp1, hp2, hp3, hp4⟩ := hb.1
  have hbi := (hb.2.1 (w * 5 + 3) hi).2
  have hh := q_w_3 hq
  refine aw_Met.of okX9_number (Nat.le_of_ble_eq_true rfl) ?_
  show aw_W G mX9_number 0 [.ref 4, .int (nI w), .int 3, aw_x] [] (zH n I L c) (0, 0) _
  refine aw_aload_n dX9_number_0 rfl ?_
  refine aw_getR dX9_number_1 f9_34 rfl ⟨Nat.le_of_ble_eq_true rfl, Nat.le_of_ble_eq_true rfl⟩ rfl rfl ?_
  refine aw_iload_n dX9_number_4 rfl ?_
  refine aw_aload_n dX9_number_5 rfl ?_
  refine aw_getR dX9_number_6 f9_21 rfl ⟨Nat.le_of_ble_eq_true rfl, Nat.le_of_ble_eq_true rfl⟩ rfl rfl ?_
  refine aw_alen dX9_number_9 rfl (Nat.le_of_ble_eq_true rfl) ?_
  refine aw_imul_n (a := w) (b := 5) dX9_number_10 ?_
  refine aw_iload_n dX9_number_11 rfl ?_
  refine aw_iadd_n (a := w * 5) (b := 3) dX9_number_12 ?_
  refine aw_iald_n (j := (w * 5) + 3) dX9_number_13 rfl (Nat.le_of_ble_eq_true rfl) (by decide) (by omega) ?_
  refine aw_top (hb.2.1 ((w * 5) + 3) (by omega)).1 ?_
  refine aw_istore_n (ls2 := [_, _, _, _]) dX9_number_14 (by decide) rfl rfl ?_
  refine aw_aload_n dX9_number_15 rfl ?_
  refine aw_getR dX9_number_16 f9_21 rfl ⟨Nat.le_of_ble_eq_true rfl, Nat.le_of_ble_eq_true rfl⟩ rfl rfl ?_
  refine aw_iload_n dX9_number_19 rfl ?_
  refine aw_iald_n (j := 3) dX9_number_20 rfl (Nat.le_of_ble_eq_true rfl) (by decide) (by omega) ?_
  refine aw_top hp3 ?_
  refine aw_swIn (off := 45) (tgt := 66) dX9_number_21 (by decide) (by decide) rfl (by decide) ?_
  refine aw_iload_n dX9_number_66 rfl ?_
  refine aw_bipush (v := 117) dX9_number_67 (by decide) ?_
  refine aw_ic_ne_n (a := b ((w * 5) + 3)) (b := 117) (tgt := 76) dX9_number_69 (by decide) (by omega) (by omega) (fun c69 => ?_) (fun c69 => ?_)
  · refine aw_iload_n dX9_number_76 rfl ?_
    refine aw_bipush (v := 102) dX9_number_77 (by decide) ?_
    refine aw_ic_ne_n (a := b ((w * 5) + 3)) (b := 102) (tgt := 86) dX9_number_79 (by decide) (by omega) (by omega) (fun c79 => ?_) (fun c79 => ?_)
    · refine aw_iconst (v := 2) dX9_number_86 rfl ?_
      refine aw_reti dX9_number_87 rfl rfl ⟨Nat.le_of_ble_eq_true rfl, Nat.le_of_ble_eq_true rfl⟩ ?_
      refine ⟨?_, rfl⟩
      unfold v_w
      rw [if_neg (by decide), if_neg (by decide)]
      rw [if_neg c69, if_neg c79]
      rfl
    · refine aw_iconst (v := 1) dX9_number_82 rfl ?_
      refine aw_goto (tgt := 87) dX9_number_83 (by decide) ?_
      refine aw_reti dX9_number_87 rfl rfl ⟨Nat.le_of_ble_eq_true rfl, Nat.le_of_ble_eq_true rfl⟩ ?_
      refine ⟨?_, rfl⟩
      unfold v_w
      rw [if_neg (by decide), if_neg (by decide)]
      rw [if_neg c69, if_pos c79]
      rfl
  · refine aw_iconst (v := 0) dX9_number_72 rfl ?_
    refine aw_goto (tgt := 87) dX9_number_73 (by decide) ?_
    refine aw_reti dX9_number_87 rfl rfl ⟨Nat.le_of_ble_eq_true rfl, Nat.le_of_ble_eq_true rfl⟩ ?_
    refine ⟨?_, rfl⟩
    unfold v_w
    rw [if_neg (by decide), if_neg (by decide)]
    rw [if_pos c69]
    rfl
theorem w_numW (G : aw_G) {n c : Nat} {I : Nat → Nat → Int32} {L : Nat → Nat → Int64} {b : Nat → Nat} {l : Nat} {w j : Nat} (hb : zTbW b l I) (hw : w < q_k (q_w b) 5 l) (hj : j < 4) : aw_Met G mX9_number [.ref 4, .int (nI w), .int (nI j)] (zH n I L c) (fun v h2 => v = some (.int (nI (v_w b w j))) ∧ h2 = zH n I L c) := by
  have h : j = 0 ∨ j = 1 ∨ j = 2 ∨ j = 3 := by omega
  have hl := hb.2.2.2.2
  rcases h with rfl | rfl | rfl | rfl
  · exact w_numW0 G hb (by have := q_k_lt (j := 0) hw (by decide); omega) (q_k_at hw (by decide))
  · exact w_numW1 G hb (by have := q_k_lt (j := 1) hw (by decide); omega) (q_k_at hw (by decide))
  · exact w_numW2 G hb (by have := q_k_lt (j := 2) hw (by decide); omega) (q_k_at hw (by decide))
  · exact w_numW3 G hb (by have := q_k_lt (j := 3) hw (by decide); omega) (q_k_at hw (by decide))
theorem w_judgeW (G : aw_G) {n c : Nat} {I : Nat → Nat → Int32} {L : Nat → Nat → Int64} {b : Nat → Nat} {l : Nat} (hb : zTbW b l I) : aw_Met G mX9_judge [.ref 4] (zH n I L c) (fun v h2 => v = none ∧ ∃ I2, h2 = zH n I2 L c ∧ zTxW b l I2 ∧ ∀ o, o ≠ 4 → I2 o = I o) := by
  refine aw_Met.of okX9_judge (Nat.le_of_ble_eq_true rfl) ?_
  show aw_W G mX9_judge 0 [.ref 4, aw_x, aw_x, aw_x] [] (zH n I L c) (0, 0) _
  refine aw_iconst (v := 0) dX9_judge_0 rfl ?_
  refine aw_istore_n (ls2 := [_, _, _, _]) dX9_judge_1 (by decide) rfl rfl ?_
  refine aw_iconst (v := 0) dX9_judge_2 rfl ?_
  refine aw_istore_n (ls2 := [_, _, _, _]) dX9_judge_3 (by decide) rfl rfl ?_
  refine aw_aload_n dX9_judge_4 rfl ?_
  refine aw_iconst (v := 0) dX9_judge_5 rfl ?_
  refine aw_putI dX9_judge_6 f9_18 rfl ⟨Nat.le_of_ble_eq_true rfl, Nat.le_of_ble_eq_true rfl⟩ (Or.inl rfl) rfl ?_
  refine aw_iconst (v := 0) dX9_judge_9 rfl ?_
  refine aw_istore_n (ls2 := [_, _, _, _]) dX9_judge_10 (by decide) rfl rfl ?_
  obtain ⟨I1, hI1⟩ : ∃ I1, I1 = aw_u I 4 5 0 := ⟨_, rfl⟩
  have hI : ∀ o, o ≠ 4 → I1 o = I o := fun o ho => by rw [hI1, aw_u_ne ho]
  have h5 : I1 4 5 = nI 0 := by rw [hI1, aw_u_eq]; rfl
  have hb : zTbW b l I1 := by rw [hI1]; exact hb.u (Or.inr rfl)
  rw [← hI1]
  have hl := hb.2.2.2.2
  refine aw_up (X := fun i => q_b (q_w b) i = 0 → aw_W G mX9_judge 11 [.ref 4, .int (nI (i % 5)), .int (nI (i / 5)), .int (nI i)] [] (zH n I1 L c) (0, 0) _) (Nat.zero_le l) (fun hg => ?_) (fun i _ hi ih hg => ?_) rfl
  · refine aw_iload_n dX9_judge_11 rfl ?_
    refine aw_aload_n dX9_judge_12 rfl ?_
    refine aw_getI dX9_judge_13 f9_9 rfl ⟨Nat.le_of_ble_eq_true rfl, Nat.le_of_ble_eq_true rfl⟩ rfl ?_
    refine aw_top hb.2.2.1 ?_
    refine aw_ic_ge_n (a := l) (b := l) (tgt := 65) dX9_judge_16 (by decide) (by omega) (by omega) (fun c16 => ?_) (fun z => absurd z (by omega))
    refine aw_iload_n dX9_judge_65 rfl ?_
    refine aw_aload_n dX9_judge_66 rfl ?_
    refine aw_getR dX9_judge_67 f9_21 rfl ⟨Nat.le_of_ble_eq_true rfl, Nat.le_of_ble_eq_true rfl⟩ rfl rfl ?_
    refine aw_alen dX9_judge_70 rfl (Nat.le_of_ble_eq_true rfl) ?_
    refine aw_iconst (v := 1) dX9_judge_71 rfl ?_
    refine aw_isub_n (a := 5) (b := 1) dX9_judge_72 (by omega) ?_
    refine aw_ic_ne_n (a := l % 5) (b := 5 - 1) (tgt := 80) dX9_judge_73 (by decide) (by omega) (by omega) (fun c73 => ?_) (fun c73 => ?_)
    · refine aw_iconst (v := 0) dX9_judge_80 rfl ?_
      refine aw_istore_n (ls2 := [_, _, _, _]) dX9_judge_81 (by decide) rfl rfl ?_
      refine aw_aload_n dX9_judge_82 rfl ?_
      refine aw_aload_n dX9_judge_83 rfl ?_
      refine aw_getI dX9_judge_84 f9_9 rfl ⟨Nat.le_of_ble_eq_true rfl, Nat.le_of_ble_eq_true rfl⟩ rfl ?_
      refine aw_top hb.2.2.1 ?_
      refine aw_if_eq_n (a := l) (tgt := 94) dX9_judge_87 (by decide) (by omega) (fun c87 => ?_) (fun c87 => ?_)
      · refine aw_iconst (v := -1) dX9_judge_94 rfl ?_
        refine aw_goto (tgt := 102) dX9_judge_95 (by decide) ?_
        refine aw_putI dX9_judge_102 f9_15 rfl ⟨Nat.le_of_ble_eq_true rfl, Nat.le_of_ble_eq_true rfl⟩ (Or.inl rfl) rfl ?_
        refine aw_aload_n dX9_judge_105 rfl ?_
        refine aw_iload_n dX9_judge_106 rfl ?_
        refine aw_if_eq (tgt := 116) dX9_judge_107 (by decide) (fun _ => ?_) (fun z => absurd (by decide) z)
        refine aw_iconst (v := 0) dX9_judge_116 rfl ?_
        refine aw_putI dX9_judge_117 f9_18 rfl ⟨Nat.le_of_ble_eq_true rfl, Nat.le_of_ble_eq_true rfl⟩ (Or.inl rfl) rfl ?_
        refine aw_ret0 dX9_judge_120 rfl ⟨Nat.le_of_ble_eq_true rfl, Nat.le_of_ble_eq_true rfl⟩ ?_
        refine ⟨rfl, _, rfl, ⟨((hb.u (Or.inl rfl)).u (Or.inr rfl)), ?_, ?_⟩, fun o ho => by rw [aw_u_ne ho, aw_u_ne ho]; exact hI o ho⟩
        · rw [aw_u_nj (by decide), aw_u_eq, q_f, if_neg (by omega)]
          first
          | (rw [if_pos (by omega)]; rfl)
          | (rw [if_neg (by omega)]; exact (nI_pred l).symm)
        · rw [aw_u_eq, q_k, if_neg (by omega)]
          first
          | (rw [if_pos (by omega)])
          | (rw [if_neg (by omega)]; rfl)
      · refine aw_iload_n dX9_judge_90 rfl ?_
        refine aw_if_eq (tgt := 98) dX9_judge_91 (by decide) (fun _ => ?_) (fun z => absurd (by decide) z)
        refine aw_aload_n dX9_judge_98 rfl ?_
        refine aw_getI dX9_judge_99 f9_9 rfl ⟨Nat.le_of_ble_eq_true rfl, Nat.le_of_ble_eq_true rfl⟩ rfl ?_
        refine aw_top hb.2.2.1 ?_
        refine aw_putI dX9_judge_102 f9_15 rfl ⟨Nat.le_of_ble_eq_true rfl, Nat.le_of_ble_eq_true rfl⟩ (Or.inl rfl) rfl ?_
        refine aw_aload_n dX9_judge_105 rfl ?_
        refine aw_iload_n dX9_judge_106 rfl ?_
        refine aw_if_eq (tgt := 116) dX9_judge_107 (by decide) (fun _ => ?_) (fun z => absurd (by decide) z)
        refine aw_iconst (v := 0) dX9_judge_116 rfl ?_
        refine aw_putI dX9_judge_117 f9_18 rfl ⟨Nat.le_of_ble_eq_true rfl, Nat.le_of_ble_eq_true rfl⟩ (Or.inl rfl) rfl ?_
        refine aw_ret0 dX9_judge_120 rfl ⟨Nat.le_of_ble_eq_true rfl, Nat.le_of_ble_eq_true rfl⟩ ?_
        refine ⟨rfl, _, rfl, ⟨((hb.u (Or.inl rfl)).u (Or.inr rfl)), ?_, ?_⟩, fun o ho => by rw [aw_u_ne ho, aw_u_ne ho]; exact hI o ho⟩
        · rw [aw_u_nj (by decide), aw_u_eq, q_f, if_neg (by omega)]
          first
          | (rw [if_pos (by omega)]; rfl)
          | (rw [if_neg (by omega)]; exact (nI_pred l).symm)
        · rw [aw_u_eq, q_k, if_neg (by omega)]
          first
          | (rw [if_pos (by omega)])
          | (rw [if_neg (by omega)]; rfl)
    · refine aw_iconst (v := 1) dX9_judge_76 rfl ?_
      refine aw_goto (tgt := 81) dX9_judge_77 (by decide) ?_
      refine aw_istore_n (ls2 := [_, _, _, _]) dX9_judge_81 (by decide) rfl rfl ?_
      refine aw_aload_n dX9_judge_82 rfl ?_
      refine aw_aload_n dX9_judge_83 rfl ?_
      refine aw_getI dX9_judge_84 f9_9 rfl ⟨Nat.le_of_ble_eq_true rfl, Nat.le_of_ble_eq_true rfl⟩ rfl ?_
      refine aw_top hb.2.2.1 ?_
      refine aw_if_eq_n (a := l) (tgt := 94) dX9_judge_87 (by decide) (by omega) (fun c87 => ?_) (fun c87 => ?_)
      · refine aw_iconst (v := -1) dX9_judge_94 rfl ?_
        refine aw_goto (tgt := 102) dX9_judge_95 (by decide) ?_
        refine aw_putI dX9_judge_102 f9_15 rfl ⟨Nat.le_of_ble_eq_true rfl, Nat.le_of_ble_eq_true rfl⟩ (Or.inl rfl) rfl ?_
        refine aw_aload_n dX9_judge_105 rfl ?_
        refine aw_iload_n dX9_judge_106 rfl ?_
        refine aw_if_eq (tgt := 116) dX9_judge_107 (by decide) (fun z => absurd z (by decide)) (fun _ => ?_)
        refine aw_iload_n dX9_judge_110 rfl ?_
        refine aw_iconst (v := 1) dX9_judge_111 rfl ?_
        refine aw_iadd_n (a := l / 5) (b := 1) dX9_judge_112 ?_
        refine aw_goto (tgt := 117) dX9_judge_113 (by decide) ?_
        refine aw_putI dX9_judge_117 f9_18 rfl ⟨Nat.le_of_ble_eq_true rfl, Nat.le_of_ble_eq_true rfl⟩ (Or.inl rfl) rfl ?_
        refine aw_ret0 dX9_judge_120 rfl ⟨Nat.le_of_ble_eq_true rfl, Nat.le_of_ble_eq_true rfl⟩ ?_
        refine ⟨rfl, _, rfl, ⟨((hb.u (Or.inl rfl)).u (Or.inr rfl)), ?_, ?_⟩, fun o ho => by rw [aw_u_ne ho, aw_u_ne ho]; exact hI o ho⟩
        · rw [aw_u_nj (by decide), aw_u_eq, q_f, if_neg (by omega)]
          first
          | (rw [if_pos (by omega)]; rfl)
          | (rw [if_neg (by omega)]; exact (nI_pred l).symm)
        · rw [aw_u_eq, q_k, if_neg (by omega)]
          first
          | (rw [if_pos (by omega)])
          | (rw [if_neg (by omega)]; rfl)
      · refine aw_iload_n dX9_judge_90 rfl ?_
        refine aw_if_eq (tgt := 98) dX9_judge_91 (by decide) (fun z => absurd z (by decide)) (fun _ => ?_)
        refine aw_iconst (v := -1) dX9_judge_94 rfl ?_
        refine aw_goto (tgt := 102) dX9_judge_95 (by decide) ?_
        refine aw_putI dX9_judge_102 f9_15 rfl ⟨Nat.le_of_ble_eq_true rfl, Nat.le_of_ble_eq_true rfl⟩ (Or.inl rfl) rfl ?_
        refine aw_aload_n dX9_judge_105 rfl ?_
        refine aw_iload_n dX9_judge_106 rfl ?_
        refine aw_if_eq (tgt := 116) dX9_judge_107 (by decide) (fun z => absurd z (by decide)) (fun _ => ?_)
        refine aw_iload_n dX9_judge_110 rfl ?_
        refine aw_iconst (v := 1) dX9_judge_111 rfl ?_
        refine aw_iadd_n (a := l / 5) (b := 1) dX9_judge_112 ?_
        refine aw_goto (tgt := 117) dX9_judge_113 (by decide) ?_
        refine aw_putI dX9_judge_117 f9_18 rfl ⟨Nat.le_of_ble_eq_true rfl, Nat.le_of_ble_eq_true rfl⟩ (Or.inl rfl) rfl ?_
        refine aw_ret0 dX9_judge_120 rfl ⟨Nat.le_of_ble_eq_true rfl, Nat.le_of_ble_eq_true rfl⟩ ?_
        refine ⟨rfl, _, rfl, ⟨((hb.u (Or.inl rfl)).u (Or.inr rfl)), ?_, ?_⟩, fun o ho => by rw [aw_u_ne ho, aw_u_ne ho]; exact hI o ho⟩
        · rw [aw_u_nj (by decide), aw_u_eq, q_f, if_neg (by omega)]
          first
          | (rw [if_pos (by omega)]; rfl)
          | (rw [if_neg (by omega)]; exact (nI_pred l).symm)
        · rw [aw_u_eq, q_k, if_neg (by omega)]
          first
          | (rw [if_pos (by omega)])
          | (rw [if_neg (by omega)]; rfl)
  · refine aw_iload_n dX9_judge_11 rfl ?_
    refine aw_aload_n dX9_judge_12 rfl ?_
    refine aw_getI dX9_judge_13 f9_9 rfl ⟨Nat.le_of_ble_eq_true rfl, Nat.le_of_ble_eq_true rfl⟩ rfl ?_
    refine aw_top hb.2.2.1 ?_
    refine aw_ic_ge_n (a := i) (b := l) (tgt := 65) dX9_judge_16 (by decide) (by omega) (by omega) (fun z => absurd z (by omega)) (fun c16 => ?_)
    refine aw_iload_n dX9_judge_19 rfl ?_
    refine aw_aload_n dX9_judge_20 rfl ?_
    refine aw_getI dX9_judge_21 f9_25 rfl ⟨Nat.le_of_ble_eq_true rfl, Nat.le_of_ble_eq_true rfl⟩ rfl ?_
    refine aw_top hb.2.2.2.1 ?_
    refine aw_ic_ge_n (a := i / 5) (b := 10) (tgt := 36) dX9_judge_24 (by decide) (by omega) (by omega) (fun z => absurd z (by omega)) (fun c24 => ?_)
    refine aw_aload_n dX9_judge_27 rfl ?_
    refine aw_iload_n dX9_judge_28 rfl ?_
    refine aw_iload_n dX9_judge_29 rfl ?_
    refine aw_V0c (As := [_, _]) dX9_judge_30 k9_40 rfl rfl rfl ⟨Nat.le_of_ble_eq_true rfl, Nat.le_of_ble_eq_true rfl⟩ (Nat.le_of_ble_eq_true rfl) ⟨⟨Nat.le_of_ble_eq_true rfl, Nat.le_of_ble_eq_true rfl⟩, ⟨Nat.le_of_ble_eq_true rfl, Nat.le_of_ble_eq_true rfl⟩⟩ ⟨rfl, rfl⟩ (w_fitsW G hb (show i < 49 by omega)) (fun v h2 hq => ?_)
    obtain ⟨rfl, rfl⟩ := hq
    refine aw_if_ne_B (tgt := 42) dX9_judge_33 (by decide) (fun c33 => ?_) (fun c33 => ?_)
    · refine aw_iinc_n (ls2 := [_, _, _, _]) dX9_judge_42 rfl (by decide) rfl rfl ?_
      refine aw_iload_n dX9_judge_45 rfl ?_
      refine aw_aload_n dX9_judge_46 rfl ?_
      refine aw_getR dX9_judge_47 f9_21 rfl ⟨Nat.le_of_ble_eq_true rfl, Nat.le_of_ble_eq_true rfl⟩ rfl rfl ?_
      refine aw_alen dX9_judge_50 rfl (Nat.le_of_ble_eq_true rfl) ?_
      refine aw_ic_ne_n (a := i % 5 + 1) (b := 5) (tgt := 59) dX9_judge_51 (by decide) (by omega) (by omega) (fun c51 => ?_) (fun c51 => ?_)
      · refine aw_iinc_n (ls2 := [_, _, _, _]) dX9_judge_59 rfl (by decide) rfl rfl ?_
        refine aw_goto (tgt := 11) dX9_judge_62 (by decide) ?_
        have e0 : q_b (q_w b) (i + 1) = 0 := by rw [q_b_S hg, if_pos c33]
        have e1 : (i + 1) % 5 = i % 5 + 1 := by omega
        have e2 : (i + 1) / 5 = i / 5 := by omega
        rw [e1, e2] at ih
        exact ih e0
      · refine aw_iconst (v := 0) dX9_judge_54 rfl ?_
        refine aw_istore_n (ls2 := [_, _, _, _]) dX9_judge_55 (by decide) rfl rfl ?_
        refine aw_iinc_n (ls2 := [_, _, _, _]) dX9_judge_56 rfl (by decide) rfl rfl ?_
        refine aw_iinc_n (ls2 := [_, _, _, _]) dX9_judge_59 rfl (by decide) rfl rfl ?_
        refine aw_goto (tgt := 11) dX9_judge_62 (by decide) ?_
        have e0 : q_b (q_w b) (i + 1) = 0 := by rw [q_b_S hg, if_pos c33]
        have e1 : (i + 1) % 5 = 0 := by omega
        have e2 : (i + 1) / 5 = i / 5 + 1 := by omega
        rw [e1, e2] at ih
        exact ih e0
    · refine aw_aload_n dX9_judge_36 rfl ?_
      refine aw_iload_n dX9_judge_37 rfl ?_
      refine aw_putI dX9_judge_38 f9_15 rfl ⟨Nat.le_of_ble_eq_true rfl, Nat.le_of_ble_eq_true rfl⟩ (Or.inl rfl) rfl ?_
      refine aw_ret0 dX9_judge_41 rfl ⟨Nat.le_of_ble_eq_true rfl, Nat.le_of_ble_eq_true rfl⟩ ?_
      have e : q_b (q_w b) (i + 1) = i + 1 := by rw [q_b_S hg, if_neg c33]
      have e2 : q_b (q_w b) l = i + 1 := by
        have := q_b_stop (q := q_w b) (i := i + 1) (by rw [e]; omega) (l - (i + 1))
        rw [show i + 1 + (l - (i + 1)) = l by omega, e] at this
        exact this
      refine ⟨rfl, _, rfl, ⟨(hb.u (Or.inl rfl)), ?_, ?_⟩, fun o ho => by rw [aw_u_ne ho]; exact hI o ho⟩
      · rw [aw_u_eq, q_f, e2, if_pos (by omega)]; exact (nI_pred i).symm
      · rw [aw_u_nj (by decide), q_k, e2, if_pos (by omega)]; exact h5
theorem w_isFullW (G : aw_G) {n c : Nat} {I : Nat → Nat → Int32} {L : Nat → Nat → Int64} {b : Nat → Nat} {l : Nat} (hb : zTbW b l I) : aw_Met G mX9_isFull [.ref 4] (zH n I L c) (fun v h2 => v = some (.int (if l = 49 then 1 else 0)) ∧ h2 = zH n I L c) := by
  have hl := hb.2.2.2.2
  refine aw_Met.of okX9_isFull (Nat.le_of_ble_eq_true rfl) ?_
  show aw_W G mX9_isFull 0 [.ref 4] [] (zH n I L c) (0, 0) _
  refine aw_aload_n dX9_isFull_0 rfl ?_
  refine aw_getI dX9_isFull_1 f9_9 rfl ⟨Nat.le_of_ble_eq_true rfl, Nat.le_of_ble_eq_true rfl⟩ rfl ?_
  refine aw_top hb.2.2.1 ?_
  refine aw_aload_n dX9_isFull_4 rfl ?_
  refine aw_getR dX9_isFull_5 f9_34 rfl ⟨Nat.le_of_ble_eq_true rfl, Nat.le_of_ble_eq_true rfl⟩ rfl rfl ?_
  refine aw_alen dX9_isFull_8 rfl (Nat.le_of_ble_eq_true rfl) ?_
  refine aw_ic_lt_n (a := l) (b := 49) (tgt := 16) dX9_isFull_9 (by decide) (by omega) (by omega) (fun c9 => ?_) (fun c9 => ?_)
  · refine aw_iconst (v := 0) dX9_isFull_16 rfl ?_
    refine aw_reti dX9_isFull_17 rfl rfl ⟨Nat.le_of_ble_eq_true rfl, Nat.le_of_ble_eq_true rfl⟩ ?_
    refine ⟨?_, rfl⟩
    first
    | (rw [if_pos (by omega)])
    | (rw [if_neg (by omega)])
  · refine aw_iconst (v := 1) dX9_isFull_12 rfl ?_
    refine aw_goto (tgt := 17) dX9_isFull_13 (by decide) ?_
    refine aw_reti dX9_isFull_17 rfl rfl ⟨Nat.le_of_ble_eq_true rfl, Nat.le_of_ble_eq_true rfl⟩ ?_
    refine ⟨?_, rfl⟩
    first
    | (rw [if_pos (by omega)])
    | (rw [if_neg (by omega)])
theorem w_cutToW (G : aw_G) {n c : Nat} {I : Nat → Nat → Int32} {L : Nat → Nat → Int64} {b : Nat → Nat} {l : Nat} {l2 : Nat} (hb : zTbW b l I) (h2 : l2 ≤ 49) : aw_Met G mX9_cutTo [.ref 4, .int (nI l2)] (zH n I L c) (fun v h2 => v = none ∧ ∃ I2, h2 = zH n I2 L c ∧ zTxW b l2 I2 ∧ ∀ o, o ≠ 4 → I2 o = I o) := by
  refine aw_Met.of okX9_cutTo (Nat.le_of_ble_eq_true rfl) ?_
  show aw_W G mX9_cutTo 0 [.ref 4, .int (nI l2)] [] (zH n I L c) (0, 0) _
  refine aw_aload_n dX9_cutTo_0 rfl ?_
  refine aw_iload_n dX9_cutTo_1 rfl ?_
  refine aw_putI dX9_cutTo_2 f9_9 rfl ⟨Nat.le_of_ble_eq_true rfl, Nat.le_of_ble_eq_true rfl⟩ (Or.inl rfl) rfl ?_
  have hb2 : zTbW b l2 (aw_u I 4 3 (nI l2)) := by
    refine ⟨?_, fun j hj => ?_, ?_, ?_, h2⟩
    · rw [aw_u_ne (show 1 ≠ 4 by decide)]; exact hb.1
    · rw [aw_u_ne (show 5 ≠ 4 by decide)]; exact hb.2.1 j hj
    · rw [aw_u_eq]
    · rw [aw_u_nj (by decide)]; exact hb.2.2.2.1
  refine aw_aload_n dX9_cutTo_5 rfl ?_
  refine aw_V0c (As := []) dX9_cutTo_6 k9_37 rfl rfl rfl ⟨Nat.le_of_ble_eq_true rfl, Nat.le_of_ble_eq_true rfl⟩ (Nat.le_of_ble_eq_true rfl) ⟨⟨Nat.le_of_ble_eq_true rfl, Nat.le_of_ble_eq_true rfl⟩, ⟨Nat.le_of_ble_eq_true rfl, Nat.le_of_ble_eq_true rfl⟩⟩ ⟨rfl, rfl⟩ (w_judgeW G (b := b) (l := l2) hb2) (fun v h2 hq => ?_)
  obtain ⟨rfl, I2, rfl, hx, hy⟩ := hq
  refine aw_ret0 dX9_cutTo_9 rfl ⟨Nat.le_of_ble_eq_true rfl, Nat.le_of_ble_eq_true rfl⟩ ?_
  exact ⟨rfl, _, rfl, hx, fun o ho => by rw [hy o ho, aw_u_ne ho]⟩
theorem w_pushW (G : aw_G) {n c : Nat} {I : Nat → Nat → Int32} {L : Nat → Nat → Int64} {b : Nat → Nat} {l : Nat} {x : Nat} (hb : zTbW b l I) (hl : l < 49) (hv : x < 256) : aw_Met G mX9_push [.ref 4, .int (nI x)] (zH n I L c) (fun v h2 => v = none ∧ ∃ I2, h2 = zH n I2 L c ∧ zTxW (va_up b l x) (l + 1) I2 ∧ ∀ o, o ≠ 4 → o ≠ 5 → I2 o = I o) := by
  refine aw_Met.of okX9_push (Nat.le_of_ble_eq_true rfl) ?_
  show aw_W G mX9_push 0 [.ref 4, .int (nI x)] [] (zH n I L c) (0, 0) _
  refine aw_aload_n dX9_push_0 rfl ?_
  refine aw_getR dX9_push_1 f9_34 rfl ⟨Nat.le_of_ble_eq_true rfl, Nat.le_of_ble_eq_true rfl⟩ rfl rfl ?_
  refine aw_aload_n dX9_push_4 rfl ?_
  refine aw_getI dX9_push_5 f9_9 rfl ⟨Nat.le_of_ble_eq_true rfl, Nat.le_of_ble_eq_true rfl⟩ rfl ?_
  refine aw_top hb.2.2.1 ?_
  refine aw_iload_n dX9_push_8 rfl ?_
  refine aw_iast_n (j := l) dX9_push_9 rfl ⟨Nat.le_of_ble_eq_true rfl, Nat.le_of_ble_eq_true rfl⟩ (by decide) (by omega) ?_
  refine aw_aload_n dX9_push_10 rfl ?_
  refine aw_dup dX9_push_11 rfl ?_
  refine aw_getI dX9_push_12 f9_9 rfl ⟨Nat.le_of_ble_eq_true rfl, Nat.le_of_ble_eq_true rfl⟩ rfl ?_
  refine aw_top (show _ = nI l by rw [aw_u_ne (show 4 ≠ 5 by decide)]; exact hb.2.2.1) ?_
  refine aw_iconst (v := 1) dX9_push_15 rfl ?_
  refine aw_iadd_n (a := l) (b := 1) dX9_push_16 ?_
  refine aw_putI dX9_push_17 f9_9 rfl ⟨Nat.le_of_ble_eq_true rfl, Nat.le_of_ble_eq_true rfl⟩ (Or.inl rfl) rfl ?_
  have hb2 : zTbW (va_up b l x) (l + 1) (aw_u (aw_u I 5 l (nI x)) 4 3 (nI (l + 1))) := by
    refine ⟨?_, fun j hj => ?_, ?_, ?_, by omega⟩
    · rw [aw_u_ne (show 1 ≠ 4 by decide), aw_u_ne (show 1 ≠ 5 by decide)]; exact hb.1
    · rw [aw_u_ne (show 5 ≠ 4 by decide)]
      by_cases hjl : j = l
      · subst hjl; rw [aw_u_eq]; simp [va_up, hv]
      · rw [aw_u_nj hjl]; simp only [va_up, if_neg hjl]; exact hb.2.1 j hj
    · rw [aw_u_eq]
    · rw [aw_u_nj (by decide), aw_u_ne (show 4 ≠ 5 by decide)]; exact hb.2.2.2.1
  refine aw_aload_n dX9_push_20 rfl ?_
  refine aw_V0c (As := []) dX9_push_21 k9_37 rfl rfl rfl ⟨Nat.le_of_ble_eq_true rfl, Nat.le_of_ble_eq_true rfl⟩ (Nat.le_of_ble_eq_true rfl) ⟨⟨Nat.le_of_ble_eq_true rfl, Nat.le_of_ble_eq_true rfl⟩, ⟨Nat.le_of_ble_eq_true rfl, Nat.le_of_ble_eq_true rfl⟩⟩ ⟨rfl, rfl⟩ (w_judgeW G (b := va_up b l x) (l := l + 1) hb2) (fun v h2 hq => ?_)
  obtain ⟨rfl, I2, rfl, hx, hy⟩ := hq
  refine aw_ret0 dX9_push_24 rfl ⟨Nat.le_of_ble_eq_true rfl, Nat.le_of_ble_eq_true rfl⟩ ?_
  exact ⟨rfl, _, rfl, hx, fun o ho hp => by rw [hy o ho, aw_u_ne ho, aw_u_ne hp]⟩
theorem w_numC0 (G : aw_G) {n c : Nat} {I : Nat → Nat → Int32} {L : Nat → Nat → Int64} {b : Nat → Nat} {l : Nat} {w : Nat} (hb : zTbC b l I) (hi : w * 7 + 0 < 55) (hq : q_c b (w * 7 + 0) = true) : aw_Met G mX9_number [.ref 6, .int (nI w), .int 0] (zH n I L c) (fun v h2 => v = some (.int (nI (v_c b w 0))) ∧ h2 = zH n I L c) := by
  obtain ⟨hp0, hp1, hp2, hp3, hp4, hp5, hp6⟩ := hb.1
  have hbi := (hb.2.1 (w * 7 + 0) hi).2
  have hh := q_c_0 hq
  refine aw_Met.of okX9_number (Nat.le_of_ble_eq_true rfl) ?_
  show aw_W G mX9_number 0 [.ref 6, .int (nI w), .int 0, aw_x] [] (zH n I L c) (0, 0) _
  refine aw_aload_n dX9_number_0 rfl ?_
  refine aw_getR dX9_number_1 f9_34 rfl ⟨Nat.le_of_ble_eq_true rfl, Nat.le_of_ble_eq_true rfl⟩ rfl rfl ?_
  refine aw_iload_n dX9_number_4 rfl ?_
  refine aw_aload_n dX9_number_5 rfl ?_
  refine aw_getR dX9_number_6 f9_21 rfl ⟨Nat.le_of_ble_eq_true rfl, Nat.le_of_ble_eq_true rfl⟩ rfl rfl ?_
  refine aw_alen dX9_number_9 rfl (Nat.le_of_ble_eq_true rfl) ?_
  refine aw_imul_n (a := w) (b := 7) dX9_number_10 ?_
  refine aw_iload_n dX9_number_11 rfl ?_
  refine aw_iadd_n (a := w * 7) (b := 0) dX9_number_12 ?_
  refine aw_iald_n (j := (w * 7) + 0) dX9_number_13 rfl (Nat.le_of_ble_eq_true rfl) (by decide) (by omega) ?_
  refine aw_top (hb.2.1 ((w * 7) + 0) (by omega)).1 ?_
  refine aw_istore_n (ls2 := [_, _, _, _]) dX9_number_14 (by decide) rfl rfl ?_
  refine aw_aload_n dX9_number_15 rfl ?_
  refine aw_getR dX9_number_16 f9_21 rfl ⟨Nat.le_of_ble_eq_true rfl, Nat.le_of_ble_eq_true rfl⟩ rfl rfl ?_
  refine aw_iload_n dX9_number_19 rfl ?_
  refine aw_iald_n (j := 0) dX9_number_20 rfl (Nat.le_of_ble_eq_true rfl) (by decide) (by omega) ?_
  refine aw_top hp0 ?_
  refine aw_swIn (off := 35) (tgt := 56) dX9_number_21 (by decide) (by decide) rfl (by decide) ?_
  refine aw_iload_n dX9_number_56 rfl ?_
  refine aw_bipush (v := 97) dX9_number_57 (by decide) ?_
  refine aw_isub_n (a := b ((w * 7) + 0)) (b := 97) dX9_number_59 (by omega) ?_
  refine aw_reti dX9_number_60 rfl rfl ⟨Nat.le_of_ble_eq_true rfl, Nat.le_of_ble_eq_true rfl⟩ ?_
  refine ⟨?_, rfl⟩
  unfold v_c
  rw [if_pos (by decide)]
theorem w_numC1 (G : aw_G) {n c : Nat} {I : Nat → Nat → Int32} {L : Nat → Nat → Int64} {b : Nat → Nat} {l : Nat} {w : Nat} (hb : zTbC b l I) (hi : w * 7 + 1 < 55) (hq : q_c b (w * 7 + 1) = true) : aw_Met G mX9_number [.ref 6, .int (nI w), .int 1] (zH n I L c) (fun v h2 => v = some (.int (nI (v_c b w 1))) ∧ h2 = zH n I L c) := by
  obtain ⟨hp0, hp1, hp2, hp3, hp4, hp5, hp6⟩ := hb.1
  have hbi := (hb.2.1 (w * 7 + 1) hi).2
  have hh := q_c_1 hq
  refine aw_Met.of okX9_number (Nat.le_of_ble_eq_true rfl) ?_
  show aw_W G mX9_number 0 [.ref 6, .int (nI w), .int 1, aw_x] [] (zH n I L c) (0, 0) _
  refine aw_aload_n dX9_number_0 rfl ?_
  refine aw_getR dX9_number_1 f9_34 rfl ⟨Nat.le_of_ble_eq_true rfl, Nat.le_of_ble_eq_true rfl⟩ rfl rfl ?_
  refine aw_iload_n dX9_number_4 rfl ?_
  refine aw_aload_n dX9_number_5 rfl ?_
  refine aw_getR dX9_number_6 f9_21 rfl ⟨Nat.le_of_ble_eq_true rfl, Nat.le_of_ble_eq_true rfl⟩ rfl rfl ?_
  refine aw_alen dX9_number_9 rfl (Nat.le_of_ble_eq_true rfl) ?_
  refine aw_imul_n (a := w) (b := 7) dX9_number_10 ?_
  refine aw_iload_n dX9_number_11 rfl ?_
  refine aw_iadd_n (a := w * 7) (b := 1) dX9_number_12 ?_
  refine aw_iald_n (j := (w * 7) + 1) dX9_number_13 rfl (Nat.le_of_ble_eq_true rfl) (by decide) (by omega) ?_
  refine aw_top (hb.2.1 ((w * 7) + 1) (by omega)).1 ?_
  refine aw_istore_n (ls2 := [_, _, _, _]) dX9_number_14 (by decide) rfl rfl ?_
  refine aw_aload_n dX9_number_15 rfl ?_
  refine aw_getR dX9_number_16 f9_21 rfl ⟨Nat.le_of_ble_eq_true rfl, Nat.le_of_ble_eq_true rfl⟩ rfl rfl ?_
  refine aw_iload_n dX9_number_19 rfl ?_
  refine aw_iald_n (j := 1) dX9_number_20 rfl (Nat.le_of_ble_eq_true rfl) (by decide) (by omega) ?_
  refine aw_top hp1 ?_
  refine aw_swIn (off := 35) (tgt := 56) dX9_number_21 (by decide) (by decide) rfl (by decide) ?_
  refine aw_iload_n dX9_number_56 rfl ?_
  refine aw_bipush (v := 97) dX9_number_57 (by decide) ?_
  refine aw_isub_n (a := b ((w * 7) + 1)) (b := 97) dX9_number_59 (by omega) ?_
  refine aw_reti dX9_number_60 rfl rfl ⟨Nat.le_of_ble_eq_true rfl, Nat.le_of_ble_eq_true rfl⟩ ?_
  refine ⟨?_, rfl⟩
  unfold v_c
  rw [if_pos (by decide)]
theorem w_numC2 (G : aw_G) {n c : Nat} {I : Nat → Nat → Int32} {L : Nat → Nat → Int64} {b : Nat → Nat} {l : Nat} {w : Nat} (hb : zTbC b l I) (hi : w * 7 + 2 < 55) (hq : q_c b (w * 7 + 2) = true) : aw_Met G mX9_number [.ref 6, .int (nI w), .int 2] (zH n I L c) (fun v h2 => v = some (.int (nI (v_c b w 2))) ∧ h2 = zH n I L c) := by
  obtain ⟨hp0, hp1, hp2, hp3, hp4, hp5, hp6⟩ := hb.1
  have hbi := (hb.2.1 (w * 7 + 2) hi).2
  have hh := q_c_2 hq
  refine aw_Met.of okX9_number (Nat.le_of_ble_eq_true rfl) ?_
  show aw_W G mX9_number 0 [.ref 6, .int (nI w), .int 2, aw_x] [] (zH n I L c) (0, 0) _
  refine aw_aload_n dX9_number_0 rfl ?_
  refine aw_getR dX9_number_1 f9_34 rfl ⟨Nat.le_of_ble_eq_true rfl, Nat.le_of_ble_eq_true rfl⟩ rfl rfl ?_
  refine aw_iload_n dX9_number_4 rfl ?_
  refine aw_aload_n dX9_number_5 rfl ?_
  refine aw_getR dX9_number_6 f9_21 rfl ⟨Nat.le_of_ble_eq_true rfl, Nat.le_of_ble_eq_true rfl⟩ rfl rfl ?_
  refine aw_alen dX9_number_9 rfl (Nat.le_of_ble_eq_true rfl) ?_
  refine aw_imul_n (a := w) (b := 7) dX9_number_10 ?_
  refine aw_iload_n dX9_number_11 rfl ?_
  refine aw_iadd_n (a := w * 7) (b := 2) dX9_number_12 ?_
  refine aw_iald_n (j := (w * 7) + 2) dX9_number_13 rfl (Nat.le_of_ble_eq_true rfl) (by decide) (by omega) ?_
  refine aw_top (hb.2.1 ((w * 7) + 2) (by omega)).1 ?_
  refine aw_istore_n (ls2 := [_, _, _, _]) dX9_number_14 (by decide) rfl rfl ?_
  refine aw_aload_n dX9_number_15 rfl ?_
  refine aw_getR dX9_number_16 f9_21 rfl ⟨Nat.le_of_ble_eq_true rfl, Nat.le_of_ble_eq_true rfl⟩ rfl rfl ?_
  refine aw_iload_n dX9_number_19 rfl ?_
  refine aw_iald_n (j := 2) dX9_number_20 rfl (Nat.le_of_ble_eq_true rfl) (by decide) (by omega) ?_
  refine aw_top hp2 ?_
  refine aw_swOut (tgt := 88) dX9_number_21 (by decide) (by decide) ?_
  refine aw_iload_n dX9_number_88 rfl ?_
  refine aw_bipush (v := 111) dX9_number_89 (by decide) ?_
  refine aw_ic_ne_n (a := b ((w * 7) + 2)) (b := 111) (tgt := 98) dX9_number_91 (by decide) (by omega) (by omega) (fun c91 => ?_) (fun c91 => ?_)
  · refine aw_iload_n dX9_number_98 rfl ?_
    refine aw_bipush (v := 99) dX9_number_99 (by decide) ?_
    refine aw_ic_ne_n (a := b ((w * 7) + 2)) (b := 99) (tgt := 108) dX9_number_101 (by decide) (by omega) (by omega) (fun c101 => ?_) (fun c101 => ?_)
    · refine aw_iconst (v := 2) dX9_number_108 rfl ?_
      refine aw_reti dX9_number_109 rfl rfl ⟨Nat.le_of_ble_eq_true rfl, Nat.le_of_ble_eq_true rfl⟩ ?_
      refine ⟨?_, rfl⟩
      unfold v_c
      rw [if_neg (by decide), if_pos rfl]
      rw [if_neg c91, if_neg c101]
      rfl
    · refine aw_iconst (v := 1) dX9_number_104 rfl ?_
      refine aw_goto (tgt := 109) dX9_number_105 (by decide) ?_
      refine aw_reti dX9_number_109 rfl rfl ⟨Nat.le_of_ble_eq_true rfl, Nat.le_of_ble_eq_true rfl⟩ ?_
      refine ⟨?_, rfl⟩
      unfold v_c
      rw [if_neg (by decide), if_pos rfl]
      rw [if_neg c91, if_pos c101]
      rfl
  · refine aw_iconst (v := 0) dX9_number_94 rfl ?_
    refine aw_goto (tgt := 109) dX9_number_95 (by decide) ?_
    refine aw_reti dX9_number_109 rfl rfl ⟨Nat.le_of_ble_eq_true rfl, Nat.le_of_ble_eq_true rfl⟩ ?_
    refine ⟨?_, rfl⟩
    unfold v_c
    rw [if_neg (by decide), if_pos rfl]
    rw [if_pos c91]
    rfl
theorem w_numC3 (G : aw_G) {n c : Nat} {I : Nat → Nat → Int32} {L : Nat → Nat → Int64} {b : Nat → Nat} {l : Nat} {w : Nat} (hb : zTbC b l I) (hi : w * 7 + 3 < 55) (hq : q_c b (w * 7 + 3) = true) : aw_Met G mX9_number [.ref 6, .int (nI w), .int 3] (zH n I L c) (fun v h2 => v = some (.int (nI (v_c b w 3))) ∧ h2 = zH n I L c) := by
  obtain ⟨hp0, hp1, hp2, hp3, hp4, hp5, hp6⟩ := hb.1
  have hbi := (hb.2.1 (w * 7 + 3) hi).2
  have hh := q_c_3 hq
  refine aw_Met.of okX9_number (Nat.le_of_ble_eq_true rfl) ?_
  show aw_W G mX9_number 0 [.ref 6, .int (nI w), .int 3, aw_x] [] (zH n I L c) (0, 0) _
  refine aw_aload_n dX9_number_0 rfl ?_
  refine aw_getR dX9_number_1 f9_34 rfl ⟨Nat.le_of_ble_eq_true rfl, Nat.le_of_ble_eq_true rfl⟩ rfl rfl ?_
  refine aw_iload_n dX9_number_4 rfl ?_
  refine aw_aload_n dX9_number_5 rfl ?_
  refine aw_getR dX9_number_6 f9_21 rfl ⟨Nat.le_of_ble_eq_true rfl, Nat.le_of_ble_eq_true rfl⟩ rfl rfl ?_
  refine aw_alen dX9_number_9 rfl (Nat.le_of_ble_eq_true rfl) ?_
  refine aw_imul_n (a := w) (b := 7) dX9_number_10 ?_
  refine aw_iload_n dX9_number_11 rfl ?_
  refine aw_iadd_n (a := w * 7) (b := 3) dX9_number_12 ?_
  refine aw_iald_n (j := (w * 7) + 3) dX9_number_13 rfl (Nat.le_of_ble_eq_true rfl) (by decide) (by omega) ?_
  refine aw_top (hb.2.1 ((w * 7) + 3) (by omega)).1 ?_
  refine aw_istore_n (ls2 := [_, _, _, _]) dX9_number_14 (by decide) rfl rfl ?_
  refine aw_aload_n dX9_number_15 rfl ?_
  refine aw_getR dX9_number_16 f9_21 rfl ⟨Nat.le_of_ble_eq_true rfl, Nat.le_of_ble_eq_true rfl⟩ rfl rfl ?_
  refine aw_iload_n dX9_number_19 rfl ?_
  refine aw_iald_n (j := 3) dX9_number_20 rfl (Nat.le_of_ble_eq_true rfl) (by decide) (by omega) ?_
  refine aw_top hp3 ?_
  refine aw_swIn (off := 40) (tgt := 61) dX9_number_21 (by decide) (by decide) rfl (by decide) ?_
  refine aw_iload_n dX9_number_61 rfl ?_
  refine aw_bipush (v := 48) dX9_number_62 (by decide) ?_
  refine aw_isub_n (a := b ((w * 7) + 3)) (b := 48) dX9_number_64 (by omega) ?_
  refine aw_reti dX9_number_65 rfl rfl ⟨Nat.le_of_ble_eq_true rfl, Nat.le_of_ble_eq_true rfl⟩ ?_
  refine ⟨?_, rfl⟩
  unfold v_c
  rw [if_neg (by decide), if_neg (by decide)]
theorem w_numC4 (G : aw_G) {n c : Nat} {I : Nat → Nat → Int32} {L : Nat → Nat → Int64} {b : Nat → Nat} {l : Nat} {w : Nat} (hb : zTbC b l I) (hi : w * 7 + 4 < 55) (hq : q_c b (w * 7 + 4) = true) : aw_Met G mX9_number [.ref 6, .int (nI w), .int 4] (zH n I L c) (fun v h2 => v = some (.int (nI (v_c b w 4))) ∧ h2 = zH n I L c) := by
  obtain ⟨hp0, hp1, hp2, hp3, hp4, hp5, hp6⟩ := hb.1
  have hbi := (hb.2.1 (w * 7 + 4) hi).2
  have hh := q_c_4 hq
  refine aw_Met.of okX9_number (Nat.le_of_ble_eq_true rfl) ?_
  show aw_W G mX9_number 0 [.ref 6, .int (nI w), .int 4, aw_x] [] (zH n I L c) (0, 0) _
  refine aw_aload_n dX9_number_0 rfl ?_
  refine aw_getR dX9_number_1 f9_34 rfl ⟨Nat.le_of_ble_eq_true rfl, Nat.le_of_ble_eq_true rfl⟩ rfl rfl ?_
  refine aw_iload_n dX9_number_4 rfl ?_
  refine aw_aload_n dX9_number_5 rfl ?_
  refine aw_getR dX9_number_6 f9_21 rfl ⟨Nat.le_of_ble_eq_true rfl, Nat.le_of_ble_eq_true rfl⟩ rfl rfl ?_
  refine aw_alen dX9_number_9 rfl (Nat.le_of_ble_eq_true rfl) ?_
  refine aw_imul_n (a := w) (b := 7) dX9_number_10 ?_
  refine aw_iload_n dX9_number_11 rfl ?_
  refine aw_iadd_n (a := w * 7) (b := 4) dX9_number_12 ?_
  refine aw_iald_n (j := (w * 7) + 4) dX9_number_13 rfl (Nat.le_of_ble_eq_true rfl) (by decide) (by omega) ?_
  refine aw_top (hb.2.1 ((w * 7) + 4) (by omega)).1 ?_
  refine aw_istore_n (ls2 := [_, _, _, _]) dX9_number_14 (by decide) rfl rfl ?_
  refine aw_aload_n dX9_number_15 rfl ?_
  refine aw_getR dX9_number_16 f9_21 rfl ⟨Nat.le_of_ble_eq_true rfl, Nat.le_of_ble_eq_true rfl⟩ rfl rfl ?_
  refine aw_iload_n dX9_number_19 rfl ?_
  refine aw_iald_n (j := 4) dX9_number_20 rfl (Nat.le_of_ble_eq_true rfl) (by decide) (by omega) ?_
  refine aw_top hp4 ?_
  refine aw_swIn (off := 40) (tgt := 61) dX9_number_21 (by decide) (by decide) rfl (by decide) ?_
  refine aw_iload_n dX9_number_61 rfl ?_
  refine aw_bipush (v := 48) dX9_number_62 (by decide) ?_
  refine aw_isub_n (a := b ((w * 7) + 4)) (b := 48) dX9_number_64 (by omega) ?_
  refine aw_reti dX9_number_65 rfl rfl ⟨Nat.le_of_ble_eq_true rfl, Nat.le_of_ble_eq_true rfl⟩ ?_
  refine ⟨?_, rfl⟩
  unfold v_c
  rw [if_neg (by decide), if_neg (by decide)]
theorem w_numC5 (G : aw_G) {n c : Nat} {I : Nat → Nat → Int32} {L : Nat → Nat → Int64} {b : Nat → Nat} {l : Nat} {w : Nat} (hb : zTbC b l I) (hi : w * 7 + 5 < 55) (hq : q_c b (w * 7 + 5) = true) : aw_Met G mX9_number [.ref 6, .int (nI w), .int 5] (zH n I L c) (fun v h2 => v = some (.int (nI (v_c b w 5))) ∧ h2 = zH n I L c) := by
  obtain ⟨hp0, hp1, hp2, hp3, hp4, hp5, hp6⟩ := hb.1
  have hbi := (hb.2.1 (w * 7 + 5) hi).2
  have hh := q_c_5 hq
  refine aw_Met.of okX9_number (Nat.le_of_ble_eq_true rfl) ?_
  show aw_W G mX9_number 0 [.ref 6, .int (nI w), .int 5, aw_x] [] (zH n I L c) (0, 0) _
  refine aw_aload_n dX9_number_0 rfl ?_
  refine aw_getR dX9_number_1 f9_34 rfl ⟨Nat.le_of_ble_eq_true rfl, Nat.le_of_ble_eq_true rfl⟩ rfl rfl ?_
  refine aw_iload_n dX9_number_4 rfl ?_
  refine aw_aload_n dX9_number_5 rfl ?_
  refine aw_getR dX9_number_6 f9_21 rfl ⟨Nat.le_of_ble_eq_true rfl, Nat.le_of_ble_eq_true rfl⟩ rfl rfl ?_
  refine aw_alen dX9_number_9 rfl (Nat.le_of_ble_eq_true rfl) ?_
  refine aw_imul_n (a := w) (b := 7) dX9_number_10 ?_
  refine aw_iload_n dX9_number_11 rfl ?_
  refine aw_iadd_n (a := w * 7) (b := 5) dX9_number_12 ?_
  refine aw_iald_n (j := (w * 7) + 5) dX9_number_13 rfl (Nat.le_of_ble_eq_true rfl) (by decide) (by omega) ?_
  refine aw_top (hb.2.1 ((w * 7) + 5) (by omega)).1 ?_
  refine aw_istore_n (ls2 := [_, _, _, _]) dX9_number_14 (by decide) rfl rfl ?_
  refine aw_aload_n dX9_number_15 rfl ?_
  refine aw_getR dX9_number_16 f9_21 rfl ⟨Nat.le_of_ble_eq_true rfl, Nat.le_of_ble_eq_true rfl⟩ rfl rfl ?_
  refine aw_iload_n dX9_number_19 rfl ?_
  refine aw_iald_n (j := 5) dX9_number_20 rfl (Nat.le_of_ble_eq_true rfl) (by decide) (by omega) ?_
  refine aw_top hp5 ?_
  refine aw_swIn (off := 40) (tgt := 61) dX9_number_21 (by decide) (by decide) rfl (by decide) ?_
  refine aw_iload_n dX9_number_61 rfl ?_
  refine aw_bipush (v := 48) dX9_number_62 (by decide) ?_
  refine aw_isub_n (a := b ((w * 7) + 5)) (b := 48) dX9_number_64 (by omega) ?_
  refine aw_reti dX9_number_65 rfl rfl ⟨Nat.le_of_ble_eq_true rfl, Nat.le_of_ble_eq_true rfl⟩ ?_
  refine ⟨?_, rfl⟩
  unfold v_c
  rw [if_neg (by decide), if_neg (by decide)]
theorem w_numC (G : aw_G) {n c : Nat} {I : Nat → Nat → Int32} {L : Nat → Nat → Int64} {b : Nat → Nat} {l : Nat} {w j : Nat} (hb : zTbC b l I) (hw : w < q_k (q_c b) 7 l) (hj : j < 6) : aw_Met G mX9_number [.ref 6, .int (nI w), .int (nI j)] (zH n I L c) (fun v h2 => v = some (.int (nI (v_c b w j))) ∧ h2 = zH n I L c) := by
  have h : j = 0 ∨ j = 1 ∨ j = 2 ∨ j = 3 ∨ j = 4 ∨ j = 5 := by omega
  have hl := hb.2.2.2.2
  rcases h with rfl | rfl | rfl | rfl | rfl | rfl
  · exact w_numC0 G hb (by have := q_k_lt (j := 0) hw (by decide); omega) (q_k_at hw (by decide))
  · exact w_numC1 G hb (by have := q_k_lt (j := 1) hw (by decide); omega) (q_k_at hw (by decide))
  · exact w_numC2 G hb (by have := q_k_lt (j := 2) hw (by decide); omega) (q_k_at hw (by decide))
  · exact w_numC3 G hb (by have := q_k_lt (j := 3) hw (by decide); omega) (q_k_at hw (by decide))
  · exact w_numC4 G hb (by have := q_k_lt (j := 4) hw (by decide); omega) (q_k_at hw (by decide))
  · exact w_numC5 G hb (by have := q_k_lt (j := 5) hw (by decide); omega) (q_k_at hw (by decide))
theorem w_judgeC (G : aw_G) {n c : Nat} {I : Nat → Nat → Int32} {L : Nat → Nat → Int64} {b : Nat → Nat} {l : Nat} (hb : zTbC b l I) : aw_Met G mX9_judge [.ref 6] (zH n I L c) (fun v h2 => v = none ∧ ∃ I2, h2 = zH n I2 L c ∧ zTxC b l I2 ∧ ∀ o, o ≠ 6 → I2 o = I o) := by
  refine aw_Met.of okX9_judge (Nat.le_of_ble_eq_true rfl) ?_
  show aw_W G mX9_judge 0 [.ref 6, aw_x, aw_x, aw_x] [] (zH n I L c) (0, 0) _
  refine aw_iconst (v := 0) dX9_judge_0 rfl ?_
  refine aw_istore_n (ls2 := [_, _, _, _]) dX9_judge_1 (by decide) rfl rfl ?_
  refine aw_iconst (v := 0) dX9_judge_2 rfl ?_
  refine aw_istore_n (ls2 := [_, _, _, _]) dX9_judge_3 (by decide) rfl rfl ?_
  refine aw_aload_n dX9_judge_4 rfl ?_
  refine aw_iconst (v := 0) dX9_judge_5 rfl ?_
  refine aw_putI dX9_judge_6 f9_18 rfl ⟨Nat.le_of_ble_eq_true rfl, Nat.le_of_ble_eq_true rfl⟩ (Or.inl rfl) rfl ?_
  refine aw_iconst (v := 0) dX9_judge_9 rfl ?_
  refine aw_istore_n (ls2 := [_, _, _, _]) dX9_judge_10 (by decide) rfl rfl ?_
  obtain ⟨I1, hI1⟩ : ∃ I1, I1 = aw_u I 6 5 0 := ⟨_, rfl⟩
  have hI : ∀ o, o ≠ 6 → I1 o = I o := fun o ho => by rw [hI1, aw_u_ne ho]
  have h5 : I1 6 5 = nI 0 := by rw [hI1, aw_u_eq]; rfl
  have hb : zTbC b l I1 := by rw [hI1]; exact hb.u (Or.inr rfl)
  rw [← hI1]
  have hl := hb.2.2.2.2
  refine aw_up (X := fun i => q_b (q_c b) i = 0 → aw_W G mX9_judge 11 [.ref 6, .int (nI (i % 7)), .int (nI (i / 7)), .int (nI i)] [] (zH n I1 L c) (0, 0) _) (Nat.zero_le l) (fun hg => ?_) (fun i _ hi ih hg => ?_) rfl
  · refine aw_iload_n dX9_judge_11 rfl ?_
    refine aw_aload_n dX9_judge_12 rfl ?_
    refine aw_getI dX9_judge_13 f9_9 rfl ⟨Nat.le_of_ble_eq_true rfl, Nat.le_of_ble_eq_true rfl⟩ rfl ?_
    refine aw_top hb.2.2.1 ?_
    refine aw_ic_ge_n (a := l) (b := l) (tgt := 65) dX9_judge_16 (by decide) (by omega) (by omega) (fun c16 => ?_) (fun z => absurd z (by omega))
    refine aw_iload_n dX9_judge_65 rfl ?_
    refine aw_aload_n dX9_judge_66 rfl ?_
    refine aw_getR dX9_judge_67 f9_21 rfl ⟨Nat.le_of_ble_eq_true rfl, Nat.le_of_ble_eq_true rfl⟩ rfl rfl ?_
    refine aw_alen dX9_judge_70 rfl (Nat.le_of_ble_eq_true rfl) ?_
    refine aw_iconst (v := 1) dX9_judge_71 rfl ?_
    refine aw_isub_n (a := 7) (b := 1) dX9_judge_72 (by omega) ?_
    refine aw_ic_ne_n (a := l % 7) (b := 7 - 1) (tgt := 80) dX9_judge_73 (by decide) (by omega) (by omega) (fun c73 => ?_) (fun c73 => ?_)
    · refine aw_iconst (v := 0) dX9_judge_80 rfl ?_
      refine aw_istore_n (ls2 := [_, _, _, _]) dX9_judge_81 (by decide) rfl rfl ?_
      refine aw_aload_n dX9_judge_82 rfl ?_
      refine aw_aload_n dX9_judge_83 rfl ?_
      refine aw_getI dX9_judge_84 f9_9 rfl ⟨Nat.le_of_ble_eq_true rfl, Nat.le_of_ble_eq_true rfl⟩ rfl ?_
      refine aw_top hb.2.2.1 ?_
      refine aw_if_eq_n (a := l) (tgt := 94) dX9_judge_87 (by decide) (by omega) (fun c87 => ?_) (fun c87 => ?_)
      · refine aw_iconst (v := -1) dX9_judge_94 rfl ?_
        refine aw_goto (tgt := 102) dX9_judge_95 (by decide) ?_
        refine aw_putI dX9_judge_102 f9_15 rfl ⟨Nat.le_of_ble_eq_true rfl, Nat.le_of_ble_eq_true rfl⟩ (Or.inl rfl) rfl ?_
        refine aw_aload_n dX9_judge_105 rfl ?_
        refine aw_iload_n dX9_judge_106 rfl ?_
        refine aw_if_eq (tgt := 116) dX9_judge_107 (by decide) (fun _ => ?_) (fun z => absurd (by decide) z)
        refine aw_iconst (v := 0) dX9_judge_116 rfl ?_
        refine aw_putI dX9_judge_117 f9_18 rfl ⟨Nat.le_of_ble_eq_true rfl, Nat.le_of_ble_eq_true rfl⟩ (Or.inl rfl) rfl ?_
        refine aw_ret0 dX9_judge_120 rfl ⟨Nat.le_of_ble_eq_true rfl, Nat.le_of_ble_eq_true rfl⟩ ?_
        refine ⟨rfl, _, rfl, ⟨((hb.u (Or.inl rfl)).u (Or.inr rfl)), ?_, ?_⟩, fun o ho => by rw [aw_u_ne ho, aw_u_ne ho]; exact hI o ho⟩
        · rw [aw_u_nj (by decide), aw_u_eq, q_f, if_neg (by omega)]
          first
          | (rw [if_pos (by omega)]; rfl)
          | (rw [if_neg (by omega)]; exact (nI_pred l).symm)
        · rw [aw_u_eq, q_k, if_neg (by omega)]
          first
          | (rw [if_pos (by omega)])
          | (rw [if_neg (by omega)]; rfl)
      · refine aw_iload_n dX9_judge_90 rfl ?_
        refine aw_if_eq (tgt := 98) dX9_judge_91 (by decide) (fun _ => ?_) (fun z => absurd (by decide) z)
        refine aw_aload_n dX9_judge_98 rfl ?_
        refine aw_getI dX9_judge_99 f9_9 rfl ⟨Nat.le_of_ble_eq_true rfl, Nat.le_of_ble_eq_true rfl⟩ rfl ?_
        refine aw_top hb.2.2.1 ?_
        refine aw_putI dX9_judge_102 f9_15 rfl ⟨Nat.le_of_ble_eq_true rfl, Nat.le_of_ble_eq_true rfl⟩ (Or.inl rfl) rfl ?_
        refine aw_aload_n dX9_judge_105 rfl ?_
        refine aw_iload_n dX9_judge_106 rfl ?_
        refine aw_if_eq (tgt := 116) dX9_judge_107 (by decide) (fun _ => ?_) (fun z => absurd (by decide) z)
        refine aw_iconst (v := 0) dX9_judge_116 rfl ?_
        refine aw_putI dX9_judge_117 f9_18 rfl ⟨Nat.le_of_ble_eq_true rfl, Nat.le_of_ble_eq_true rfl⟩ (Or.inl rfl) rfl ?_
        refine aw_ret0 dX9_judge_120 rfl ⟨Nat.le_of_ble_eq_true rfl, Nat.le_of_ble_eq_true rfl⟩ ?_
        refine ⟨rfl, _, rfl, ⟨((hb.u (Or.inl rfl)).u (Or.inr rfl)), ?_, ?_⟩, fun o ho => by rw [aw_u_ne ho, aw_u_ne ho]; exact hI o ho⟩
        · rw [aw_u_nj (by decide), aw_u_eq, q_f, if_neg (by omega)]
          first
          | (rw [if_pos (by omega)]; rfl)
          | (rw [if_neg (by omega)]; exact (nI_pred l).symm)
        · rw [aw_u_eq, q_k, if_neg (by omega)]
          first
          | (rw [if_pos (by omega)])
          | (rw [if_neg (by omega)]; rfl)
    · refine aw_iconst (v := 1) dX9_judge_76 rfl ?_
      refine aw_goto (tgt := 81) dX9_judge_77 (by decide) ?_
      refine aw_istore_n (ls2 := [_, _, _, _]) dX9_judge_81 (by decide) rfl rfl ?_
      refine aw_aload_n dX9_judge_82 rfl ?_
      refine aw_aload_n dX9_judge_83 rfl ?_
      refine aw_getI dX9_judge_84 f9_9 rfl ⟨Nat.le_of_ble_eq_true rfl, Nat.le_of_ble_eq_true rfl⟩ rfl ?_
      refine aw_top hb.2.2.1 ?_
      refine aw_if_eq_n (a := l) (tgt := 94) dX9_judge_87 (by decide) (by omega) (fun c87 => ?_) (fun c87 => ?_)
      · refine aw_iconst (v := -1) dX9_judge_94 rfl ?_
        refine aw_goto (tgt := 102) dX9_judge_95 (by decide) ?_
        refine aw_putI dX9_judge_102 f9_15 rfl ⟨Nat.le_of_ble_eq_true rfl, Nat.le_of_ble_eq_true rfl⟩ (Or.inl rfl) rfl ?_
        refine aw_aload_n dX9_judge_105 rfl ?_
        refine aw_iload_n dX9_judge_106 rfl ?_
        refine aw_if_eq (tgt := 116) dX9_judge_107 (by decide) (fun z => absurd z (by decide)) (fun _ => ?_)
        refine aw_iload_n dX9_judge_110 rfl ?_
        refine aw_iconst (v := 1) dX9_judge_111 rfl ?_
        refine aw_iadd_n (a := l / 7) (b := 1) dX9_judge_112 ?_
        refine aw_goto (tgt := 117) dX9_judge_113 (by decide) ?_
        refine aw_putI dX9_judge_117 f9_18 rfl ⟨Nat.le_of_ble_eq_true rfl, Nat.le_of_ble_eq_true rfl⟩ (Or.inl rfl) rfl ?_
        refine aw_ret0 dX9_judge_120 rfl ⟨Nat.le_of_ble_eq_true rfl, Nat.le_of_ble_eq_true rfl⟩ ?_
        refine ⟨rfl, _, rfl, ⟨((hb.u (Or.inl rfl)).u (Or.inr rfl)), ?_, ?_⟩, fun o ho => by rw [aw_u_ne ho, aw_u_ne ho]; exact hI o ho⟩
        · rw [aw_u_nj (by decide), aw_u_eq, q_f, if_neg (by omega)]
          first
          | (rw [if_pos (by omega)]; rfl)
          | (rw [if_neg (by omega)]; exact (nI_pred l).symm)
        · rw [aw_u_eq, q_k, if_neg (by omega)]
          first
          | (rw [if_pos (by omega)])
          | (rw [if_neg (by omega)]; rfl)
      · refine aw_iload_n dX9_judge_90 rfl ?_
        refine aw_if_eq (tgt := 98) dX9_judge_91 (by decide) (fun z => absurd z (by decide)) (fun _ => ?_)
        refine aw_iconst (v := -1) dX9_judge_94 rfl ?_
        refine aw_goto (tgt := 102) dX9_judge_95 (by decide) ?_
        refine aw_putI dX9_judge_102 f9_15 rfl ⟨Nat.le_of_ble_eq_true rfl, Nat.le_of_ble_eq_true rfl⟩ (Or.inl rfl) rfl ?_
        refine aw_aload_n dX9_judge_105 rfl ?_
        refine aw_iload_n dX9_judge_106 rfl ?_
        refine aw_if_eq (tgt := 116) dX9_judge_107 (by decide) (fun z => absurd z (by decide)) (fun _ => ?_)
        refine aw_iload_n dX9_judge_110 rfl ?_
        refine aw_iconst (v := 1) dX9_judge_111 rfl ?_
        refine aw_iadd_n (a := l / 7) (b := 1) dX9_judge_112 ?_
        refine aw_goto (tgt := 117) dX9_judge_113 (by decide) ?_
        refine aw_putI dX9_judge_117 f9_18 rfl ⟨Nat.le_of_ble_eq_true rfl, Nat.le_of_ble_eq_true rfl⟩ (Or.inl rfl) rfl ?_
        refine aw_ret0 dX9_judge_120 rfl ⟨Nat.le_of_ble_eq_true rfl, Nat.le_of_ble_eq_true rfl⟩ ?_
        refine ⟨rfl, _, rfl, ⟨((hb.u (Or.inl rfl)).u (Or.inr rfl)), ?_, ?_⟩, fun o ho => by rw [aw_u_ne ho, aw_u_ne ho]; exact hI o ho⟩
        · rw [aw_u_nj (by decide), aw_u_eq, q_f, if_neg (by omega)]
          first
          | (rw [if_pos (by omega)]; rfl)
          | (rw [if_neg (by omega)]; exact (nI_pred l).symm)
        · rw [aw_u_eq, q_k, if_neg (by omega)]
          first
          | (rw [if_pos (by omega)])
          | (rw [if_neg (by omega)]; rfl)
  · refine aw_iload_n dX9_judge_11 rfl ?_
    refine aw_aload_n dX9_judge_12 rfl ?_
    refine aw_getI dX9_judge_13 f9_9 rfl ⟨Nat.le_of_ble_eq_true rfl, Nat.le_of_ble_eq_true rfl⟩ rfl ?_
    refine aw_top hb.2.2.1 ?_
    refine aw_ic_ge_n (a := i) (b := l) (tgt := 65) dX9_judge_16 (by decide) (by omega) (by omega) (fun z => absurd z (by omega)) (fun c16 => ?_)
    refine aw_iload_n dX9_judge_19 rfl ?_
    refine aw_aload_n dX9_judge_20 rfl ?_
    refine aw_getI dX9_judge_21 f9_25 rfl ⟨Nat.le_of_ble_eq_true rfl, Nat.le_of_ble_eq_true rfl⟩ rfl ?_
    refine aw_top hb.2.2.2.1 ?_
    refine aw_ic_ge_n (a := i / 7) (b := 8) (tgt := 36) dX9_judge_24 (by decide) (by omega) (by omega) (fun z => absurd z (by omega)) (fun c24 => ?_)
    refine aw_aload_n dX9_judge_27 rfl ?_
    refine aw_iload_n dX9_judge_28 rfl ?_
    refine aw_iload_n dX9_judge_29 rfl ?_
    refine aw_V0c (As := [_, _]) dX9_judge_30 k9_40 rfl rfl rfl ⟨Nat.le_of_ble_eq_true rfl, Nat.le_of_ble_eq_true rfl⟩ (Nat.le_of_ble_eq_true rfl) ⟨⟨Nat.le_of_ble_eq_true rfl, Nat.le_of_ble_eq_true rfl⟩, ⟨Nat.le_of_ble_eq_true rfl, Nat.le_of_ble_eq_true rfl⟩⟩ ⟨rfl, rfl⟩ (w_fitsC G hb (show i < 55 by omega)) (fun v h2 hq => ?_)
    obtain ⟨rfl, rfl⟩ := hq
    refine aw_if_ne_B (tgt := 42) dX9_judge_33 (by decide) (fun c33 => ?_) (fun c33 => ?_)
    · refine aw_iinc_n (ls2 := [_, _, _, _]) dX9_judge_42 rfl (by decide) rfl rfl ?_
      refine aw_iload_n dX9_judge_45 rfl ?_
      refine aw_aload_n dX9_judge_46 rfl ?_
      refine aw_getR dX9_judge_47 f9_21 rfl ⟨Nat.le_of_ble_eq_true rfl, Nat.le_of_ble_eq_true rfl⟩ rfl rfl ?_
      refine aw_alen dX9_judge_50 rfl (Nat.le_of_ble_eq_true rfl) ?_
      refine aw_ic_ne_n (a := i % 7 + 1) (b := 7) (tgt := 59) dX9_judge_51 (by decide) (by omega) (by omega) (fun c51 => ?_) (fun c51 => ?_)
      · refine aw_iinc_n (ls2 := [_, _, _, _]) dX9_judge_59 rfl (by decide) rfl rfl ?_
        refine aw_goto (tgt := 11) dX9_judge_62 (by decide) ?_
        have e0 : q_b (q_c b) (i + 1) = 0 := by rw [q_b_S hg, if_pos c33]
        have e1 : (i + 1) % 7 = i % 7 + 1 := by omega
        have e2 : (i + 1) / 7 = i / 7 := by omega
        rw [e1, e2] at ih
        exact ih e0
      · refine aw_iconst (v := 0) dX9_judge_54 rfl ?_
        refine aw_istore_n (ls2 := [_, _, _, _]) dX9_judge_55 (by decide) rfl rfl ?_
        refine aw_iinc_n (ls2 := [_, _, _, _]) dX9_judge_56 rfl (by decide) rfl rfl ?_
        refine aw_iinc_n (ls2 := [_, _, _, _]) dX9_judge_59 rfl (by decide) rfl rfl ?_
        refine aw_goto (tgt := 11) dX9_judge_62 (by decide) ?_
        have e0 : q_b (q_c b) (i + 1) = 0 := by rw [q_b_S hg, if_pos c33]
        have e1 : (i + 1) % 7 = 0 := by omega
        have e2 : (i + 1) / 7 = i / 7 + 1 := by omega
        rw [e1, e2] at ih
        exact ih e0
    · refine aw_aload_n dX9_judge_36 rfl ?_
      refine aw_iload_n dX9_judge_37 rfl ?_
      refine aw_putI dX9_judge_38 f9_15 rfl ⟨Nat.le_of_ble_eq_true rfl, Nat.le_of_ble_eq_true rfl⟩ (Or.inl rfl) rfl ?_
      refine aw_ret0 dX9_judge_41 rfl ⟨Nat.le_of_ble_eq_true rfl, Nat.le_of_ble_eq_true rfl⟩ ?_
      have e : q_b (q_c b) (i + 1) = i + 1 := by rw [q_b_S hg, if_neg c33]
      have e2 : q_b (q_c b) l = i + 1 := by
        have := q_b_stop (q := q_c b) (i := i + 1) (by rw [e]; omega) (l - (i + 1))
        rw [show i + 1 + (l - (i + 1)) = l by omega, e] at this
        exact this
      refine ⟨rfl, _, rfl, ⟨(hb.u (Or.inl rfl)), ?_, ?_⟩, fun o ho => by rw [aw_u_ne ho]; exact hI o ho⟩
      · rw [aw_u_eq, q_f, e2, if_pos (by omega)]; exact (nI_pred i).symm
      · rw [aw_u_nj (by decide), q_k, e2, if_pos (by omega)]; exact h5
theorem w_isFullC (G : aw_G) {n c : Nat} {I : Nat → Nat → Int32} {L : Nat → Nat → Int64} {b : Nat → Nat} {l : Nat} (hb : zTbC b l I) : aw_Met G mX9_isFull [.ref 6] (zH n I L c) (fun v h2 => v = some (.int (if l = 55 then 1 else 0)) ∧ h2 = zH n I L c) := by
  have hl := hb.2.2.2.2
  refine aw_Met.of okX9_isFull (Nat.le_of_ble_eq_true rfl) ?_
  show aw_W G mX9_isFull 0 [.ref 6] [] (zH n I L c) (0, 0) _
  refine aw_aload_n dX9_isFull_0 rfl ?_
  refine aw_getI dX9_isFull_1 f9_9 rfl ⟨Nat.le_of_ble_eq_true rfl, Nat.le_of_ble_eq_true rfl⟩ rfl ?_
  refine aw_top hb.2.2.1 ?_
  refine aw_aload_n dX9_isFull_4 rfl ?_
  refine aw_getR dX9_isFull_5 f9_34 rfl ⟨Nat.le_of_ble_eq_true rfl, Nat.le_of_ble_eq_true rfl⟩ rfl rfl ?_
  refine aw_alen dX9_isFull_8 rfl (Nat.le_of_ble_eq_true rfl) ?_
  refine aw_ic_lt_n (a := l) (b := 55) (tgt := 16) dX9_isFull_9 (by decide) (by omega) (by omega) (fun c9 => ?_) (fun c9 => ?_)
  · refine aw_iconst (v := 0) dX9_isFull_16 rfl ?_
    refine aw_reti dX9_isFull_17 rfl rfl ⟨Nat.le_of_ble_eq_true rfl, Nat.le_of_ble_eq_true rfl⟩ ?_
    refine ⟨?_, rfl⟩
    first
    | (rw [if_pos (by omega)])
    | (rw [if_neg (by omega)])
  · refine aw_iconst (v := 1) dX9_isFull_12 rfl ?_
    refine aw_goto (tgt := 17) dX9_isFull_13 (by decide) ?_
    refine aw_reti dX9_isFull_17 rfl rfl ⟨Nat.le_of_ble_eq_true rfl, Nat.le_of_ble_eq_true rfl⟩ ?_
    refine ⟨?_, rfl⟩
    first
    | (rw [if_pos (by omega)])
    | (rw [if_neg (by omega)])
theorem w_cutToC (G : aw_G) {n c : Nat} {I : Nat → Nat → Int32} {L : Nat → Nat → Int64} {b : Nat → Nat} {l : Nat} {l2 : Nat} (hb : zTbC b l I) (h2 : l2 ≤ 55) : aw_Met G mX9_cutTo [.ref 6, .int (nI l2)] (zH n I L c) (fun v h2 => v = none ∧ ∃ I2, h2 = zH n I2 L c ∧ zTxC b l2 I2 ∧ ∀ o, o ≠ 6 → I2 o = I o) := by
  refine aw_Met.of okX9_cutTo (Nat.le_of_ble_eq_true rfl) ?_
  show aw_W G mX9_cutTo 0 [.ref 6, .int (nI l2)] [] (zH n I L c) (0, 0) _
  refine aw_aload_n dX9_cutTo_0 rfl ?_
  refine aw_iload_n dX9_cutTo_1 rfl ?_
  refine aw_putI dX9_cutTo_2 f9_9 rfl ⟨Nat.le_of_ble_eq_true rfl, Nat.le_of_ble_eq_true rfl⟩ (Or.inl rfl) rfl ?_
  have hb2 : zTbC b l2 (aw_u I 6 3 (nI l2)) := by
    refine ⟨?_, fun j hj => ?_, ?_, ?_, h2⟩
    · rw [aw_u_ne (show 2 ≠ 6 by decide)]; exact hb.1
    · rw [aw_u_ne (show 7 ≠ 6 by decide)]; exact hb.2.1 j hj
    · rw [aw_u_eq]
    · rw [aw_u_nj (by decide)]; exact hb.2.2.2.1
  refine aw_aload_n dX9_cutTo_5 rfl ?_
  refine aw_V0c (As := []) dX9_cutTo_6 k9_37 rfl rfl rfl ⟨Nat.le_of_ble_eq_true rfl, Nat.le_of_ble_eq_true rfl⟩ (Nat.le_of_ble_eq_true rfl) ⟨⟨Nat.le_of_ble_eq_true rfl, Nat.le_of_ble_eq_true rfl⟩, ⟨Nat.le_of_ble_eq_true rfl, Nat.le_of_ble_eq_true rfl⟩⟩ ⟨rfl, rfl⟩ (w_judgeC G (b := b) (l := l2) hb2) (fun v h2 hq => ?_)
  obtain ⟨rfl, I2, rfl, hx, hy⟩ := hq
  refine aw_ret0 dX9_cutTo_9 rfl ⟨Nat.le_of_ble_eq_true rfl, Nat.le_of_ble_eq_true rfl⟩ ?_
  exact ⟨rfl, _, rfl, hx, fun o ho => by rw [hy o ho, aw_u_ne ho]⟩
theorem w_pushC (G : aw_G) {n c : Nat} {I : Nat → Nat → Int32} {L : Nat → Nat → Int64} {b : Nat → Nat} {l : Nat} {x : Nat} (hb : zTbC b l I) (hl : l < 55) (hv : x < 256) : aw_Met G mX9_push [.ref 6, .int (nI x)] (zH n I L c) (fun v h2 => v = none ∧ ∃ I2, h2 = zH n I2 L c ∧ zTxC (va_up b l x) (l + 1) I2 ∧ ∀ o, o ≠ 6 → o ≠ 7 → I2 o = I o) := by
  refine aw_Met.of okX9_push (Nat.le_of_ble_eq_true rfl) ?_
  show aw_W G mX9_push 0 [.ref 6, .int (nI x)] [] (zH n I L c) (0, 0) _
  refine aw_aload_n dX9_push_0 rfl ?_
  refine aw_getR dX9_push_1 f9_34 rfl ⟨Nat.le_of_ble_eq_true rfl, Nat.le_of_ble_eq_true rfl⟩ rfl rfl ?_
  refine aw_aload_n dX9_push_4 rfl ?_
  refine aw_getI dX9_push_5 f9_9 rfl ⟨Nat.le_of_ble_eq_true rfl, Nat.le_of_ble_eq_true rfl⟩ rfl ?_
  refine aw_top hb.2.2.1 ?_
  refine aw_iload_n dX9_push_8 rfl ?_
  refine aw_iast_n (j := l) dX9_push_9 rfl ⟨Nat.le_of_ble_eq_true rfl, Nat.le_of_ble_eq_true rfl⟩ (by decide) (by omega) ?_
  refine aw_aload_n dX9_push_10 rfl ?_
  refine aw_dup dX9_push_11 rfl ?_
  refine aw_getI dX9_push_12 f9_9 rfl ⟨Nat.le_of_ble_eq_true rfl, Nat.le_of_ble_eq_true rfl⟩ rfl ?_
  refine aw_top (show _ = nI l by rw [aw_u_ne (show 6 ≠ 7 by decide)]; exact hb.2.2.1) ?_
  refine aw_iconst (v := 1) dX9_push_15 rfl ?_
  refine aw_iadd_n (a := l) (b := 1) dX9_push_16 ?_
  refine aw_putI dX9_push_17 f9_9 rfl ⟨Nat.le_of_ble_eq_true rfl, Nat.le_of_ble_eq_true rfl⟩ (Or.inl rfl) rfl ?_
  have hb2 : zTbC (va_up b l x) (l + 1) (aw_u (aw_u I 7 l (nI x)) 6 3 (nI (l + 1))) := by
    refine ⟨?_, fun j hj => ?_, ?_, ?_, by omega⟩
    · rw [aw_u_ne (show 2 ≠ 6 by decide), aw_u_ne (show 2 ≠ 7 by decide)]; exact hb.1
    · rw [aw_u_ne (show 7 ≠ 6 by decide)]
      by_cases hjl : j = l
      · subst hjl; rw [aw_u_eq]; simp [va_up, hv]
      · rw [aw_u_nj hjl]; simp only [va_up, if_neg hjl]; exact hb.2.1 j hj
    · rw [aw_u_eq]
    · rw [aw_u_nj (by decide), aw_u_ne (show 6 ≠ 7 by decide)]; exact hb.2.2.2.1
  refine aw_aload_n dX9_push_20 rfl ?_
  refine aw_V0c (As := []) dX9_push_21 k9_37 rfl rfl rfl ⟨Nat.le_of_ble_eq_true rfl, Nat.le_of_ble_eq_true rfl⟩ (Nat.le_of_ble_eq_true rfl) ⟨⟨Nat.le_of_ble_eq_true rfl, Nat.le_of_ble_eq_true rfl⟩, ⟨Nat.le_of_ble_eq_true rfl, Nat.le_of_ble_eq_true rfl⟩⟩ ⟨rfl, rfl⟩ (w_judgeC G (b := va_up b l x) (l := l + 1) hb2) (fun v h2 hq => ?_)
  obtain ⟨rfl, I2, rfl, hx, hy⟩ := hq
  refine aw_ret0 dX9_push_24 rfl ⟨Nat.le_of_ble_eq_true rfl, Nat.le_of_ble_eq_true rfl⟩ ?_
  exact ⟨rfl, _, rfl, hx, fun o ho hp => by rw [hy o ho, aw_u_ne ho, aw_u_ne hp]⟩
