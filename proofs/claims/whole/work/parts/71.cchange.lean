/-! CHANGES: texts, lates, answers, what was seen -/
/-- the class between a change and the play that follows -/
def zCK (b0 b1 : Nat → Nat) (l0 l1 : Nat) (t u g : Nat → Nat → Nat) (F S : Nat → Nat) (E : Nat → Nat → Int32) (fd : Int32) (I : Nat → Nat → Int32) : Prop :=
  zTxW b0 l0 I ∧ zTxC b1 l1 I ∧ (zSet t 11 16 I ∧ zTok t ∧ (∀ k, k < 8 → t 5 k < 40) ∧ zAn u I ∧ zUok u) ∧ (∃ s0, zOk s0 ∧ zRun s0 22 I I) ∧ (∃ t2 s2, zDy t2 s2 I I) ∧ zCl g I ∧ zShC F S E I ∧ I 3 9 = fd
theorem zDy.mv {t2 s2 : Nat → Nat → Nat} {I I2 : Nat → Nat → Int32} (h : zDy t2 s2 I I) (hF : ∀ o, 37 ≤ o → o < 59 → I2 o = I o) : zDy t2 s2 I2 I2 := by
  obtain ⟨h1, h2, h3, h4, h5, h6⟩ := h
  exact ⟨⟨fun p q hp hq => by rw [hF _ (by omega) (by omega)]; exact h1.1 p q hp hq, by rw [hF _ (by omega) (by omega)]; exact h1.2.1, by rw [hF _ (by omega) (by omega)]; exact h1.2.2⟩, h2, h3, h4.mv2 (fun b hb => hF _ (by omega) (by omega)), h5, zFt.rfl _⟩
theorem zCl.mv2 {g : Nat → Nat → Nat} {I I2 : Nat → Nat → Int32} (h : zCl g I) (hF : ∀ o, 64 ≤ o → o < 68 → I2 o = I o) : zCl g I2 := by
  obtain ⟨h1, h2, h3⟩ := h
  exact ⟨by rw [hF 64 (by decide) (by decide)]; exact h1, h2, fun i hi => by rw [hF 65 (by decide) (by decide), hF 66 (by decide) (by decide), hF 67 (by decide) (by decide)]; exact h3 i hi⟩
section ZCK
variable {b0 b1 c0 c1 : Nat → Nat} {l0 l1 k0 k1 : Nat} {t u t3 u3 x y V g : Nat → Nat → Nat} {kk : Nat} {F S : Nat → Nat} {E : Nat → Nat → Int32} {fd : Int32} {I I2 : Nat → Nat → Int32}
theorem zCI.k (h : zCI b0 b1 l0 l1 t u x y g F S E fd I) : zCK b0 b1 l0 l1 t u g F S E fd I := by
  obtain ⟨h1, h2, h3, ⟨s0, h4, h5⟩, h6, h7, h8, h9⟩ := h
  exact ⟨h1, h2, ⟨h3.1, h3.2.1, h3.2.2.1, h3.2.2.2.1, h3.2.2.2.2.1⟩, ⟨_, p_play_ok (m := z0) (u := u) h3.2.1 h3.2.2.2.2.2.2.1 h3.2.2.2.2.2.2.2.1 h3.2.2.2.2.2.2.2.2 h4, h5⟩, h6, h7, h8, h9⟩
theorem zCK.mv (h : zCK b0 b1 l0 l1 t u g F S E fd I) (hF : ∀ o, 22 ≤ o → o < 81 → I2 o = I o) (h3 : I2 3 = I 3) (hW : zTxW c0 k0 I2) (hC : zTxC c1 k1 I2) (hS : zSet t3 11 16 I2) (hT : zTok t3) (h40 : ∀ k, k < 8 → t3 5 k < 40) (hA : zAn u3 I2) (hU : zUok u3) : zCK c0 c1 k0 k1 t3 u3 g F S E fd I2 := by
  obtain ⟨-, -, -, ⟨s0, h4, h5⟩, ⟨t2, s2, h6⟩, h7, h8, h9⟩ := h
  exact ⟨hW, hC, ⟨hS, hT, h40, hA, hU⟩, ⟨s0, h4, h5.mv2 (fun i hi => hF _ (by omega) (by omega))⟩, ⟨t2, s2, h6.mv (fun o a b => hF o (by omega) (by omega))⟩, h7.mv2 (fun o a b => hF o (by omega) (by omega)), h8.mv (fun o a b => hF o (by omega) (by omega)), by rw [h3]; exact h9⟩
theorem zSet.mv3 {s a : Nat} (h : zSet t s a I) (h1 : I2 s = I s) (h2 : ∀ i, i < 6 → I2 (a + i) = I (a + i)) : zSet t s a I2 :=
  ⟨fun i j hi hj => by rw [h2 i hi]; exact h.1 i j hi hj, by rw [h1]; exact h.2.1, by rw [h1]; exact h.2.2⟩
theorem zAn.mv3 (h : zAn u I) (h1 : I2 8 = I 8) (h2 : I2 9 = I 9) (h3 : I2 10 = I 10) : zAn u I2 :=
  ⟨by rw [h1]; exact h.1, fun a ha => by rw [h2, h3]; exact h.2 a ha⟩
/-- a change of the first text -/
theorem zCK.W (h : zCK b0 b1 l0 l1 t u g F S E fd I) (hW : zTxW c0 k0 I2) (hF : ∀ o, o ≠ 4 → o ≠ 5 → I2 o = I o) : zCK c0 b1 k0 l1 t u g F S E fd I2 :=
  h.mv (fun o a b => hF o (by omega) (by omega)) (hF 3 (by decide) (by decide)) hW (h.2.1.mv (hF 2 (by decide) (by decide)) (hF 7 (by decide) (by decide)) (hF 6 (by decide) (by decide))) (h.2.2.1.1.mv3 (hF 11 (by decide) (by decide)) (fun i hi => hF _ (by omega) (by omega))) h.2.2.1.2.1 h.2.2.1.2.2.1 (h.2.2.1.2.2.2.1.mv3 (hF 8 (by decide) (by decide)) (hF 9 (by decide) (by decide)) (hF 10 (by decide) (by decide))) h.2.2.1.2.2.2.2
theorem zCK.C (h : zCK b0 b1 l0 l1 t u g F S E fd I) (hC : zTxC c1 k1 I2) (hF : ∀ o, o ≠ 6 → o ≠ 7 → I2 o = I o) : zCK b0 c1 l0 k1 t u g F S E fd I2 :=
  h.mv (fun o a b => hF o (by omega) (by omega)) (hF 3 (by decide) (by decide)) (h.1.mv (hF 1 (by decide) (by decide)) (hF 5 (by decide) (by decide)) (hF 4 (by decide) (by decide))) hC (h.2.2.1.1.mv3 (hF 11 (by decide) (by decide)) (fun i hi => hF _ (by omega) (by omega))) h.2.2.1.2.1 h.2.2.1.2.2.1 (h.2.2.1.2.2.2.1.mv3 (hF 8 (by decide) (by decide)) (hF 9 (by decide) (by decide)) (hF 10 (by decide) (by decide))) h.2.2.1.2.2.2.2
theorem zCK.ch (h : zCK b0 b1 l0 l1 t u g F S E fd I) (hF : ∀ o, (o < 13 ∨ 15 < o) → I2 o = I o) : zCK b0 b1 l0 l1 t u g F S E fd I2 :=
  h.mv (fun o a b => hF o (by omega)) (hF 3 (by decide)) (h.1.mv (hF 1 (by decide)) (hF 5 (by decide)) (hF 4 (by decide))) (h.2.1.mv (hF 2 (by decide)) (hF 7 (by decide)) (hF 6 (by decide))) (h.2.2.1.1.mv3 (hF 11 (by decide)) (fun i hi => hF _ (by omega))) h.2.2.1.2.1 h.2.2.1.2.2.1 (h.2.2.1.2.2.2.1.mv3 (hF 8 (by decide)) (hF 9 (by decide)) (hF 10 (by decide))) h.2.2.1.2.2.2.2
theorem zCK.tk (h : zCK b0 b1 l0 l1 t u g F S E fd I) (hS : zSx t3 11 16 I I2) (hT : zTok t3) (h40 : ∀ k, k < 8 → t3 5 k < 40) : zCK b0 b1 l0 l1 t3 u g F S E fd I2 :=
  h.mv (fun o a b => hS.2 o (by omega) (by omega)) (hS.2 3 (by decide) (by decide)) (h.1.mv (hS.2 1 (by decide) (by decide)) (hS.2 5 (by decide) (by decide)) (hS.2 4 (by decide) (by decide))) (h.2.1.mv (hS.2 2 (by decide) (by decide)) (hS.2 7 (by decide) (by decide)) (hS.2 6 (by decide) (by decide))) hS.1 hT h40 (h.2.2.1.2.2.2.1.mv3 (hS.2 8 (by decide) (by decide)) (hS.2 9 (by decide) (by decide)) (hS.2 10 (by decide) (by decide))) h.2.2.1.2.2.2.2
theorem zCK.an (h : zCK b0 b1 l0 l1 t u g F S E fd I) (hA : zAn u3 I2) (hU : zUok u3) (hF : ∀ o, o ≠ 8 → o ≠ 9 → o ≠ 10 → I2 o = I o) : zCK b0 b1 l0 l1 t u3 g F S E fd I2 :=
  h.mv (fun o a b => hF o (by omega) (by omega) (by omega)) (hF 3 (by decide) (by decide) (by decide)) (h.1.mv (hF 1 (by decide) (by decide) (by decide)) (hF 5 (by decide) (by decide) (by decide)) (hF 4 (by decide) (by decide) (by decide))) (h.2.1.mv (hF 2 (by decide) (by decide) (by decide)) (hF 7 (by decide) (by decide) (by decide)) (hF 6 (by decide) (by decide) (by decide))) (h.2.2.1.1.mv3 (hF 11 (by decide) (by decide) (by decide)) (fun i hi => hF _ (by omega) (by omega) (by omega))) h.2.2.1.2.1 h.2.2.1.2.2.1 hA hU
theorem zTx.mk (hT : zTok t) (h40 : ∀ k, k < 8 → t 5 k < 40) (hU : zUok u) (h60 : t 6 0 = q_k (q_c b1) 7 l1) (h61 : t 6 1 = 0) (htc : ∀ j k, j < 5 → k < t 6 0 → t j k = t_c b1 k j) : zTx b0 b1 l0 l1 t u (f_x (v_w b0) (q_k (q_w b0) 5 l0)) (f_y (v_w b0) (q_k (q_w b0) 5 l0)) (v_w b0) (q_k (q_w b0) 5 l0) :=
  ⟨⟨hT, h40, hU, zCharts v_w_ok⟩, h60, h61, htc, rfl, rfl, rfl, rfl⟩
end ZCK
theorem w_plI (G : aw_G) {n c : Nat} {I : Nat → Nat → Int32} {L : Nat → Nat → Int64} {b0 b1 : Nat → Nat} {l0 l1 : Nat} {t u x y g : Nat → Nat → Nat} {F S : Nat → Nat} {E : Nat → Nat → Int32} {fd : Int32} (hK : zCK b0 b1 l0 l1 t u g F S E fd I) (hx : zCh x 12 I) (hG : zGo x y) : aw_Met G mX6_play [.ref 22, .ref 11] (zH n I L c) (fun v h2 => v = none ∧ ∃ I2, h2 = zH n I2 L c ∧ zCI b0 b1 l0 l1 t u x y g F S E fd I2 ∧ ∀ o, (o < 22 ∨ 36 < o) → I2 o = I o) := by
  obtain ⟨h1, h2, h3, ⟨s0, h4, h5⟩, ⟨t2, s2, h6⟩, h7, h8, h9⟩ := hK
  refine aw_Met.mono ?_ (w_playA G h5 h3.1 hx h3.2.2.2.1 h3.2.1 hG.2.1 h3.2.2.2.2 h4.1)
  rintro v h2' ⟨rfl, I2, rfl, hR⟩
  have hF : ∀ o, (o < 22 ∨ 36 < o) → I2 o = I o := fun o ho => hR.2 o (by omega)
  refine ⟨rfl, I2, rfl, ⟨h1.mv (hF 1 (by decide)) (hF 5 (by decide)) (hF 4 (by decide)), h2.mv (hF 2 (by decide)) (hF 7 (by decide)) (hF 6 (by decide)), ?_, ⟨s0, h4, hR.re⟩, ⟨t2, s2, h6.mv (fun o a b => hF o (by omega))⟩, h7.mv2 (fun o a b => hF o (by omega)), h8.mv (fun o a b => hF o (by omega)), by rw [hF 3 (by decide)]; exact h9⟩, hF⟩
  exact zFx.mv (I := I) ⟨h3.1, h3.2.1, h3.2.2.1, h3.2.2.2.1, h3.2.2.2.2, hx, hG⟩ (fun o ho => hF o (by omega))
theorem w_tc0 (G : aw_G) {n c : Nat} {I : Nat → Nat → Int32} {L : Nat → Nat → Int64} {b0 b1 : Nat → Nat} {l0 l1 : Nat} {t u g : Nat → Nat → Nat} {F S : Nat → Nat} {E : Nat → Nat → Int32} {fd : Int32} (hK : zCK b0 b1 l0 l1 t u g F S E fd I) : aw_Met G mX10_textChanged [.ref 3, .int 0] (zH n I L c) (fun v h2 => v = none ∧ ∃ I2, h2 = zH n I2 L c ∧ zCI b0 b1 l0 l1 t u (f_x (v_w b0) (q_k (q_w b0) 5 l0)) (f_y (v_w b0) (q_k (q_w b0) 5 l0)) g F S E fd I2 ∧ ∀ o, 81 ≤ o → I2 o = I o) := by
  refine aw_Met.of okX10_textChanged (Nat.le_of_ble_eq_true rfl) ?_
  show aw_W G mX10_textChanged 0 [.ref 3, .int 0] [] (zH n I L c) (0, 0) _
  refine aw_iload_n dX10_textChanged_0 rfl ?_
  refine aw_if_ne (tgt := 22) dX10_textChanged_1 (by decide) (fun z => absurd (by decide) z) (fun _ => ?_)
  refine aw_aload_n dX10_textChanged_4 rfl ?_
  refine aw_getR dX10_textChanged_5 f10_43 rfl ⟨Nat.le_of_ble_eq_true rfl, Nat.le_of_ble_eq_true rfl⟩ rfl rfl ?_
  refine aw_getR dX10_textChanged_8 f10_47 rfl ⟨Nat.le_of_ble_eq_true rfl, Nat.le_of_ble_eq_true rfl⟩ rfl rfl ?_
  refine aw_aload_n dX10_textChanged_11 rfl ?_
  refine aw_getR dX10_textChanged_12 f10_18 rfl ⟨Nat.le_of_ble_eq_true rfl, Nat.le_of_ble_eq_true rfl⟩ rfl rfl ?_
  refine aw_iconst (v := -1) dX10_textChanged_15 rfl ?_
  refine aw_top (show (-1 : Int32) = nI 0 - 1 from by decide) ?_
  refine aw_V0c (As := [_, _]) dX10_textChanged_16 k10_51 rfl rfl rfl ⟨Nat.le_of_ble_eq_true rfl, Nat.le_of_ble_eq_true rfl⟩ (Nat.le_of_ble_eq_true rfl) ⟨⟨Nat.le_of_ble_eq_true rfl, Nat.le_of_ble_eq_true rfl⟩, ⟨Nat.le_of_ble_eq_true rfl, Nat.le_of_ble_eq_true rfl⟩⟩ ⟨rfl, rfl⟩ (w_fill12 G (lv := 0) hK.1 (by decide)) (fun v h2 hq => ?_)
  obtain ⟨rfl, I1, rfl, hC1⟩ := hq
  rw [f_lv_0] at hC1
  have hK1 := hK.ch (I2 := I1) (fun o ho => hC1.2 o (by omega))
  refine aw_goto (tgt := 33) dX10_textChanged_19 (by decide) ?_
  refine aw_aload_n dX10_textChanged_33 rfl ?_
  refine aw_getR dX10_textChanged_34 f10_58 rfl ⟨Nat.le_of_ble_eq_true rfl, Nat.le_of_ble_eq_true rfl⟩ rfl rfl ?_
  refine aw_aload_n dX10_textChanged_37 rfl ?_
  refine aw_getR dX10_textChanged_38 f10_43 rfl ⟨Nat.le_of_ble_eq_true rfl, Nat.le_of_ble_eq_true rfl⟩ rfl rfl ?_
  refine aw_V0c (As := [_]) dX10_textChanged_41 k10_62 rfl rfl rfl ⟨Nat.le_of_ble_eq_true rfl, Nat.le_of_ble_eq_true rfl⟩ (Nat.le_of_ble_eq_true rfl) ⟨⟨Nat.le_of_ble_eq_true rfl, Nat.le_of_ble_eq_true rfl⟩, ⟨Nat.le_of_ble_eq_true rfl, Nat.le_of_ble_eq_true rfl⟩⟩ ⟨rfl, rfl⟩ (w_plI G (x := (f_x (v_w b0) (q_k (q_w b0) 5 l0))) (y := (f_y (v_w b0) (q_k (q_w b0) 5 l0))) hK1 (fun j hj => hC1.1 j hj) (zCharts v_w_ok)) (fun v h2 hq => ?_)
  obtain ⟨rfl, I2, rfl, hI2, hF2⟩ := hq
  refine aw_ret0 dX10_textChanged_44 rfl ⟨Nat.le_of_ble_eq_true rfl, Nat.le_of_ble_eq_true rfl⟩ ?_
  exact ⟨rfl, _, rfl, hI2, fun o ho => by rw [hF2 o (by omega)]; exact hC1.2 o (by omega)⟩
theorem w_tc1 (G : aw_G) {n c : Nat} {I : Nat → Nat → Int32} {L : Nat → Nat → Int64} {b0 b1 : Nat → Nat} {l0 l1 : Nat} {t u g : Nat → Nat → Nat} {F S : Nat → Nat} {E : Nat → Nat → Int32} {fd : Int32} {x y : Nat → Nat → Nat} (hK : zCK b0 b1 l0 l1 t u g F S E fd I) (hx : zCh x 12 I) (hG : zGo x y) : aw_Met G mX10_textChanged [.ref 3, .int 1] (zH n I L c) (fun v h2 => v = none ∧ ∃ I2, h2 = zH n I2 L c ∧ (∃ t3, zCI b0 b1 l0 l1 t3 u x y g F S E fd I2 ∧ t3 6 0 = q_k (q_c b1) 7 l1 ∧ t3 6 1 = t 6 1 ∧ (∀ j, t3 5 j = t 5 j) ∧ ∀ j k, j < 5 → k < t3 6 0 → t3 j k = t_c b1 k j) ∧ ∀ o, 81 ≤ o → I2 o = I o) := by
  refine aw_Met.of okX10_textChanged (Nat.le_of_ble_eq_true rfl) ?_
  show aw_W G mX10_textChanged 0 [.ref 3, .int 1] [] (zH n I L c) (0, 0) _
  refine aw_iload_n dX10_textChanged_0 rfl ?_
  refine aw_if_ne (tgt := 22) dX10_textChanged_1 (by decide) (fun _ => ?_) (fun z => absurd z (by decide))
  refine aw_aload_n dX10_textChanged_22 rfl ?_
  refine aw_getR dX10_textChanged_23 f10_43 rfl ⟨Nat.le_of_ble_eq_true rfl, Nat.le_of_ble_eq_true rfl⟩ rfl rfl ?_
  refine aw_aload_n dX10_textChanged_26 rfl ?_
  refine aw_getR dX10_textChanged_27 f10_25 rfl ⟨Nat.le_of_ble_eq_true rfl, Nat.le_of_ble_eq_true rfl⟩ rfl rfl ?_
  refine aw_V0c (As := [_]) dX10_textChanged_30 k10_314 rfl rfl rfl ⟨Nat.le_of_ble_eq_true rfl, Nat.le_of_ble_eq_true rfl⟩ (Nat.le_of_ble_eq_true rfl) ⟨⟨Nat.le_of_ble_eq_true rfl, Nat.le_of_ble_eq_true rfl⟩, ⟨Nat.le_of_ble_eq_true rfl, Nat.le_of_ble_eq_true rfl⟩⟩ ⟨rfl, rfl⟩ (w_take G hK.2.1 (zSx.of hK.2.2.1.1) hK.2.2.1.2.1) (fun v h2 hq => ?_)
  obtain ⟨rfl, I1, rfl, t3, hS1, e60, e61, e5, ec, hT3⟩ := hq
  have hK1 := hK.tk hS1 hT3 (fun k hk => by rw [e5]; exact hK.2.2.1.2.2.1 k hk)
  have hx1 : zCh x 12 I1 := fun j hj => by rw [hS1.2 13 (by decide) (by decide), hS1.2 14 (by decide) (by decide), hS1.2 15 (by decide) (by decide)]; exact hx j hj
  refine aw_aload_n dX10_textChanged_33 rfl ?_
  refine aw_getR dX10_textChanged_34 f10_58 rfl ⟨Nat.le_of_ble_eq_true rfl, Nat.le_of_ble_eq_true rfl⟩ rfl rfl ?_
  refine aw_aload_n dX10_textChanged_37 rfl ?_
  refine aw_getR dX10_textChanged_38 f10_43 rfl ⟨Nat.le_of_ble_eq_true rfl, Nat.le_of_ble_eq_true rfl⟩ rfl rfl ?_
  refine aw_V0c (As := [_]) dX10_textChanged_41 k10_62 rfl rfl rfl ⟨Nat.le_of_ble_eq_true rfl, Nat.le_of_ble_eq_true rfl⟩ (Nat.le_of_ble_eq_true rfl) ⟨⟨Nat.le_of_ble_eq_true rfl, Nat.le_of_ble_eq_true rfl⟩, ⟨Nat.le_of_ble_eq_true rfl, Nat.le_of_ble_eq_true rfl⟩⟩ ⟨rfl, rfl⟩ (w_plI G hK1 hx1 hG) (fun v h2 hq => ?_)
  obtain ⟨rfl, I2, rfl, hI2, hF2⟩ := hq
  refine aw_ret0 dX10_textChanged_44 rfl ⟨Nat.le_of_ble_eq_true rfl, Nat.le_of_ble_eq_true rfl⟩ ?_
  exact ⟨rfl, _, rfl, ⟨t3, hI2, e60, e61, e5, fun j k hj hk => ec k j (by omega) hj⟩, fun o ho => by rw [hF2 o (by omega)]; exact hS1.2 o (by omega) (by omega)⟩
theorem c_typeB (G : aw_G) {n c : Nat} {I : Nat → Nat → Int32} {L : Nat → Nat → Int64} {b0 b1 : Nat → Nat} {l0 l1 : Nat} {t u x y V g : Nat → Nat → Nat} {kk : Nat} {F S : Nat → Nat} {E : Nat → Nat → Int32} {fd : Int32} (hX : zTx b0 b1 l0 l1 t u x y V kk) (hI : zCI b0 b1 l0 l1 t u x y g F S E fd I) {a1 : Int32} {a2 : Int32} (hz : ¬ (zok a1 2 ∧ zok a2 256)) : aw_Met G mX10_type [.ref 3, .int a1, .int a2] (zH n I L c) (fun v h2 => v = some (.int (-2)) ∧ ∃ I2 L2 c2, h2 = zH n I2 L2 c2 ∧ zCI b0 b1 l0 l1 t u x y g F S E fd I2 ∧ ∀ o, 81 ≤ o → I2 o = I o) := by
  obtain ⟨hW, hC, hF, ⟨s0, hO, hR⟩, ⟨t2, s2, hD⟩, hG, hS, hfd⟩ := id hI
  obtain ⟨hP, h60, h61, htc, hV, hkk, hx, hy⟩ := id hX
  have h8 := hP.1.1
  have hk10 : kk ≤ 10 := by rw [hkk]; exact q_k_leW hW.1.2.2.2.2
  have hi6 : I 6 5 = nI (t 6 0) := by rw [h60]; exact hC.2.2
  have hi4 : I 4 5 = nI kk := by rw [hkk]; exact hW.2.2
  have hVo : f_Vok V kk := by rw [hV, hkk]; exact v_w_ok
  have hsm := zSame hP hO.1
  have hbd := zBd (m := z0) (u := u) hP.1 hP.2.2.2.1 hP.2.2.2.2.1 hP.2.2.2.2.2 hO.1
  have hS0 : p_play s0 t u x 0 0 = t 6 0 := hbd.1.1
  refine aw_Met.of okX10_type (Nat.le_of_ble_eq_true rfl) ?_
  show aw_W G mX10_type 0 [.ref 3, .int a1, .int a2, aw_x] [] (zH n I L c) (0, 0) _
  refine aw_iload_n dX10_type_0 rfl ?_
  refine aw_iconst (v := 2) dX10_type_1 rfl ?_
  refine aw_S0c (As := [_, _]) dX10_type_2 k10_100 rfl rfl (Nat.le_of_ble_eq_true rfl) ⟨⟨Nat.le_of_ble_eq_true rfl, Nat.le_of_ble_eq_true rfl⟩, ⟨Nat.le_of_ble_eq_true rfl, Nat.le_of_ble_eq_true rfl⟩⟩ ⟨rfl, rfl⟩ (w_within G a1 (b := 2) (by omega)) (fun v h2 hq => ?_)
  obtain ⟨rfl, rfl⟩ := hq
  refine aw_if_eq_B (tgt := 18) dX10_type_5 (by decide) (fun c5 => ?_) (fun c5 => ?_)
  · refine aw_bipush (v := -2) dX10_type_18 (by decide) ?_
    refine aw_reti dX10_type_20 rfl rfl ⟨Nat.le_of_ble_eq_true rfl, Nat.le_of_ble_eq_true rfl⟩ ?_
    exact ⟨rfl, _, _, _, rfl, hI, fun _ _ => rfl⟩
  · refine aw_iload_n dX10_type_8 rfl ?_
    refine aw_sipush (v := 256) dX10_type_9 (by decide) ?_
    refine aw_S0c (As := [_, _]) dX10_type_12 k10_100 rfl rfl (Nat.le_of_ble_eq_true rfl) ⟨⟨Nat.le_of_ble_eq_true rfl, Nat.le_of_ble_eq_true rfl⟩, ⟨Nat.le_of_ble_eq_true rfl, Nat.le_of_ble_eq_true rfl⟩⟩ ⟨rfl, rfl⟩ (w_within G a2 (b := 256) (by omega)) (fun v h2 hq => ?_)
    obtain ⟨rfl, rfl⟩ := hq
    refine aw_if_ne_B (tgt := 21) dX10_type_15 (by decide) (fun z => absurd z (fun q => hz ⟨c5, q⟩)) (fun c15 => ?_)
    refine aw_bipush (v := -2) dX10_type_18 (by decide) ?_
    refine aw_reti dX10_type_20 rfl rfl ⟨Nat.le_of_ble_eq_true rfl, Nat.le_of_ble_eq_true rfl⟩ ?_
    exact ⟨rfl, _, _, _, rfl, hI, fun _ _ => rfl⟩
theorem c_wipeB (G : aw_G) {n c : Nat} {I : Nat → Nat → Int32} {L : Nat → Nat → Int64} {b0 b1 : Nat → Nat} {l0 l1 : Nat} {t u x y V g : Nat → Nat → Nat} {kk : Nat} {F S : Nat → Nat} {E : Nat → Nat → Int32} {fd : Int32} (hX : zTx b0 b1 l0 l1 t u x y V kk) (hI : zCI b0 b1 l0 l1 t u x y g F S E fd I) {a1 : Int32} (hz : ¬ (zok a1 2)) : aw_Met G mX10_wipe [.ref 3, .int a1] (zH n I L c) (fun v h2 => v = some (.int (-2)) ∧ ∃ I2 L2 c2, h2 = zH n I2 L2 c2 ∧ zCI b0 b1 l0 l1 t u x y g F S E fd I2 ∧ ∀ o, 81 ≤ o → I2 o = I o) := by
  obtain ⟨hW, hC, hF, ⟨s0, hO, hR⟩, ⟨t2, s2, hD⟩, hG, hS, hfd⟩ := id hI
  obtain ⟨hP, h60, h61, htc, hV, hkk, hx, hy⟩ := id hX
  have h8 := hP.1.1
  have hk10 : kk ≤ 10 := by rw [hkk]; exact q_k_leW hW.1.2.2.2.2
  have hi6 : I 6 5 = nI (t 6 0) := by rw [h60]; exact hC.2.2
  have hi4 : I 4 5 = nI kk := by rw [hkk]; exact hW.2.2
  have hVo : f_Vok V kk := by rw [hV, hkk]; exact v_w_ok
  have hsm := zSame hP hO.1
  have hbd := zBd (m := z0) (u := u) hP.1 hP.2.2.2.1 hP.2.2.2.2.1 hP.2.2.2.2.2 hO.1
  have hS0 : p_play s0 t u x 0 0 = t 6 0 := hbd.1.1
  refine aw_Met.of okX10_wipe (Nat.le_of_ble_eq_true rfl) ?_
  show aw_W G mX10_wipe 0 [.ref 3, .int a1, aw_x, aw_x] [] (zH n I L c) (0, 0) _
  refine aw_iload_n dX10_wipe_0 rfl ?_
  refine aw_iconst (v := 2) dX10_wipe_1 rfl ?_
  refine aw_S0c (As := [_, _]) dX10_wipe_2 k10_100 rfl rfl (Nat.le_of_ble_eq_true rfl) ⟨⟨Nat.le_of_ble_eq_true rfl, Nat.le_of_ble_eq_true rfl⟩, ⟨Nat.le_of_ble_eq_true rfl, Nat.le_of_ble_eq_true rfl⟩⟩ ⟨rfl, rfl⟩ (w_within G a1 (b := 2) (by omega)) (fun v h2 hq => ?_)
  obtain ⟨rfl, rfl⟩ := hq
  refine aw_if_ne_B (tgt := 11) dX10_wipe_5 (by decide) (fun z => absurd z hz) (fun c5 => ?_)
  refine aw_bipush (v := -2) dX10_wipe_8 (by decide) ?_
  refine aw_reti dX10_wipe_10 rfl rfl ⟨Nat.le_of_ble_eq_true rfl, Nat.le_of_ble_eq_true rfl⟩ ?_
  exact ⟨rfl, _, _, _, rfl, hI, fun _ _ => rfl⟩
theorem c_undoB (G : aw_G) {n c : Nat} {I : Nat → Nat → Int32} {L : Nat → Nat → Int64} {b0 b1 : Nat → Nat} {l0 l1 : Nat} {t u x y V g : Nat → Nat → Nat} {kk : Nat} {F S : Nat → Nat} {E : Nat → Nat → Int32} {fd : Int32} (hX : zTx b0 b1 l0 l1 t u x y V kk) (hI : zCI b0 b1 l0 l1 t u x y g F S E fd I) {a1 : Int32} (hz : ¬ (zok a1 2)) : aw_Met G mX10_undo [.ref 3, .int a1] (zH n I L c) (fun v h2 => v = some (.int (-2)) ∧ ∃ I2 L2 c2, h2 = zH n I2 L2 c2 ∧ zCI b0 b1 l0 l1 t u x y g F S E fd I2 ∧ ∀ o, 81 ≤ o → I2 o = I o) := by
  obtain ⟨hW, hC, hF, ⟨s0, hO, hR⟩, ⟨t2, s2, hD⟩, hG, hS, hfd⟩ := id hI
  obtain ⟨hP, h60, h61, htc, hV, hkk, hx, hy⟩ := id hX
  have h8 := hP.1.1
  have hk10 : kk ≤ 10 := by rw [hkk]; exact q_k_leW hW.1.2.2.2.2
  have hi6 : I 6 5 = nI (t 6 0) := by rw [h60]; exact hC.2.2
  have hi4 : I 4 5 = nI kk := by rw [hkk]; exact hW.2.2
  have hVo : f_Vok V kk := by rw [hV, hkk]; exact v_w_ok
  have hsm := zSame hP hO.1
  have hbd := zBd (m := z0) (u := u) hP.1 hP.2.2.2.1 hP.2.2.2.2.1 hP.2.2.2.2.2 hO.1
  have hS0 : p_play s0 t u x 0 0 = t 6 0 := hbd.1.1
  refine aw_Met.of okX10_undo (Nat.le_of_ble_eq_true rfl) ?_
  show aw_W G mX10_undo 0 [.ref 3, .int a1, aw_x] [] (zH n I L c) (0, 0) _
  refine aw_iload_n dX10_undo_0 rfl ?_
  refine aw_iconst (v := 2) dX10_undo_1 rfl ?_
  refine aw_S0c (As := [_, _]) dX10_undo_2 k10_100 rfl rfl (Nat.le_of_ble_eq_true rfl) ⟨⟨Nat.le_of_ble_eq_true rfl, Nat.le_of_ble_eq_true rfl⟩, ⟨Nat.le_of_ble_eq_true rfl, Nat.le_of_ble_eq_true rfl⟩⟩ ⟨rfl, rfl⟩ (w_within G a1 (b := 2) (by omega)) (fun v h2 hq => ?_)
  obtain ⟨rfl, rfl⟩ := hq
  refine aw_if_ne_B (tgt := 11) dX10_undo_5 (by decide) (fun z => absurd z hz) (fun c5 => ?_)
  refine aw_bipush (v := -2) dX10_undo_8 (by decide) ?_
  refine aw_reti dX10_undo_10 rfl rfl ⟨Nat.le_of_ble_eq_true rfl, Nat.le_of_ble_eq_true rfl⟩ ?_
  exact ⟨rfl, _, _, _, rfl, hI, fun _ _ => rfl⟩
theorem c_type0 (G : aw_G) {n c : Nat} {I : Nat → Nat → Int32} {L : Nat → Nat → Int64} {b0 b1 : Nat → Nat} {l0 l1 : Nat} {t u x y V g : Nat → Nat → Nat} {kk : Nat} {F S : Nat → Nat} {E : Nat → Nat → Int32} {fd : Int32} (hX : zTx b0 b1 l0 l1 t u x y V kk) (hI : zCI b0 b1 l0 l1 t u x y g F S E fd I) {p2 : Nat} (hp2 : p2 < 256) (hl : l0 < 49) : aw_Met G mX10_type [.ref 3, .int 0, .int (nI p2)] (zH n I L c) (fun v h2 => v = some (.int (nI (l0 + 1))) ∧ ∃ I2 L2 c2, h2 = zH n I2 L2 c2 ∧ (∃ x2 y2 V2 kk2, zTx (va_up b0 l0 p2) b1 (l0 + 1) l1 t u x2 y2 V2 kk2 ∧ zCI (va_up b0 l0 p2) b1 (l0 + 1) l1 t u x2 y2 g F S E fd I2) ∧ ∀ o, 81 ≤ o → I2 o = I o) := by
  obtain ⟨hW, hC, hF, ⟨s0, hO, hR⟩, ⟨t2, s2, hD⟩, hG, hS, hfd⟩ := id hI
  obtain ⟨hP, h60, h61, htc, hV, hkk, hx, hy⟩ := id hX
  have h8 := hP.1.1
  have hk10 : kk ≤ 10 := by rw [hkk]; exact q_k_leW hW.1.2.2.2.2
  have hi6 : I 6 5 = nI (t 6 0) := by rw [h60]; exact hC.2.2
  have hi4 : I 4 5 = nI kk := by rw [hkk]; exact hW.2.2
  have hVo : f_Vok V kk := by rw [hV, hkk]; exact v_w_ok
  have hsm := zSame hP hO.1
  have hbd := zBd (m := z0) (u := u) hP.1 hP.2.2.2.1 hP.2.2.2.2.1 hP.2.2.2.2.2 hO.1
  have hS0 : p_play s0 t u x 0 0 = t 6 0 := hbd.1.1
  refine aw_Met.of okX10_type (Nat.le_of_ble_eq_true rfl) ?_
  show aw_W G mX10_type 0 [.ref 3, .int 0, .int (nI p2), aw_x] [] (zH n I L c) (0, 0) _
  refine aw_iload_n dX10_type_0 rfl ?_
  refine aw_iconst (v := 2) dX10_type_1 rfl ?_
  refine aw_S0c (As := [_, _]) dX10_type_2 k10_100 rfl rfl (Nat.le_of_ble_eq_true rfl) ⟨⟨Nat.le_of_ble_eq_true rfl, Nat.le_of_ble_eq_true rfl⟩, ⟨Nat.le_of_ble_eq_true rfl, Nat.le_of_ble_eq_true rfl⟩⟩ ⟨rfl, rfl⟩ (w_within G 0 (b := 2) (by omega)) (fun v h2 hq => ?_)
  obtain ⟨rfl, rfl⟩ := hq
  refine aw_if_eq_B (tgt := 18) dX10_type_5 (by decide) (fun z => absurd z (fun q => q (by decide))) (fun c5 => ?_)
  refine aw_iload_n dX10_type_8 rfl ?_
  refine aw_sipush (v := 256) dX10_type_9 (by decide) ?_
  refine aw_S0c (As := [_, _]) dX10_type_12 k10_100 rfl rfl (Nat.le_of_ble_eq_true rfl) ⟨⟨Nat.le_of_ble_eq_true rfl, Nat.le_of_ble_eq_true rfl⟩, ⟨Nat.le_of_ble_eq_true rfl, Nat.le_of_ble_eq_true rfl⟩⟩ ⟨rfl, rfl⟩ (w_within G ((nI p2)) (b := 256) (by omega)) (fun v h2 hq => ?_)
  obtain ⟨rfl, rfl⟩ := hq
  refine aw_if_ne_B (tgt := 21) dX10_type_15 (by decide) (fun c15 => ?_) (fun z => absurd z (fun q => q ((zok_nI (by omega)).mpr hp2)))
  refine aw_aload_n dX10_type_21 rfl ?_
  refine aw_iload_n dX10_type_22 rfl ?_
  refine aw_V0c (As := [_]) dX10_type_23 k10_104 rfl rfl rfl ⟨Nat.le_of_ble_eq_true rfl, Nat.le_of_ble_eq_true rfl⟩ (Nat.le_of_ble_eq_true rfl) ⟨⟨Nat.le_of_ble_eq_true rfl, Nat.le_of_ble_eq_true rfl⟩, ⟨Nat.le_of_ble_eq_true rfl, Nat.le_of_ble_eq_true rfl⟩⟩ ⟨rfl, rfl⟩ (w_textOf0 G) (fun v h2 hq => ?_)
  obtain ⟨rfl, rfl⟩ := hq
  refine aw_astore_n (ls2 := [_, _, _, _]) dX10_type_26 (by decide) rfl rfl ?_
  refine aw_aload_n dX10_type_27 rfl ?_
  refine aw_V0c (As := []) dX10_type_28 k10_108 rfl rfl rfl ⟨Nat.le_of_ble_eq_true rfl, Nat.le_of_ble_eq_true rfl⟩ (Nat.le_of_ble_eq_true rfl) ⟨⟨Nat.le_of_ble_eq_true rfl, Nat.le_of_ble_eq_true rfl⟩, ⟨Nat.le_of_ble_eq_true rfl, Nat.le_of_ble_eq_true rfl⟩⟩ ⟨rfl, rfl⟩ (w_isFullW G hW.1) (fun v h2 hq => ?_)
  obtain ⟨rfl, rfl⟩ := hq
  refine aw_if_eq_B (tgt := 37) dX10_type_31 (by decide) (fun c31 => ?_) (fun z => absurd z (by omega))
  refine aw_aload_n dX10_type_37 rfl ?_
  refine aw_iload_n dX10_type_38 rfl ?_
  refine aw_V0c (As := [_]) dX10_type_39 k10_112 rfl rfl rfl ⟨Nat.le_of_ble_eq_true rfl, Nat.le_of_ble_eq_true rfl⟩ (Nat.le_of_ble_eq_true rfl) ⟨⟨Nat.le_of_ble_eq_true rfl, Nat.le_of_ble_eq_true rfl⟩, ⟨Nat.le_of_ble_eq_true rfl, Nat.le_of_ble_eq_true rfl⟩⟩ ⟨rfl, rfl⟩ (w_pushW G hW.1 hl hp2) (fun v h2 hq => ?_)
  obtain ⟨rfl, I1, rfl, hT1, hF1⟩ := hq
  have hK1 := hI.k.W hT1 hF1
  refine aw_aload_n dX10_type_42 rfl ?_
  refine aw_iload_n dX10_type_43 rfl ?_
  refine aw_V0c (As := [_]) dX10_type_44 k10_116 rfl rfl rfl ⟨Nat.le_of_ble_eq_true rfl, Nat.le_of_ble_eq_true rfl⟩ (Nat.le_of_ble_eq_true rfl) ⟨⟨Nat.le_of_ble_eq_true rfl, Nat.le_of_ble_eq_true rfl⟩, ⟨Nat.le_of_ble_eq_true rfl, Nat.le_of_ble_eq_true rfl⟩⟩ ⟨rfl, rfl⟩ (w_tc0 G hK1) (fun v h2 hq => ?_)
  obtain ⟨rfl, I2, rfl, hI2, hF2⟩ := hq
  refine aw_aload_n dX10_type_47 rfl ?_
  refine aw_getI dX10_type_48 f10_119 rfl ⟨Nat.le_of_ble_eq_true rfl, Nat.le_of_ble_eq_true rfl⟩ rfl ?_
  refine aw_top hI2.1.1.2.2.1 ?_
  refine aw_reti dX10_type_51 rfl rfl ⟨Nat.le_of_ble_eq_true rfl, Nat.le_of_ble_eq_true rfl⟩ ?_
  exact ⟨rfl, _, _, _, rfl, ⟨_, _, _, _, zTx.mk hP.1 hP.2.1 hP.2.2.1 h60 h61 htc, hI2⟩, fun o ho => by rw [hF2 o ho]; exact hF1 o (by omega) (by omega)⟩
theorem c_type0F (G : aw_G) {n c : Nat} {I : Nat → Nat → Int32} {L : Nat → Nat → Int64} {b0 b1 : Nat → Nat} {l0 l1 : Nat} {t u x y V g : Nat → Nat → Nat} {kk : Nat} {F S : Nat → Nat} {E : Nat → Nat → Int32} {fd : Int32} (hX : zTx b0 b1 l0 l1 t u x y V kk) (hI : zCI b0 b1 l0 l1 t u x y g F S E fd I) {p2 : Nat} (hp2 : p2 < 256) (hl : l0 = 49) : aw_Met G mX10_type [.ref 3, .int 0, .int (nI p2)] (zH n I L c) (fun v h2 => v = some (.int (-4)) ∧ ∃ I2 L2 c2, h2 = zH n I2 L2 c2 ∧ zCI b0 b1 l0 l1 t u x y g F S E fd I2 ∧ ∀ o, 81 ≤ o → I2 o = I o) := by
  obtain ⟨hW, hC, hF, ⟨s0, hO, hR⟩, ⟨t2, s2, hD⟩, hG, hS, hfd⟩ := id hI
  obtain ⟨hP, h60, h61, htc, hV, hkk, hx, hy⟩ := id hX
  have h8 := hP.1.1
  have hk10 : kk ≤ 10 := by rw [hkk]; exact q_k_leW hW.1.2.2.2.2
  have hi6 : I 6 5 = nI (t 6 0) := by rw [h60]; exact hC.2.2
  have hi4 : I 4 5 = nI kk := by rw [hkk]; exact hW.2.2
  have hVo : f_Vok V kk := by rw [hV, hkk]; exact v_w_ok
  have hsm := zSame hP hO.1
  have hbd := zBd (m := z0) (u := u) hP.1 hP.2.2.2.1 hP.2.2.2.2.1 hP.2.2.2.2.2 hO.1
  have hS0 : p_play s0 t u x 0 0 = t 6 0 := hbd.1.1
  refine aw_Met.of okX10_type (Nat.le_of_ble_eq_true rfl) ?_
  show aw_W G mX10_type 0 [.ref 3, .int 0, .int (nI p2), aw_x] [] (zH n I L c) (0, 0) _
  refine aw_iload_n dX10_type_0 rfl ?_
  refine aw_iconst (v := 2) dX10_type_1 rfl ?_
  refine aw_S0c (As := [_, _]) dX10_type_2 k10_100 rfl rfl (Nat.le_of_ble_eq_true rfl) ⟨⟨Nat.le_of_ble_eq_true rfl, Nat.le_of_ble_eq_true rfl⟩, ⟨Nat.le_of_ble_eq_true rfl, Nat.le_of_ble_eq_true rfl⟩⟩ ⟨rfl, rfl⟩ (w_within G 0 (b := 2) (by omega)) (fun v h2 hq => ?_)
  obtain ⟨rfl, rfl⟩ := hq
  refine aw_if_eq_B (tgt := 18) dX10_type_5 (by decide) (fun z => absurd z (fun q => q (by decide))) (fun c5 => ?_)
  refine aw_iload_n dX10_type_8 rfl ?_
  refine aw_sipush (v := 256) dX10_type_9 (by decide) ?_
  refine aw_S0c (As := [_, _]) dX10_type_12 k10_100 rfl rfl (Nat.le_of_ble_eq_true rfl) ⟨⟨Nat.le_of_ble_eq_true rfl, Nat.le_of_ble_eq_true rfl⟩, ⟨Nat.le_of_ble_eq_true rfl, Nat.le_of_ble_eq_true rfl⟩⟩ ⟨rfl, rfl⟩ (w_within G ((nI p2)) (b := 256) (by omega)) (fun v h2 hq => ?_)
  obtain ⟨rfl, rfl⟩ := hq
  refine aw_if_ne_B (tgt := 21) dX10_type_15 (by decide) (fun c15 => ?_) (fun z => absurd z (fun q => q ((zok_nI (by omega)).mpr hp2)))
  refine aw_aload_n dX10_type_21 rfl ?_
  refine aw_iload_n dX10_type_22 rfl ?_
  refine aw_V0c (As := [_]) dX10_type_23 k10_104 rfl rfl rfl ⟨Nat.le_of_ble_eq_true rfl, Nat.le_of_ble_eq_true rfl⟩ (Nat.le_of_ble_eq_true rfl) ⟨⟨Nat.le_of_ble_eq_true rfl, Nat.le_of_ble_eq_true rfl⟩, ⟨Nat.le_of_ble_eq_true rfl, Nat.le_of_ble_eq_true rfl⟩⟩ ⟨rfl, rfl⟩ (w_textOf0 G) (fun v h2 hq => ?_)
  obtain ⟨rfl, rfl⟩ := hq
  refine aw_astore_n (ls2 := [_, _, _, _]) dX10_type_26 (by decide) rfl rfl ?_
  refine aw_aload_n dX10_type_27 rfl ?_
  refine aw_V0c (As := []) dX10_type_28 k10_108 rfl rfl rfl ⟨Nat.le_of_ble_eq_true rfl, Nat.le_of_ble_eq_true rfl⟩ (Nat.le_of_ble_eq_true rfl) ⟨⟨Nat.le_of_ble_eq_true rfl, Nat.le_of_ble_eq_true rfl⟩, ⟨Nat.le_of_ble_eq_true rfl, Nat.le_of_ble_eq_true rfl⟩⟩ ⟨rfl, rfl⟩ (w_isFullW G hW.1) (fun v h2 hq => ?_)
  obtain ⟨rfl, rfl⟩ := hq
  refine aw_if_eq_B (tgt := 37) dX10_type_31 (by decide) (fun z => absurd z (fun q => q hl)) (fun c31 => ?_)
  refine aw_bipush (v := -4) dX10_type_34 (by decide) ?_
  refine aw_reti dX10_type_36 rfl rfl ⟨Nat.le_of_ble_eq_true rfl, Nat.le_of_ble_eq_true rfl⟩ ?_
  exact ⟨rfl, _, _, _, rfl, hI, fun _ _ => rfl⟩
theorem c_wipe0 (G : aw_G) {n c : Nat} {I : Nat → Nat → Int32} {L : Nat → Nat → Int64} {b0 b1 : Nat → Nat} {l0 l1 : Nat} {t u x y V g : Nat → Nat → Nat} {kk : Nat} {F S : Nat → Nat} {E : Nat → Nat → Int32} {fd : Int32} (hX : zTx b0 b1 l0 l1 t u x y V kk) (hI : zCI b0 b1 l0 l1 t u x y g F S E fd I)  : aw_Met G mX10_wipe [.ref 3, .int 0] (zH n I L c) (fun v h2 => v = some (.int (nI l0)) ∧ ∃ I2 L2 c2, h2 = zH n I2 L2 c2 ∧ (∃ x2 y2 V2 kk2, zTx b0 b1 0 l1 t u x2 y2 V2 kk2 ∧ zCI b0 b1 0 l1 t u x2 y2 g F S E fd I2) ∧ ∀ o, 81 ≤ o → I2 o = I o) := by
  obtain ⟨hW, hC, hF, ⟨s0, hO, hR⟩, ⟨t2, s2, hD⟩, hG, hS, hfd⟩ := id hI
  obtain ⟨hP, h60, h61, htc, hV, hkk, hx, hy⟩ := id hX
  have h8 := hP.1.1
  have hk10 : kk ≤ 10 := by rw [hkk]; exact q_k_leW hW.1.2.2.2.2
  have hi6 : I 6 5 = nI (t 6 0) := by rw [h60]; exact hC.2.2
  have hi4 : I 4 5 = nI kk := by rw [hkk]; exact hW.2.2
  have hVo : f_Vok V kk := by rw [hV, hkk]; exact v_w_ok
  have hsm := zSame hP hO.1
  have hbd := zBd (m := z0) (u := u) hP.1 hP.2.2.2.1 hP.2.2.2.2.1 hP.2.2.2.2.2 hO.1
  have hS0 : p_play s0 t u x 0 0 = t 6 0 := hbd.1.1
  refine aw_Met.of okX10_wipe (Nat.le_of_ble_eq_true rfl) ?_
  show aw_W G mX10_wipe 0 [.ref 3, .int 0, aw_x, aw_x] [] (zH n I L c) (0, 0) _
  refine aw_iload_n dX10_wipe_0 rfl ?_
  refine aw_iconst (v := 2) dX10_wipe_1 rfl ?_
  refine aw_S0c (As := [_, _]) dX10_wipe_2 k10_100 rfl rfl (Nat.le_of_ble_eq_true rfl) ⟨⟨Nat.le_of_ble_eq_true rfl, Nat.le_of_ble_eq_true rfl⟩, ⟨Nat.le_of_ble_eq_true rfl, Nat.le_of_ble_eq_true rfl⟩⟩ ⟨rfl, rfl⟩ (w_within G 0 (b := 2) (by omega)) (fun v h2 hq => ?_)
  obtain ⟨rfl, rfl⟩ := hq
  refine aw_if_ne_B (tgt := 11) dX10_wipe_5 (by decide) (fun c5 => ?_) (fun z => absurd z (fun q => q (by decide)))
  refine aw_aload_n dX10_wipe_11 rfl ?_
  refine aw_iload_n dX10_wipe_12 rfl ?_
  refine aw_V0c (As := [_]) dX10_wipe_13 k10_104 rfl rfl rfl ⟨Nat.le_of_ble_eq_true rfl, Nat.le_of_ble_eq_true rfl⟩ (Nat.le_of_ble_eq_true rfl) ⟨⟨Nat.le_of_ble_eq_true rfl, Nat.le_of_ble_eq_true rfl⟩, ⟨Nat.le_of_ble_eq_true rfl, Nat.le_of_ble_eq_true rfl⟩⟩ ⟨rfl, rfl⟩ (w_textOf0 G) (fun v h2 hq => ?_)
  obtain ⟨rfl, rfl⟩ := hq
  refine aw_astore_n (ls2 := [_, _, _, _]) dX10_wipe_16 (by decide) rfl rfl ?_
  refine aw_aload_n dX10_wipe_17 rfl ?_
  refine aw_getI dX10_wipe_18 f10_119 rfl ⟨Nat.le_of_ble_eq_true rfl, Nat.le_of_ble_eq_true rfl⟩ rfl ?_
  refine aw_top hW.1.2.2.1 ?_
  refine aw_istore_n (ls2 := [_, _, _, _]) dX10_wipe_21 (by decide) rfl rfl ?_
  refine aw_aload_n dX10_wipe_22 rfl ?_
  refine aw_iconst (v := 0) dX10_wipe_23 rfl ?_
  refine aw_V0c (As := [_]) dX10_wipe_24 k10_122 rfl rfl rfl ⟨Nat.le_of_ble_eq_true rfl, Nat.le_of_ble_eq_true rfl⟩ (Nat.le_of_ble_eq_true rfl) ⟨⟨Nat.le_of_ble_eq_true rfl, Nat.le_of_ble_eq_true rfl⟩, ⟨Nat.le_of_ble_eq_true rfl, Nat.le_of_ble_eq_true rfl⟩⟩ ⟨rfl, rfl⟩ (w_cutToW G hW.1 (l2 := 0) (by omega)) (fun v h2 hq => ?_)
  obtain ⟨rfl, I1, rfl, hT1, hF0⟩ := hq
  have hF1 : ∀ o, o ≠ 4 → o ≠ 5 → I1 o = I o := fun o a _ => hF0 o a
  have hK1 := hI.k.W hT1 hF1
  refine aw_aload_n dX10_wipe_27 rfl ?_
  refine aw_iload_n dX10_wipe_28 rfl ?_
  refine aw_V0c (As := [_]) dX10_wipe_29 k10_116 rfl rfl rfl ⟨Nat.le_of_ble_eq_true rfl, Nat.le_of_ble_eq_true rfl⟩ (Nat.le_of_ble_eq_true rfl) ⟨⟨Nat.le_of_ble_eq_true rfl, Nat.le_of_ble_eq_true rfl⟩, ⟨Nat.le_of_ble_eq_true rfl, Nat.le_of_ble_eq_true rfl⟩⟩ ⟨rfl, rfl⟩ (w_tc0 G hK1) (fun v h2 hq => ?_)
  obtain ⟨rfl, I2, rfl, hI2, hF2⟩ := hq
  refine aw_iload_n dX10_wipe_32 rfl ?_
  refine aw_reti dX10_wipe_33 rfl rfl ⟨Nat.le_of_ble_eq_true rfl, Nat.le_of_ble_eq_true rfl⟩ ?_
  exact ⟨rfl, _, _, _, rfl, ⟨_, _, _, _, zTx.mk hP.1 hP.2.1 hP.2.2.1 h60 h61 htc, hI2⟩, fun o ho => by rw [hF2 o ho]; exact hF1 o (by omega) (by omega)⟩
theorem c_undo0N (G : aw_G) {n c : Nat} {I : Nat → Nat → Int32} {L : Nat → Nat → Int64} {b0 b1 : Nat → Nat} {l0 l1 : Nat} {t u x y V g : Nat → Nat → Nat} {kk : Nat} {F S : Nat → Nat} {E : Nat → Nat → Int32} {fd : Int32} (hX : zTx b0 b1 l0 l1 t u x y V kk) (hI : zCI b0 b1 l0 l1 t u x y g F S E fd I) (hl : l0 = 0) : aw_Met G mX10_undo [.ref 3, .int 0] (zH n I L c) (fun v h2 => v = some (.int (-3)) ∧ ∃ I2 L2 c2, h2 = zH n I2 L2 c2 ∧ zCI b0 b1 l0 l1 t u x y g F S E fd I2 ∧ ∀ o, 81 ≤ o → I2 o = I o) := by
  obtain ⟨hW, hC, hF, ⟨s0, hO, hR⟩, ⟨t2, s2, hD⟩, hG, hS, hfd⟩ := id hI
  obtain ⟨hP, h60, h61, htc, hV, hkk, hx, hy⟩ := id hX
  have h8 := hP.1.1
  have hk10 : kk ≤ 10 := by rw [hkk]; exact q_k_leW hW.1.2.2.2.2
  have hi6 : I 6 5 = nI (t 6 0) := by rw [h60]; exact hC.2.2
  have hi4 : I 4 5 = nI kk := by rw [hkk]; exact hW.2.2
  have hVo : f_Vok V kk := by rw [hV, hkk]; exact v_w_ok
  have hsm := zSame hP hO.1
  have hbd := zBd (m := z0) (u := u) hP.1 hP.2.2.2.1 hP.2.2.2.2.1 hP.2.2.2.2.2 hO.1
  have hS0 : p_play s0 t u x 0 0 = t 6 0 := hbd.1.1
  have hll := hW.1.2.2.2.2
  refine aw_Met.of okX10_undo (Nat.le_of_ble_eq_true rfl) ?_
  show aw_W G mX10_undo 0 [.ref 3, .int 0, aw_x] [] (zH n I L c) (0, 0) _
  refine aw_iload_n dX10_undo_0 rfl ?_
  refine aw_iconst (v := 2) dX10_undo_1 rfl ?_
  refine aw_S0c (As := [_, _]) dX10_undo_2 k10_100 rfl rfl (Nat.le_of_ble_eq_true rfl) ⟨⟨Nat.le_of_ble_eq_true rfl, Nat.le_of_ble_eq_true rfl⟩, ⟨Nat.le_of_ble_eq_true rfl, Nat.le_of_ble_eq_true rfl⟩⟩ ⟨rfl, rfl⟩ (w_within G 0 (b := 2) (by omega)) (fun v h2 hq => ?_)
  obtain ⟨rfl, rfl⟩ := hq
  refine aw_if_ne_B (tgt := 11) dX10_undo_5 (by decide) (fun c5 => ?_) (fun z => absurd z (fun q => q (by decide)))
  refine aw_aload_n dX10_undo_11 rfl ?_
  refine aw_iload_n dX10_undo_12 rfl ?_
  refine aw_V0c (As := [_]) dX10_undo_13 k10_104 rfl rfl rfl ⟨Nat.le_of_ble_eq_true rfl, Nat.le_of_ble_eq_true rfl⟩ (Nat.le_of_ble_eq_true rfl) ⟨⟨Nat.le_of_ble_eq_true rfl, Nat.le_of_ble_eq_true rfl⟩, ⟨Nat.le_of_ble_eq_true rfl, Nat.le_of_ble_eq_true rfl⟩⟩ ⟨rfl, rfl⟩ (w_textOf0 G) (fun v h2 hq => ?_)
  obtain ⟨rfl, rfl⟩ := hq
  refine aw_astore_n (ls2 := [_, _, _]) dX10_undo_16 (by decide) rfl rfl ?_
  refine aw_aload_n dX10_undo_17 rfl ?_
  refine aw_getI dX10_undo_18 f10_119 rfl ⟨Nat.le_of_ble_eq_true rfl, Nat.le_of_ble_eq_true rfl⟩ rfl ?_
  refine aw_top hW.1.2.2.1 ?_
  refine aw_if_ne_n (a := l0) (tgt := 27) dX10_undo_21 (by decide) (by omega) (fun z => absurd z (fun q => q hl)) (fun c21 => ?_)
  refine aw_bipush (v := -3) dX10_undo_24 (by decide) ?_
  refine aw_reti dX10_undo_26 rfl rfl ⟨Nat.le_of_ble_eq_true rfl, Nat.le_of_ble_eq_true rfl⟩ ?_
  exact ⟨rfl, _, _, _, rfl, hI, fun _ _ => rfl⟩
theorem c_undo0 (G : aw_G) {n c : Nat} {I : Nat → Nat → Int32} {L : Nat → Nat → Int64} {b0 b1 : Nat → Nat} {l0 l1 : Nat} {t u x y V g : Nat → Nat → Nat} {kk : Nat} {F S : Nat → Nat} {E : Nat → Nat → Int32} {fd : Int32} (hX : zTx b0 b1 l0 l1 t u x y V kk) (hI : zCI b0 b1 l0 l1 t u x y g F S E fd I) (hl : ¬ l0 = 0) : aw_Met G mX10_undo [.ref 3, .int 0] (zH n I L c) (fun v h2 => v = some (.int (nI (l0 - 1))) ∧ ∃ I2 L2 c2, h2 = zH n I2 L2 c2 ∧ (∃ x2 y2 V2 kk2, zTx b0 b1 (l0 - 1) l1 t u x2 y2 V2 kk2 ∧ zCI b0 b1 (l0 - 1) l1 t u x2 y2 g F S E fd I2) ∧ ∀ o, 81 ≤ o → I2 o = I o) := by
  obtain ⟨hW, hC, hF, ⟨s0, hO, hR⟩, ⟨t2, s2, hD⟩, hG, hS, hfd⟩ := id hI
  obtain ⟨hP, h60, h61, htc, hV, hkk, hx, hy⟩ := id hX
  have h8 := hP.1.1
  have hk10 : kk ≤ 10 := by rw [hkk]; exact q_k_leW hW.1.2.2.2.2
  have hi6 : I 6 5 = nI (t 6 0) := by rw [h60]; exact hC.2.2
  have hi4 : I 4 5 = nI kk := by rw [hkk]; exact hW.2.2
  have hVo : f_Vok V kk := by rw [hV, hkk]; exact v_w_ok
  have hsm := zSame hP hO.1
  have hbd := zBd (m := z0) (u := u) hP.1 hP.2.2.2.1 hP.2.2.2.2.1 hP.2.2.2.2.2 hO.1
  have hS0 : p_play s0 t u x 0 0 = t 6 0 := hbd.1.1
  have hll := hW.1.2.2.2.2
  refine aw_Met.of okX10_undo (Nat.le_of_ble_eq_true rfl) ?_
  show aw_W G mX10_undo 0 [.ref 3, .int 0, aw_x] [] (zH n I L c) (0, 0) _
  refine aw_iload_n dX10_undo_0 rfl ?_
  refine aw_iconst (v := 2) dX10_undo_1 rfl ?_
  refine aw_S0c (As := [_, _]) dX10_undo_2 k10_100 rfl rfl (Nat.le_of_ble_eq_true rfl) ⟨⟨Nat.le_of_ble_eq_true rfl, Nat.le_of_ble_eq_true rfl⟩, ⟨Nat.le_of_ble_eq_true rfl, Nat.le_of_ble_eq_true rfl⟩⟩ ⟨rfl, rfl⟩ (w_within G 0 (b := 2) (by omega)) (fun v h2 hq => ?_)
  obtain ⟨rfl, rfl⟩ := hq
  refine aw_if_ne_B (tgt := 11) dX10_undo_5 (by decide) (fun c5 => ?_) (fun z => absurd z (fun q => q (by decide)))
  refine aw_aload_n dX10_undo_11 rfl ?_
  refine aw_iload_n dX10_undo_12 rfl ?_
  refine aw_V0c (As := [_]) dX10_undo_13 k10_104 rfl rfl rfl ⟨Nat.le_of_ble_eq_true rfl, Nat.le_of_ble_eq_true rfl⟩ (Nat.le_of_ble_eq_true rfl) ⟨⟨Nat.le_of_ble_eq_true rfl, Nat.le_of_ble_eq_true rfl⟩, ⟨Nat.le_of_ble_eq_true rfl, Nat.le_of_ble_eq_true rfl⟩⟩ ⟨rfl, rfl⟩ (w_textOf0 G) (fun v h2 hq => ?_)
  obtain ⟨rfl, rfl⟩ := hq
  refine aw_astore_n (ls2 := [_, _, _]) dX10_undo_16 (by decide) rfl rfl ?_
  refine aw_aload_n dX10_undo_17 rfl ?_
  refine aw_getI dX10_undo_18 f10_119 rfl ⟨Nat.le_of_ble_eq_true rfl, Nat.le_of_ble_eq_true rfl⟩ rfl ?_
  refine aw_top hW.1.2.2.1 ?_
  refine aw_if_ne_n (a := l0) (tgt := 27) dX10_undo_21 (by decide) (by omega) (fun c21 => ?_) (fun z => absurd z hl)
  refine aw_aload_n dX10_undo_27 rfl ?_
  refine aw_aload_n dX10_undo_28 rfl ?_
  refine aw_getI dX10_undo_29 f10_119 rfl ⟨Nat.le_of_ble_eq_true rfl, Nat.le_of_ble_eq_true rfl⟩ rfl ?_
  refine aw_top hW.1.2.2.1 ?_
  refine aw_iconst (v := 1) dX10_undo_32 rfl ?_
  refine aw_isub_n (a := l0) (b := 1) dX10_undo_33 (by omega) ?_
  refine aw_V0c (As := [_]) dX10_undo_34 k10_122 rfl rfl rfl ⟨Nat.le_of_ble_eq_true rfl, Nat.le_of_ble_eq_true rfl⟩ (Nat.le_of_ble_eq_true rfl) ⟨⟨Nat.le_of_ble_eq_true rfl, Nat.le_of_ble_eq_true rfl⟩, ⟨Nat.le_of_ble_eq_true rfl, Nat.le_of_ble_eq_true rfl⟩⟩ ⟨rfl, rfl⟩ (w_cutToW G hW.1 (l2 := l0 - 1) (by omega)) (fun v h2 hq => ?_)
  obtain ⟨rfl, I1, rfl, hT1, hF0⟩ := hq
  have hF1 : ∀ o, o ≠ 4 → o ≠ 5 → I1 o = I o := fun o a _ => hF0 o a
  have hK1 := hI.k.W hT1 hF1
  refine aw_aload_n dX10_undo_37 rfl ?_
  refine aw_iload_n dX10_undo_38 rfl ?_
  refine aw_V0c (As := [_]) dX10_undo_39 k10_116 rfl rfl rfl ⟨Nat.le_of_ble_eq_true rfl, Nat.le_of_ble_eq_true rfl⟩ (Nat.le_of_ble_eq_true rfl) ⟨⟨Nat.le_of_ble_eq_true rfl, Nat.le_of_ble_eq_true rfl⟩, ⟨Nat.le_of_ble_eq_true rfl, Nat.le_of_ble_eq_true rfl⟩⟩ ⟨rfl, rfl⟩ (w_tc0 G hK1) (fun v h2 hq => ?_)
  obtain ⟨rfl, I2, rfl, hI2, hF2⟩ := hq
  refine aw_aload_n dX10_undo_42 rfl ?_
  refine aw_getI dX10_undo_43 f10_119 rfl ⟨Nat.le_of_ble_eq_true rfl, Nat.le_of_ble_eq_true rfl⟩ rfl ?_
  refine aw_top hI2.1.1.2.2.1 ?_
  refine aw_reti dX10_undo_46 rfl rfl ⟨Nat.le_of_ble_eq_true rfl, Nat.le_of_ble_eq_true rfl⟩ ?_
  exact ⟨rfl, _, _, _, rfl, ⟨_, _, _, _, zTx.mk hP.1 hP.2.1 hP.2.2.1 h60 h61 htc, hI2⟩, fun o ho => by rw [hF2 o ho]; exact hF1 o (by omega) (by omega)⟩
theorem c_type1 (G : aw_G) {n c : Nat} {I : Nat → Nat → Int32} {L : Nat → Nat → Int64} {b0 b1 : Nat → Nat} {l0 l1 : Nat} {t u x y V g : Nat → Nat → Nat} {kk : Nat} {F S : Nat → Nat} {E : Nat → Nat → Int32} {fd : Int32} (hX : zTx b0 b1 l0 l1 t u x y V kk) (hI : zCI b0 b1 l0 l1 t u x y g F S E fd I) {p2 : Nat} (hp2 : p2 < 256) (hl : l1 < 55) : aw_Met G mX10_type [.ref 3, .int 1, .int (nI p2)] (zH n I L c) (fun v h2 => v = some (.int (nI (l1 + 1))) ∧ ∃ I2 L2 c2, h2 = zH n I2 L2 c2 ∧ (∃ t3, zTx b0 (va_up b1 l1 p2) l0 (l1 + 1) t3 u x y V kk ∧ zCI b0 (va_up b1 l1 p2) l0 (l1 + 1) t3 u x y g F S E fd I2 ∧ ∀ k, k < 8 → t3 5 k = t 5 k) ∧ ∀ o, 81 ≤ o → I2 o = I o) := by
  obtain ⟨hW, hC, hF, ⟨s0, hO, hR⟩, ⟨t2, s2, hD⟩, hG, hS, hfd⟩ := id hI
  obtain ⟨hP, h60, h61, htc, hV, hkk, hx, hy⟩ := id hX
  have h8 := hP.1.1
  have hk10 : kk ≤ 10 := by rw [hkk]; exact q_k_leW hW.1.2.2.2.2
  have hi6 : I 6 5 = nI (t 6 0) := by rw [h60]; exact hC.2.2
  have hi4 : I 4 5 = nI kk := by rw [hkk]; exact hW.2.2
  have hVo : f_Vok V kk := by rw [hV, hkk]; exact v_w_ok
  have hsm := zSame hP hO.1
  have hbd := zBd (m := z0) (u := u) hP.1 hP.2.2.2.1 hP.2.2.2.2.1 hP.2.2.2.2.2 hO.1
  have hS0 : p_play s0 t u x 0 0 = t 6 0 := hbd.1.1
  refine aw_Met.of okX10_type (Nat.le_of_ble_eq_true rfl) ?_
  show aw_W G mX10_type 0 [.ref 3, .int 1, .int (nI p2), aw_x] [] (zH n I L c) (0, 0) _
  refine aw_iload_n dX10_type_0 rfl ?_
  refine aw_iconst (v := 2) dX10_type_1 rfl ?_
  refine aw_S0c (As := [_, _]) dX10_type_2 k10_100 rfl rfl (Nat.le_of_ble_eq_true rfl) ⟨⟨Nat.le_of_ble_eq_true rfl, Nat.le_of_ble_eq_true rfl⟩, ⟨Nat.le_of_ble_eq_true rfl, Nat.le_of_ble_eq_true rfl⟩⟩ ⟨rfl, rfl⟩ (w_within G 1 (b := 2) (by omega)) (fun v h2 hq => ?_)
  obtain ⟨rfl, rfl⟩ := hq
  refine aw_if_eq_B (tgt := 18) dX10_type_5 (by decide) (fun z => absurd z (fun q => q (by decide))) (fun c5 => ?_)
  refine aw_iload_n dX10_type_8 rfl ?_
  refine aw_sipush (v := 256) dX10_type_9 (by decide) ?_
  refine aw_S0c (As := [_, _]) dX10_type_12 k10_100 rfl rfl (Nat.le_of_ble_eq_true rfl) ⟨⟨Nat.le_of_ble_eq_true rfl, Nat.le_of_ble_eq_true rfl⟩, ⟨Nat.le_of_ble_eq_true rfl, Nat.le_of_ble_eq_true rfl⟩⟩ ⟨rfl, rfl⟩ (w_within G ((nI p2)) (b := 256) (by omega)) (fun v h2 hq => ?_)
  obtain ⟨rfl, rfl⟩ := hq
  refine aw_if_ne_B (tgt := 21) dX10_type_15 (by decide) (fun c15 => ?_) (fun z => absurd z (fun q => q ((zok_nI (by omega)).mpr hp2)))
  refine aw_aload_n dX10_type_21 rfl ?_
  refine aw_iload_n dX10_type_22 rfl ?_
  refine aw_V0c (As := [_]) dX10_type_23 k10_104 rfl rfl rfl ⟨Nat.le_of_ble_eq_true rfl, Nat.le_of_ble_eq_true rfl⟩ (Nat.le_of_ble_eq_true rfl) ⟨⟨Nat.le_of_ble_eq_true rfl, Nat.le_of_ble_eq_true rfl⟩, ⟨Nat.le_of_ble_eq_true rfl, Nat.le_of_ble_eq_true rfl⟩⟩ ⟨rfl, rfl⟩ (w_textOf1 G) (fun v h2 hq => ?_)
  obtain ⟨rfl, rfl⟩ := hq
  refine aw_astore_n (ls2 := [_, _, _, _]) dX10_type_26 (by decide) rfl rfl ?_
  refine aw_aload_n dX10_type_27 rfl ?_
  refine aw_V0c (As := []) dX10_type_28 k10_108 rfl rfl rfl ⟨Nat.le_of_ble_eq_true rfl, Nat.le_of_ble_eq_true rfl⟩ (Nat.le_of_ble_eq_true rfl) ⟨⟨Nat.le_of_ble_eq_true rfl, Nat.le_of_ble_eq_true rfl⟩, ⟨Nat.le_of_ble_eq_true rfl, Nat.le_of_ble_eq_true rfl⟩⟩ ⟨rfl, rfl⟩ (w_isFullC G hC.1) (fun v h2 hq => ?_)
  obtain ⟨rfl, rfl⟩ := hq
  refine aw_if_eq_B (tgt := 37) dX10_type_31 (by decide) (fun c31 => ?_) (fun z => absurd z (by omega))
  refine aw_aload_n dX10_type_37 rfl ?_
  refine aw_iload_n dX10_type_38 rfl ?_
  refine aw_V0c (As := [_]) dX10_type_39 k10_112 rfl rfl rfl ⟨Nat.le_of_ble_eq_true rfl, Nat.le_of_ble_eq_true rfl⟩ (Nat.le_of_ble_eq_true rfl) ⟨⟨Nat.le_of_ble_eq_true rfl, Nat.le_of_ble_eq_true rfl⟩, ⟨Nat.le_of_ble_eq_true rfl, Nat.le_of_ble_eq_true rfl⟩⟩ ⟨rfl, rfl⟩ (w_pushC G hC.1 hl hp2) (fun v h2 hq => ?_)
  obtain ⟨rfl, I1, rfl, hT1, hF1⟩ := hq
  have hK1 := hI.k.C hT1 hF1
  have hx1 : zCh x 12 I1 := fun j hj => by rw [hF1 13 (by decide) (by decide), hF1 14 (by decide) (by decide), hF1 15 (by decide) (by decide)]; exact hF.2.2.2.2.2.1 j hj
  refine aw_aload_n dX10_type_42 rfl ?_
  refine aw_iload_n dX10_type_43 rfl ?_
  refine aw_V0c (As := [_]) dX10_type_44 k10_116 rfl rfl rfl ⟨Nat.le_of_ble_eq_true rfl, Nat.le_of_ble_eq_true rfl⟩ (Nat.le_of_ble_eq_true rfl) ⟨⟨Nat.le_of_ble_eq_true rfl, Nat.le_of_ble_eq_true rfl⟩, ⟨Nat.le_of_ble_eq_true rfl, Nat.le_of_ble_eq_true rfl⟩⟩ ⟨rfl, rfl⟩ (w_tc1 G hK1 hx1 hF.2.2.2.2.2.2) (fun v h2 hq => ?_)
  obtain ⟨rfl, I2, rfl, ⟨t3, hI2, e60, e61, e5, ec⟩, hF2⟩ := hq
  refine aw_aload_n dX10_type_47 rfl ?_
  refine aw_getI dX10_type_48 f10_119 rfl ⟨Nat.le_of_ble_eq_true rfl, Nat.le_of_ble_eq_true rfl⟩ rfl ?_
  refine aw_top hI2.2.1.1.2.2.1 ?_
  refine aw_reti dX10_type_51 rfl rfl ⟨Nat.le_of_ble_eq_true rfl, Nat.le_of_ble_eq_true rfl⟩ ?_
  exact ⟨rfl, _, _, _, rfl, ⟨t3, ⟨⟨hI2.2.2.1.2.1, hI2.2.2.1.2.2.1, hP.2.2⟩, e60, by rw [e61]; exact h61, ec, hV, hkk, hx, hy⟩, hI2, fun k _ => e5 k⟩, fun o ho => by rw [hF2 o ho]; exact hF1 o (by omega) (by omega)⟩
theorem c_type1F (G : aw_G) {n c : Nat} {I : Nat → Nat → Int32} {L : Nat → Nat → Int64} {b0 b1 : Nat → Nat} {l0 l1 : Nat} {t u x y V g : Nat → Nat → Nat} {kk : Nat} {F S : Nat → Nat} {E : Nat → Nat → Int32} {fd : Int32} (hX : zTx b0 b1 l0 l1 t u x y V kk) (hI : zCI b0 b1 l0 l1 t u x y g F S E fd I) {p2 : Nat} (hp2 : p2 < 256) (hl : l1 = 55) : aw_Met G mX10_type [.ref 3, .int 1, .int (nI p2)] (zH n I L c) (fun v h2 => v = some (.int (-4)) ∧ ∃ I2 L2 c2, h2 = zH n I2 L2 c2 ∧ zCI b0 b1 l0 l1 t u x y g F S E fd I2 ∧ ∀ o, 81 ≤ o → I2 o = I o) := by
  obtain ⟨hW, hC, hF, ⟨s0, hO, hR⟩, ⟨t2, s2, hD⟩, hG, hS, hfd⟩ := id hI
  obtain ⟨hP, h60, h61, htc, hV, hkk, hx, hy⟩ := id hX
  have h8 := hP.1.1
  have hk10 : kk ≤ 10 := by rw [hkk]; exact q_k_leW hW.1.2.2.2.2
  have hi6 : I 6 5 = nI (t 6 0) := by rw [h60]; exact hC.2.2
  have hi4 : I 4 5 = nI kk := by rw [hkk]; exact hW.2.2
  have hVo : f_Vok V kk := by rw [hV, hkk]; exact v_w_ok
  have hsm := zSame hP hO.1
  have hbd := zBd (m := z0) (u := u) hP.1 hP.2.2.2.1 hP.2.2.2.2.1 hP.2.2.2.2.2 hO.1
  have hS0 : p_play s0 t u x 0 0 = t 6 0 := hbd.1.1
  refine aw_Met.of okX10_type (Nat.le_of_ble_eq_true rfl) ?_
  show aw_W G mX10_type 0 [.ref 3, .int 1, .int (nI p2), aw_x] [] (zH n I L c) (0, 0) _
  refine aw_iload_n dX10_type_0 rfl ?_
  refine aw_iconst (v := 2) dX10_type_1 rfl ?_
  refine aw_S0c (As := [_, _]) dX10_type_2 k10_100 rfl rfl (Nat.le_of_ble_eq_true rfl) ⟨⟨Nat.le_of_ble_eq_true rfl, Nat.le_of_ble_eq_true rfl⟩, ⟨Nat.le_of_ble_eq_true rfl, Nat.le_of_ble_eq_true rfl⟩⟩ ⟨rfl, rfl⟩ (w_within G 1 (b := 2) (by omega)) (fun v h2 hq => ?_)
  obtain ⟨rfl, rfl⟩ := hq
  refine aw_if_eq_B (tgt := 18) dX10_type_5 (by decide) (fun z => absurd z (fun q => q (by decide))) (fun c5 => ?_)
  refine aw_iload_n dX10_type_8 rfl ?_
  refine aw_sipush (v := 256) dX10_type_9 (by decide) ?_
  refine aw_S0c (As := [_, _]) dX10_type_12 k10_100 rfl rfl (Nat.le_of_ble_eq_true rfl) ⟨⟨Nat.le_of_ble_eq_true rfl, Nat.le_of_ble_eq_true rfl⟩, ⟨Nat.le_of_ble_eq_true rfl, Nat.le_of_ble_eq_true rfl⟩⟩ ⟨rfl, rfl⟩ (w_within G ((nI p2)) (b := 256) (by omega)) (fun v h2 hq => ?_)
  obtain ⟨rfl, rfl⟩ := hq
  refine aw_if_ne_B (tgt := 21) dX10_type_15 (by decide) (fun c15 => ?_) (fun z => absurd z (fun q => q ((zok_nI (by omega)).mpr hp2)))
  refine aw_aload_n dX10_type_21 rfl ?_
  refine aw_iload_n dX10_type_22 rfl ?_
  refine aw_V0c (As := [_]) dX10_type_23 k10_104 rfl rfl rfl ⟨Nat.le_of_ble_eq_true rfl, Nat.le_of_ble_eq_true rfl⟩ (Nat.le_of_ble_eq_true rfl) ⟨⟨Nat.le_of_ble_eq_true rfl, Nat.le_of_ble_eq_true rfl⟩, ⟨Nat.le_of_ble_eq_true rfl, Nat.le_of_ble_eq_true rfl⟩⟩ ⟨rfl, rfl⟩ (w_textOf1 G) (fun v h2 hq => ?_)
  obtain ⟨rfl, rfl⟩ := hq
  refine aw_astore_n (ls2 := [_, _, _, _]) dX10_type_26 (by decide) rfl rfl ?_
  refine aw_aload_n dX10_type_27 rfl ?_
  refine aw_V0c (As := []) dX10_type_28 k10_108 rfl rfl rfl ⟨Nat.le_of_ble_eq_true rfl, Nat.le_of_ble_eq_true rfl⟩ (Nat.le_of_ble_eq_true rfl) ⟨⟨Nat.le_of_ble_eq_true rfl, Nat.le_of_ble_eq_true rfl⟩, ⟨Nat.le_of_ble_eq_true rfl, Nat.le_of_ble_eq_true rfl⟩⟩ ⟨rfl, rfl⟩ (w_isFullC G hC.1) (fun v h2 hq => ?_)
  obtain ⟨rfl, rfl⟩ := hq
  refine aw_if_eq_B (tgt := 37) dX10_type_31 (by decide) (fun z => absurd z (fun q => q hl)) (fun c31 => ?_)
  refine aw_bipush (v := -4) dX10_type_34 (by decide) ?_
  refine aw_reti dX10_type_36 rfl rfl ⟨Nat.le_of_ble_eq_true rfl, Nat.le_of_ble_eq_true rfl⟩ ?_
  exact ⟨rfl, _, _, _, rfl, hI, fun _ _ => rfl⟩
theorem c_wipe1 (G : aw_G) {n c : Nat} {I : Nat → Nat → Int32} {L : Nat → Nat → Int64} {b0 b1 : Nat → Nat} {l0 l1 : Nat} {t u x y V g : Nat → Nat → Nat} {kk : Nat} {F S : Nat → Nat} {E : Nat → Nat → Int32} {fd : Int32} (hX : zTx b0 b1 l0 l1 t u x y V kk) (hI : zCI b0 b1 l0 l1 t u x y g F S E fd I)  : aw_Met G mX10_wipe [.ref 3, .int 1] (zH n I L c) (fun v h2 => v = some (.int (nI l1)) ∧ ∃ I2 L2 c2, h2 = zH n I2 L2 c2 ∧ (∃ t3, zTx b0 b1 l0 0 t3 u x y V kk ∧ zCI b0 b1 l0 0 t3 u x y g F S E fd I2 ∧ ∀ k, k < 8 → t3 5 k = t 5 k) ∧ ∀ o, 81 ≤ o → I2 o = I o) := by
  obtain ⟨hW, hC, hF, ⟨s0, hO, hR⟩, ⟨t2, s2, hD⟩, hG, hS, hfd⟩ := id hI
  obtain ⟨hP, h60, h61, htc, hV, hkk, hx, hy⟩ := id hX
  have h8 := hP.1.1
  have hk10 : kk ≤ 10 := by rw [hkk]; exact q_k_leW hW.1.2.2.2.2
  have hi6 : I 6 5 = nI (t 6 0) := by rw [h60]; exact hC.2.2
  have hi4 : I 4 5 = nI kk := by rw [hkk]; exact hW.2.2
  have hVo : f_Vok V kk := by rw [hV, hkk]; exact v_w_ok
  have hsm := zSame hP hO.1
  have hbd := zBd (m := z0) (u := u) hP.1 hP.2.2.2.1 hP.2.2.2.2.1 hP.2.2.2.2.2 hO.1
  have hS0 : p_play s0 t u x 0 0 = t 6 0 := hbd.1.1
  refine aw_Met.of okX10_wipe (Nat.le_of_ble_eq_true rfl) ?_
  show aw_W G mX10_wipe 0 [.ref 3, .int 1, aw_x, aw_x] [] (zH n I L c) (0, 0) _
  refine aw_iload_n dX10_wipe_0 rfl ?_
  refine aw_iconst (v := 2) dX10_wipe_1 rfl ?_
  refine aw_S0c (As := [_, _]) dX10_wipe_2 k10_100 rfl rfl (Nat.le_of_ble_eq_true rfl) ⟨⟨Nat.le_of_ble_eq_true rfl, Nat.le_of_ble_eq_true rfl⟩, ⟨Nat.le_of_ble_eq_true rfl, Nat.le_of_ble_eq_true rfl⟩⟩ ⟨rfl, rfl⟩ (w_within G 1 (b := 2) (by omega)) (fun v h2 hq => ?_)
  obtain ⟨rfl, rfl⟩ := hq
  refine aw_if_ne_B (tgt := 11) dX10_wipe_5 (by decide) (fun c5 => ?_) (fun z => absurd z (fun q => q (by decide)))
  refine aw_aload_n dX10_wipe_11 rfl ?_
  refine aw_iload_n dX10_wipe_12 rfl ?_
  refine aw_V0c (As := [_]) dX10_wipe_13 k10_104 rfl rfl rfl ⟨Nat.le_of_ble_eq_true rfl, Nat.le_of_ble_eq_true rfl⟩ (Nat.le_of_ble_eq_true rfl) ⟨⟨Nat.le_of_ble_eq_true rfl, Nat.le_of_ble_eq_true rfl⟩, ⟨Nat.le_of_ble_eq_true rfl, Nat.le_of_ble_eq_true rfl⟩⟩ ⟨rfl, rfl⟩ (w_textOf1 G) (fun v h2 hq => ?_)
  obtain ⟨rfl, rfl⟩ := hq
  refine aw_astore_n (ls2 := [_, _, _, _]) dX10_wipe_16 (by decide) rfl rfl ?_
  refine aw_aload_n dX10_wipe_17 rfl ?_
  refine aw_getI dX10_wipe_18 f10_119 rfl ⟨Nat.le_of_ble_eq_true rfl, Nat.le_of_ble_eq_true rfl⟩ rfl ?_
  refine aw_top hC.1.2.2.1 ?_
  refine aw_istore_n (ls2 := [_, _, _, _]) dX10_wipe_21 (by decide) rfl rfl ?_
  refine aw_aload_n dX10_wipe_22 rfl ?_
  refine aw_iconst (v := 0) dX10_wipe_23 rfl ?_
  refine aw_V0c (As := [_]) dX10_wipe_24 k10_122 rfl rfl rfl ⟨Nat.le_of_ble_eq_true rfl, Nat.le_of_ble_eq_true rfl⟩ (Nat.le_of_ble_eq_true rfl) ⟨⟨Nat.le_of_ble_eq_true rfl, Nat.le_of_ble_eq_true rfl⟩, ⟨Nat.le_of_ble_eq_true rfl, Nat.le_of_ble_eq_true rfl⟩⟩ ⟨rfl, rfl⟩ (w_cutToC G hC.1 (l2 := 0) (by omega)) (fun v h2 hq => ?_)
  obtain ⟨rfl, I1, rfl, hT1, hF0⟩ := hq
  have hF1 : ∀ o, o ≠ 6 → o ≠ 7 → I1 o = I o := fun o a _ => hF0 o a
  have hK1 := hI.k.C hT1 hF1
  have hx1 : zCh x 12 I1 := fun j hj => by rw [hF1 13 (by decide) (by decide), hF1 14 (by decide) (by decide), hF1 15 (by decide) (by decide)]; exact hF.2.2.2.2.2.1 j hj
  refine aw_aload_n dX10_wipe_27 rfl ?_
  refine aw_iload_n dX10_wipe_28 rfl ?_
  refine aw_V0c (As := [_]) dX10_wipe_29 k10_116 rfl rfl rfl ⟨Nat.le_of_ble_eq_true rfl, Nat.le_of_ble_eq_true rfl⟩ (Nat.le_of_ble_eq_true rfl) ⟨⟨Nat.le_of_ble_eq_true rfl, Nat.le_of_ble_eq_true rfl⟩, ⟨Nat.le_of_ble_eq_true rfl, Nat.le_of_ble_eq_true rfl⟩⟩ ⟨rfl, rfl⟩ (w_tc1 G hK1 hx1 hF.2.2.2.2.2.2) (fun v h2 hq => ?_)
  obtain ⟨rfl, I2, rfl, ⟨t3, hI2, e60, e61, e5, ec⟩, hF2⟩ := hq
  refine aw_iload_n dX10_wipe_32 rfl ?_
  refine aw_reti dX10_wipe_33 rfl rfl ⟨Nat.le_of_ble_eq_true rfl, Nat.le_of_ble_eq_true rfl⟩ ?_
  exact ⟨rfl, _, _, _, rfl, ⟨t3, ⟨⟨hI2.2.2.1.2.1, hI2.2.2.1.2.2.1, hP.2.2⟩, e60, by rw [e61]; exact h61, ec, hV, hkk, hx, hy⟩, hI2, fun k _ => e5 k⟩, fun o ho => by rw [hF2 o ho]; exact hF1 o (by omega) (by omega)⟩
theorem c_undo1N (G : aw_G) {n c : Nat} {I : Nat → Nat → Int32} {L : Nat → Nat → Int64} {b0 b1 : Nat → Nat} {l0 l1 : Nat} {t u x y V g : Nat → Nat → Nat} {kk : Nat} {F S : Nat → Nat} {E : Nat → Nat → Int32} {fd : Int32} (hX : zTx b0 b1 l0 l1 t u x y V kk) (hI : zCI b0 b1 l0 l1 t u x y g F S E fd I) (hl : l1 = 0) : aw_Met G mX10_undo [.ref 3, .int 1] (zH n I L c) (fun v h2 => v = some (.int (-3)) ∧ ∃ I2 L2 c2, h2 = zH n I2 L2 c2 ∧ zCI b0 b1 l0 l1 t u x y g F S E fd I2 ∧ ∀ o, 81 ≤ o → I2 o = I o) := by
  obtain ⟨hW, hC, hF, ⟨s0, hO, hR⟩, ⟨t2, s2, hD⟩, hG, hS, hfd⟩ := id hI
  obtain ⟨hP, h60, h61, htc, hV, hkk, hx, hy⟩ := id hX
  have h8 := hP.1.1
  have hk10 : kk ≤ 10 := by rw [hkk]; exact q_k_leW hW.1.2.2.2.2
  have hi6 : I 6 5 = nI (t 6 0) := by rw [h60]; exact hC.2.2
  have hi4 : I 4 5 = nI kk := by rw [hkk]; exact hW.2.2
  have hVo : f_Vok V kk := by rw [hV, hkk]; exact v_w_ok
  have hsm := zSame hP hO.1
  have hbd := zBd (m := z0) (u := u) hP.1 hP.2.2.2.1 hP.2.2.2.2.1 hP.2.2.2.2.2 hO.1
  have hS0 : p_play s0 t u x 0 0 = t 6 0 := hbd.1.1
  have hll := hC.1.2.2.2.2
  refine aw_Met.of okX10_undo (Nat.le_of_ble_eq_true rfl) ?_
  show aw_W G mX10_undo 0 [.ref 3, .int 1, aw_x] [] (zH n I L c) (0, 0) _
  refine aw_iload_n dX10_undo_0 rfl ?_
  refine aw_iconst (v := 2) dX10_undo_1 rfl ?_
  refine aw_S0c (As := [_, _]) dX10_undo_2 k10_100 rfl rfl (Nat.le_of_ble_eq_true rfl) ⟨⟨Nat.le_of_ble_eq_true rfl, Nat.le_of_ble_eq_true rfl⟩, ⟨Nat.le_of_ble_eq_true rfl, Nat.le_of_ble_eq_true rfl⟩⟩ ⟨rfl, rfl⟩ (w_within G 1 (b := 2) (by omega)) (fun v h2 hq => ?_)
  obtain ⟨rfl, rfl⟩ := hq
  refine aw_if_ne_B (tgt := 11) dX10_undo_5 (by decide) (fun c5 => ?_) (fun z => absurd z (fun q => q (by decide)))
  refine aw_aload_n dX10_undo_11 rfl ?_
  refine aw_iload_n dX10_undo_12 rfl ?_
  refine aw_V0c (As := [_]) dX10_undo_13 k10_104 rfl rfl rfl ⟨Nat.le_of_ble_eq_true rfl, Nat.le_of_ble_eq_true rfl⟩ (Nat.le_of_ble_eq_true rfl) ⟨⟨Nat.le_of_ble_eq_true rfl, Nat.le_of_ble_eq_true rfl⟩, ⟨Nat.le_of_ble_eq_true rfl, Nat.le_of_ble_eq_true rfl⟩⟩ ⟨rfl, rfl⟩ (w_textOf1 G) (fun v h2 hq => ?_)
  obtain ⟨rfl, rfl⟩ := hq
  refine aw_astore_n (ls2 := [_, _, _]) dX10_undo_16 (by decide) rfl rfl ?_
  refine aw_aload_n dX10_undo_17 rfl ?_
  refine aw_getI dX10_undo_18 f10_119 rfl ⟨Nat.le_of_ble_eq_true rfl, Nat.le_of_ble_eq_true rfl⟩ rfl ?_
  refine aw_top hC.1.2.2.1 ?_
  refine aw_if_ne_n (a := l1) (tgt := 27) dX10_undo_21 (by decide) (by omega) (fun z => absurd z (fun q => q hl)) (fun c21 => ?_)
  refine aw_bipush (v := -3) dX10_undo_24 (by decide) ?_
  refine aw_reti dX10_undo_26 rfl rfl ⟨Nat.le_of_ble_eq_true rfl, Nat.le_of_ble_eq_true rfl⟩ ?_
  exact ⟨rfl, _, _, _, rfl, hI, fun _ _ => rfl⟩
theorem c_undo1 (G : aw_G) {n c : Nat} {I : Nat → Nat → Int32} {L : Nat → Nat → Int64} {b0 b1 : Nat → Nat} {l0 l1 : Nat} {t u x y V g : Nat → Nat → Nat} {kk : Nat} {F S : Nat → Nat} {E : Nat → Nat → Int32} {fd : Int32} (hX : zTx b0 b1 l0 l1 t u x y V kk) (hI : zCI b0 b1 l0 l1 t u x y g F S E fd I) (hl : ¬ l1 = 0) : aw_Met G mX10_undo [.ref 3, .int 1] (zH n I L c) (fun v h2 => v = some (.int (nI (l1 - 1))) ∧ ∃ I2 L2 c2, h2 = zH n I2 L2 c2 ∧ (∃ t3, zTx b0 b1 l0 (l1 - 1) t3 u x y V kk ∧ zCI b0 b1 l0 (l1 - 1) t3 u x y g F S E fd I2 ∧ ∀ k, k < 8 → t3 5 k = t 5 k) ∧ ∀ o, 81 ≤ o → I2 o = I o) := by
  obtain ⟨hW, hC, hF, ⟨s0, hO, hR⟩, ⟨t2, s2, hD⟩, hG, hS, hfd⟩ := id hI
  obtain ⟨hP, h60, h61, htc, hV, hkk, hx, hy⟩ := id hX
  have h8 := hP.1.1
  have hk10 : kk ≤ 10 := by rw [hkk]; exact q_k_leW hW.1.2.2.2.2
  have hi6 : I 6 5 = nI (t 6 0) := by rw [h60]; exact hC.2.2
  have hi4 : I 4 5 = nI kk := by rw [hkk]; exact hW.2.2
  have hVo : f_Vok V kk := by rw [hV, hkk]; exact v_w_ok
  have hsm := zSame hP hO.1
  have hbd := zBd (m := z0) (u := u) hP.1 hP.2.2.2.1 hP.2.2.2.2.1 hP.2.2.2.2.2 hO.1
  have hS0 : p_play s0 t u x 0 0 = t 6 0 := hbd.1.1
  have hll := hC.1.2.2.2.2
  refine aw_Met.of okX10_undo (Nat.le_of_ble_eq_true rfl) ?_
  show aw_W G mX10_undo 0 [.ref 3, .int 1, aw_x] [] (zH n I L c) (0, 0) _
  refine aw_iload_n dX10_undo_0 rfl ?_
  refine aw_iconst (v := 2) dX10_undo_1 rfl ?_
  refine aw_S0c (As := [_, _]) dX10_undo_2 k10_100 rfl rfl (Nat.le_of_ble_eq_true rfl) ⟨⟨Nat.le_of_ble_eq_true rfl, Nat.le_of_ble_eq_true rfl⟩, ⟨Nat.le_of_ble_eq_true rfl, Nat.le_of_ble_eq_true rfl⟩⟩ ⟨rfl, rfl⟩ (w_within G 1 (b := 2) (by omega)) (fun v h2 hq => ?_)
  obtain ⟨rfl, rfl⟩ := hq
  refine aw_if_ne_B (tgt := 11) dX10_undo_5 (by decide) (fun c5 => ?_) (fun z => absurd z (fun q => q (by decide)))
  refine aw_aload_n dX10_undo_11 rfl ?_
  refine aw_iload_n dX10_undo_12 rfl ?_
  refine aw_V0c (As := [_]) dX10_undo_13 k10_104 rfl rfl rfl ⟨Nat.le_of_ble_eq_true rfl, Nat.le_of_ble_eq_true rfl⟩ (Nat.le_of_ble_eq_true rfl) ⟨⟨Nat.le_of_ble_eq_true rfl, Nat.le_of_ble_eq_true rfl⟩, ⟨Nat.le_of_ble_eq_true rfl, Nat.le_of_ble_eq_true rfl⟩⟩ ⟨rfl, rfl⟩ (w_textOf1 G) (fun v h2 hq => ?_)
  obtain ⟨rfl, rfl⟩ := hq
  refine aw_astore_n (ls2 := [_, _, _]) dX10_undo_16 (by decide) rfl rfl ?_
  refine aw_aload_n dX10_undo_17 rfl ?_
  refine aw_getI dX10_undo_18 f10_119 rfl ⟨Nat.le_of_ble_eq_true rfl, Nat.le_of_ble_eq_true rfl⟩ rfl ?_
  refine aw_top hC.1.2.2.1 ?_
  refine aw_if_ne_n (a := l1) (tgt := 27) dX10_undo_21 (by decide) (by omega) (fun c21 => ?_) (fun z => absurd z hl)
  refine aw_aload_n dX10_undo_27 rfl ?_
  refine aw_aload_n dX10_undo_28 rfl ?_
  refine aw_getI dX10_undo_29 f10_119 rfl ⟨Nat.le_of_ble_eq_true rfl, Nat.le_of_ble_eq_true rfl⟩ rfl ?_
  refine aw_top hC.1.2.2.1 ?_
  refine aw_iconst (v := 1) dX10_undo_32 rfl ?_
  refine aw_isub_n (a := l1) (b := 1) dX10_undo_33 (by omega) ?_
  refine aw_V0c (As := [_]) dX10_undo_34 k10_122 rfl rfl rfl ⟨Nat.le_of_ble_eq_true rfl, Nat.le_of_ble_eq_true rfl⟩ (Nat.le_of_ble_eq_true rfl) ⟨⟨Nat.le_of_ble_eq_true rfl, Nat.le_of_ble_eq_true rfl⟩, ⟨Nat.le_of_ble_eq_true rfl, Nat.le_of_ble_eq_true rfl⟩⟩ ⟨rfl, rfl⟩ (w_cutToC G hC.1 (l2 := l1 - 1) (by omega)) (fun v h2 hq => ?_)
  obtain ⟨rfl, I1, rfl, hT1, hF0⟩ := hq
  have hF1 : ∀ o, o ≠ 6 → o ≠ 7 → I1 o = I o := fun o a _ => hF0 o a
  have hK1 := hI.k.C hT1 hF1
  have hx1 : zCh x 12 I1 := fun j hj => by rw [hF1 13 (by decide) (by decide), hF1 14 (by decide) (by decide), hF1 15 (by decide) (by decide)]; exact hF.2.2.2.2.2.1 j hj
  refine aw_aload_n dX10_undo_37 rfl ?_
  refine aw_iload_n dX10_undo_38 rfl ?_
  refine aw_V0c (As := [_]) dX10_undo_39 k10_116 rfl rfl rfl ⟨Nat.le_of_ble_eq_true rfl, Nat.le_of_ble_eq_true rfl⟩ (Nat.le_of_ble_eq_true rfl) ⟨⟨Nat.le_of_ble_eq_true rfl, Nat.le_of_ble_eq_true rfl⟩, ⟨Nat.le_of_ble_eq_true rfl, Nat.le_of_ble_eq_true rfl⟩⟩ ⟨rfl, rfl⟩ (w_tc1 G hK1 hx1 hF.2.2.2.2.2.2) (fun v h2 hq => ?_)
  obtain ⟨rfl, I2, rfl, ⟨t3, hI2, e60, e61, e5, ec⟩, hF2⟩ := hq
  refine aw_aload_n dX10_undo_42 rfl ?_
  refine aw_getI dX10_undo_43 f10_119 rfl ⟨Nat.le_of_ble_eq_true rfl, Nat.le_of_ble_eq_true rfl⟩ rfl ?_
  refine aw_top hI2.2.1.1.2.2.1 ?_
  refine aw_reti dX10_undo_46 rfl rfl ⟨Nat.le_of_ble_eq_true rfl, Nat.le_of_ble_eq_true rfl⟩ ?_
  exact ⟨rfl, _, _, _, rfl, ⟨t3, ⟨⟨hI2.2.2.1.2.1, hI2.2.2.1.2.2.1, hP.2.2⟩, e60, by rw [e61]; exact h61, ec, hV, hkk, hx, hy⟩, hI2, fun k _ => e5 k⟩, fun o ho => by rw [hF2 o ho]; exact hF1 o (by omega) (by omega)⟩
theorem c_lateB (G : aw_G) {n c : Nat} {I : Nat → Nat → Int32} {L : Nat → Nat → Int64} {b0 b1 : Nat → Nat} {l0 l1 : Nat} {t u x y V g : Nat → Nat → Nat} {kk : Nat} {F S : Nat → Nat} {E : Nat → Nat → Int32} {fd : Int32} (hX : zTx b0 b1 l0 l1 t u x y V kk) (hI : zCI b0 b1 l0 l1 t u x y g F S E fd I) {a1 : Int32} {a2 : Int32} (hz : ¬ (zok a1 8 ∧ zok a2 10)) : aw_Met G mX10_late [.ref 3, .int a1, .int a2] (zH n I L c) (fun v h2 => v = some (.int (-2)) ∧ ∃ I2 L2 c2, h2 = zH n I2 L2 c2 ∧ zCI b0 b1 l0 l1 t u x y g F S E fd I2 ∧ ∀ o, 81 ≤ o → I2 o = I o) := by
  obtain ⟨hW, hC, hF, ⟨s0, hO, hR⟩, ⟨t2, s2, hD⟩, hG, hS, hfd⟩ := id hI
  obtain ⟨hP, h60, h61, htc, hV, hkk, hx, hy⟩ := id hX
  have h8 := hP.1.1
  have hk10 : kk ≤ 10 := by rw [hkk]; exact q_k_leW hW.1.2.2.2.2
  have hi6 : I 6 5 = nI (t 6 0) := by rw [h60]; exact hC.2.2
  have hi4 : I 4 5 = nI kk := by rw [hkk]; exact hW.2.2
  have hVo : f_Vok V kk := by rw [hV, hkk]; exact v_w_ok
  have hsm := zSame hP hO.1
  have hbd := zBd (m := z0) (u := u) hP.1 hP.2.2.2.1 hP.2.2.2.2.1 hP.2.2.2.2.2 hO.1
  have hS0 : p_play s0 t u x 0 0 = t 6 0 := hbd.1.1
  refine aw_Met.of okX10_late (Nat.le_of_ble_eq_true rfl) ?_
  show aw_W G mX10_late 0 [.ref 3, .int a1, .int a2, aw_x] [] (zH n I L c) (0, 0) _
  refine aw_iload_n dX10_late_0 rfl ?_
  refine aw_bipush (v := 8) dX10_late_1 (by decide) ?_
  refine aw_S0c (As := [_, _]) dX10_late_3 k10_100 rfl rfl (Nat.le_of_ble_eq_true rfl) ⟨⟨Nat.le_of_ble_eq_true rfl, Nat.le_of_ble_eq_true rfl⟩, ⟨Nat.le_of_ble_eq_true rfl, Nat.le_of_ble_eq_true rfl⟩⟩ ⟨rfl, rfl⟩ (w_within G a1 (b := 8) (by omega)) (fun v h2 hq => ?_)
  obtain ⟨rfl, rfl⟩ := hq
  refine aw_if_eq_B (tgt := 18) dX10_late_6 (by decide) (fun c6 => ?_) (fun c6 => ?_)
  · refine aw_bipush (v := -2) dX10_late_18 (by decide) ?_
    refine aw_reti dX10_late_20 rfl rfl ⟨Nat.le_of_ble_eq_true rfl, Nat.le_of_ble_eq_true rfl⟩ ?_
    exact ⟨rfl, _, _, _, rfl, hI, fun _ _ => rfl⟩
  · refine aw_iload_n dX10_late_9 rfl ?_
    refine aw_bipush (v := 10) dX10_late_10 (by decide) ?_
    refine aw_S0c (As := [_, _]) dX10_late_12 k10_100 rfl rfl (Nat.le_of_ble_eq_true rfl) ⟨⟨Nat.le_of_ble_eq_true rfl, Nat.le_of_ble_eq_true rfl⟩, ⟨Nat.le_of_ble_eq_true rfl, Nat.le_of_ble_eq_true rfl⟩⟩ ⟨rfl, rfl⟩ (w_within G a2 (b := 10) (by omega)) (fun v h2 hq => ?_)
    obtain ⟨rfl, rfl⟩ := hq
    refine aw_if_ne_B (tgt := 21) dX10_late_15 (by decide) (fun z => absurd z (fun q => hz ⟨c6, q⟩)) (fun c15 => ?_)
    refine aw_bipush (v := -2) dX10_late_18 (by decide) ?_
    refine aw_reti dX10_late_20 rfl rfl ⟨Nat.le_of_ble_eq_true rfl, Nat.le_of_ble_eq_true rfl⟩ ?_
    exact ⟨rfl, _, _, _, rfl, hI, fun _ _ => rfl⟩
theorem c_late (G : aw_G) {n c : Nat} {I : Nat → Nat → Int32} {L : Nat → Nat → Int64} {b0 b1 : Nat → Nat} {l0 l1 : Nat} {t u x y V g : Nat → Nat → Nat} {kk : Nat} {F S : Nat → Nat} {E : Nat → Nat → Int32} {fd : Int32} (hX : zTx b0 b1 l0 l1 t u x y V kk) (hI : zCI b0 b1 l0 l1 t u x y g F S E fd I) {p1 p2 : Nat} (hp1 : p1 < 8) (hp2 : p2 < 10) : aw_Met G mX10_late [.ref 3, .int (nI p1), .int (nI p2)] (zH n I L c) (fun v h2 => v = some (.int (nI (t 5 p1))) ∧ ∃ I2 L2 c2, h2 = zH n I2 L2 c2 ∧ zTx b0 b1 l0 l1 (aw_u t 5 p1 p2) u x y V kk ∧ zCI b0 b1 l0 l1 (aw_u t 5 p1 p2) u x y g F S E fd I2 ∧ ∀ o, 81 ≤ o → I2 o = I o) := by
  obtain ⟨hW, hC, hF, ⟨s0, hO, hR⟩, ⟨t2, s2, hD⟩, hG, hS, hfd⟩ := id hI
  obtain ⟨hP, h60, h61, htc, hV, hkk, hx, hy⟩ := id hX
  have h8 := hP.1.1
  have hk10 : kk ≤ 10 := by rw [hkk]; exact q_k_leW hW.1.2.2.2.2
  have hi6 : I 6 5 = nI (t 6 0) := by rw [h60]; exact hC.2.2
  have hi4 : I 4 5 = nI kk := by rw [hkk]; exact hW.2.2
  have hVo : f_Vok V kk := by rw [hV, hkk]; exact v_w_ok
  have hsm := zSame hP hO.1
  have hbd := zBd (m := z0) (u := u) hP.1 hP.2.2.2.1 hP.2.2.2.2.1 hP.2.2.2.2.2 hO.1
  have hS0 : p_play s0 t u x 0 0 = t 6 0 := hbd.1.1
  refine aw_Met.of okX10_late (Nat.le_of_ble_eq_true rfl) ?_
  show aw_W G mX10_late 0 [.ref 3, .int (nI p1), .int (nI p2), aw_x] [] (zH n I L c) (0, 0) _
  refine aw_iload_n dX10_late_0 rfl ?_
  refine aw_bipush (v := 8) dX10_late_1 (by decide) ?_
  refine aw_S0c (As := [_, _]) dX10_late_3 k10_100 rfl rfl (Nat.le_of_ble_eq_true rfl) ⟨⟨Nat.le_of_ble_eq_true rfl, Nat.le_of_ble_eq_true rfl⟩, ⟨Nat.le_of_ble_eq_true rfl, Nat.le_of_ble_eq_true rfl⟩⟩ ⟨rfl, rfl⟩ (w_within G ((nI p1)) (b := 8) (by omega)) (fun v h2 hq => ?_)
  obtain ⟨rfl, rfl⟩ := hq
  refine aw_if_eq_B (tgt := 18) dX10_late_6 (by decide) (fun z => absurd z (fun q => q ((zok_nI (by omega)).mpr hp1))) (fun c6 => ?_)
  refine aw_iload_n dX10_late_9 rfl ?_
  refine aw_bipush (v := 10) dX10_late_10 (by decide) ?_
  refine aw_S0c (As := [_, _]) dX10_late_12 k10_100 rfl rfl (Nat.le_of_ble_eq_true rfl) ⟨⟨Nat.le_of_ble_eq_true rfl, Nat.le_of_ble_eq_true rfl⟩, ⟨Nat.le_of_ble_eq_true rfl, Nat.le_of_ble_eq_true rfl⟩⟩ ⟨rfl, rfl⟩ (w_within G ((nI p2)) (b := 10) (by omega)) (fun v h2 hq => ?_)
  obtain ⟨rfl, rfl⟩ := hq
  refine aw_if_ne_B (tgt := 21) dX10_late_15 (by decide) (fun c15 => ?_) (fun z => absurd z (fun q => q ((zok_nI (by omega)).mpr hp2)))
  refine aw_aload_n dX10_late_21 rfl ?_
  refine aw_getR dX10_late_22 f10_43 rfl ⟨Nat.le_of_ble_eq_true rfl, Nat.le_of_ble_eq_true rfl⟩ rfl rfl ?_
  refine aw_getR dX10_late_25 f10_142 rfl ⟨Nat.le_of_ble_eq_true rfl, Nat.le_of_ble_eq_true rfl⟩ rfl rfl ?_
  refine aw_iload_n dX10_late_28 rfl ?_
  refine aw_iald_n (j := p1) dX10_late_29 rfl (Nat.le_of_ble_eq_true rfl) (by decide) (by omega) ?_
  refine aw_top (show _ = nI (t 5 p1) from hF.1.1 5 p1 (by decide) hp1) ?_
  refine aw_istore_n (ls2 := [_, _, _, _]) dX10_late_30 (by decide) rfl rfl ?_
  refine aw_aload_n dX10_late_31 rfl ?_
  refine aw_getR dX10_late_32 f10_43 rfl ⟨Nat.le_of_ble_eq_true rfl, Nat.le_of_ble_eq_true rfl⟩ rfl rfl ?_
  refine aw_getR dX10_late_35 f10_142 rfl ⟨Nat.le_of_ble_eq_true rfl, Nat.le_of_ble_eq_true rfl⟩ rfl rfl ?_
  refine aw_iload_n dX10_late_38 rfl ?_
  refine aw_iload_n dX10_late_39 rfl ?_
  refine aw_iast_n (j := p1) dX10_late_40 rfl ⟨Nat.le_of_ble_eq_true rfl, Nat.le_of_ble_eq_true rfl⟩ (by decide) (by omega) ?_
  have hP1 : zPu (aw_u t 5 p1 p2) u x y := hP.st (i := 5) (by decide) (show p2 < 40 by omega)
  have hS1 : zSx (aw_u t 5 p1 p2) 11 16 I (aw_u I 21 p1 (nI p2)) := (zSx.of hF.1).u (i := 5) (by decide) (by decide)
  have hK1 := hI.k.tk hS1 hP1.1 hP1.2.1
  have hx1 : zCh x 12 (aw_u I 21 p1 (nI p2)) := fun j hj => by rw [aw_u_ne (by decide), aw_u_ne (by decide), aw_u_ne (by decide)]; exact hF.2.2.2.2.2.1 j hj
  refine aw_aload_n dX10_late_41 rfl ?_
  refine aw_getR dX10_late_42 f10_58 rfl ⟨Nat.le_of_ble_eq_true rfl, Nat.le_of_ble_eq_true rfl⟩ rfl rfl ?_
  refine aw_aload_n dX10_late_45 rfl ?_
  refine aw_getR dX10_late_46 f10_43 rfl ⟨Nat.le_of_ble_eq_true rfl, Nat.le_of_ble_eq_true rfl⟩ rfl rfl ?_
  refine aw_V0c (As := [_]) dX10_late_49 k10_62 rfl rfl rfl ⟨Nat.le_of_ble_eq_true rfl, Nat.le_of_ble_eq_true rfl⟩ (Nat.le_of_ble_eq_true rfl) ⟨⟨Nat.le_of_ble_eq_true rfl, Nat.le_of_ble_eq_true rfl⟩, ⟨Nat.le_of_ble_eq_true rfl, Nat.le_of_ble_eq_true rfl⟩⟩ ⟨rfl, rfl⟩ (w_plI G hK1 hx1 hF.2.2.2.2.2.2) (fun v h2 hq => ?_)
  obtain ⟨rfl, I2, rfl, hI2, hF2⟩ := hq
  refine aw_iload_n dX10_late_52 rfl ?_
  refine aw_reti dX10_late_53 rfl rfl ⟨Nat.le_of_ble_eq_true rfl, Nat.le_of_ble_eq_true rfl⟩ ?_
  exact ⟨rfl, _, _, _, rfl, ⟨hP1, by rw [aw_u_ne (by decide)]; exact h60, by rw [aw_u_ne (by decide)]; exact h61, fun j k hj hk => by rw [aw_u_ne (by decide)] at hk; rw [aw_u_ne (by omega)]; exact htc j k hj hk, hV, hkk, hx, hy⟩, hI2, fun o ho => by rw [hF2 o (by omega)]; exact hS1.2 o (by omega) (by omega)⟩
def u_push (u : Nat → Nat → Nat) (h p : Nat) : Nat → Nat → Nat := aw_u (aw_u (aw_u u 0 (u 2 0) h) 1 (u 2 0) p) 2 0 (u 2 0 + 1)
theorem u_push_ok {u : Nat → Nat → Nat} {h p : Nat} (hU : zUok u) (hn : u 2 0 < 8) (hh : h < 40) (hp : p < 8) : zUok (u_push u h p) := by
  unfold u_push
  refine ⟨by rw [aw_u_eq]; omega, fun a ha => ?_⟩
  rw [aw_u_ne (show 0 ≠ 2 by decide), aw_u_ne (show 1 ≠ 2 by decide), aw_u_ne (show 0 ≠ 1 by decide)]
  have := hU.2 a ha
  by_cases he : a = u 2 0
  · subst he; rw [aw_u_eq, aw_u_eq]; omega
  · rw [aw_u_nj he, aw_u_nj he, aw_u_ne (show 1 ≠ 0 by decide)]; exact this
theorem u_push_an {u : Nat → Nat → Nat} {h p : Nat} {I : Nat → Nat → Int32} (hA : zAn u I) : zAn (u_push u h p) (aw_u (aw_u (aw_u I 9 (u 2 0) (nI h)) 10 (u 2 0) (nI p)) 8 2 (nI (u 2 0 + 1))) := by
  unfold u_push
  refine ⟨by rw [aw_u_eq, aw_u_eq], fun a ha => ?_⟩
  rw [aw_u_ne (show 0 ≠ 2 by decide), aw_u_ne (show 1 ≠ 2 by decide), aw_u_ne (show 0 ≠ 1 by decide), aw_u_ne (show 9 ≠ 8 by decide), aw_u_ne (show 10 ≠ 8 by decide), aw_u_ne (show 9 ≠ 10 by decide)]
  have := hA.2 a ha
  by_cases he : a = u 2 0
  · subst he; rw [aw_u_eq, aw_u_eq, aw_u_eq, aw_u_eq]; exact ⟨rfl, rfl⟩
  · rw [aw_u_nj he, aw_u_nj he, aw_u_nj he, aw_u_nj he, aw_u_ne (show 1 ≠ 0 by decide), aw_u_ne (show 10 ≠ 9 by decide)]; exact this
theorem w_aPush (G : aw_G) {n c : Nat} {I : Nat → Nat → Int32} {L : Nat → Nat → Int64} {u : Nat → Nat → Nat} {h p : Nat} (hA : zAn u I) (hn : u 2 0 < 8) : aw_Met G mX0_push [.ref 8, .int (nI h), .int (nI p)] (zH n I L c) (fun v h2 => v = none ∧ ∃ I2, h2 = zH n I2 L c ∧ zAn (u_push u h p) I2 ∧ ∀ o, o ≠ 8 → o ≠ 9 → o ≠ 10 → I2 o = I o) := by
  refine aw_Met.of okX0_push (Nat.le_of_ble_eq_true rfl) ?_
  show aw_W G mX0_push 0 [.ref 8, .int (nI h), .int (nI p)] [] (zH n I L c) (0, 0) _
  refine aw_aload_n dX0_push_0 rfl ?_
  refine aw_getR dX0_push_1 f0_9 rfl ⟨Nat.le_of_ble_eq_true rfl, Nat.le_of_ble_eq_true rfl⟩ rfl rfl ?_
  refine aw_aload_n dX0_push_4 rfl ?_
  refine aw_getI dX0_push_5 f0_18 rfl ⟨Nat.le_of_ble_eq_true rfl, Nat.le_of_ble_eq_true rfl⟩ rfl ?_
  refine aw_top hA.1 ?_
  refine aw_iload_n dX0_push_8 rfl ?_
  refine aw_iast_n (j := u 2 0) dX0_push_9 rfl ⟨Nat.le_of_ble_eq_true rfl, Nat.le_of_ble_eq_true rfl⟩ (by decide) (by omega) ?_
  refine aw_aload_n dX0_push_10 rfl ?_
  refine aw_getR dX0_push_11 f0_15 rfl ⟨Nat.le_of_ble_eq_true rfl, Nat.le_of_ble_eq_true rfl⟩ rfl rfl ?_
  refine aw_aload_n dX0_push_14 rfl ?_
  refine aw_getI dX0_push_15 f0_18 rfl ⟨Nat.le_of_ble_eq_true rfl, Nat.le_of_ble_eq_true rfl⟩ rfl ?_
  refine aw_top ((congrFun (aw_u_ne (show 8 ≠ 9 by decide)) 2).trans hA.1) ?_
  refine aw_iload_n dX0_push_18 rfl ?_
  refine aw_iast_n (j := u 2 0) dX0_push_19 rfl ⟨Nat.le_of_ble_eq_true rfl, Nat.le_of_ble_eq_true rfl⟩ (by decide) (by omega) ?_
  refine aw_aload_n dX0_push_20 rfl ?_
  refine aw_dup dX0_push_21 rfl ?_
  refine aw_getI dX0_push_22 f0_18 rfl ⟨Nat.le_of_ble_eq_true rfl, Nat.le_of_ble_eq_true rfl⟩ rfl ?_
  refine aw_top ((congrFun (aw_u_ne (show 8 ≠ 10 by decide)) 2).trans ((congrFun (aw_u_ne (show 8 ≠ 9 by decide)) 2).trans hA.1)) ?_
  refine aw_iconst (v := 1) dX0_push_25 rfl ?_
  refine aw_iadd_n (a := u 2 0) (b := 1) dX0_push_26 ?_
  refine aw_putI dX0_push_27 f0_18 rfl ⟨Nat.le_of_ble_eq_true rfl, Nat.le_of_ble_eq_true rfl⟩ (Or.inl rfl) rfl ?_
  refine aw_ret0 dX0_push_30 rfl ⟨Nat.le_of_ble_eq_true rfl, Nat.le_of_ble_eq_true rfl⟩ ?_
  exact ⟨rfl, _, rfl, u_push_an hA, fun o a b d => by rw [aw_u_ne a, aw_u_ne d, aw_u_ne b]⟩
theorem c_answerB (G : aw_G) {n c : Nat} {I : Nat → Nat → Int32} {L : Nat → Nat → Int64} {b0 b1 : Nat → Nat} {l0 l1 : Nat} {t u x y V g : Nat → Nat → Nat} {kk : Nat} {F S : Nat → Nat} {E : Nat → Nat → Int32} {fd : Int32} (hX : zTx b0 b1 l0 l1 t u x y V kk) (hI : zCI b0 b1 l0 l1 t u x y g F S E fd I) {a1 : Int32} {a2 : Int32} (hz : ¬ (zok a1 40 ∧ zok a2 8)) : aw_Met G mX10_answer [.ref 3, .int a1, .int a2] (zH n I L c) (fun v h2 => v = some (.int (-2)) ∧ ∃ I2 L2 c2, h2 = zH n I2 L2 c2 ∧ zCI b0 b1 l0 l1 t u x y g F S E fd I2 ∧ ∀ o, 81 ≤ o → I2 o = I o) := by
  obtain ⟨hW, hC, hF, ⟨s0, hO, hR⟩, ⟨t2, s2, hD⟩, hG, hS, hfd⟩ := id hI
  obtain ⟨hP, h60, h61, htc, hV, hkk, hx, hy⟩ := id hX
  have h8 := hP.1.1
  have hk10 : kk ≤ 10 := by rw [hkk]; exact q_k_leW hW.1.2.2.2.2
  have hi6 : I 6 5 = nI (t 6 0) := by rw [h60]; exact hC.2.2
  have hi4 : I 4 5 = nI kk := by rw [hkk]; exact hW.2.2
  have hVo : f_Vok V kk := by rw [hV, hkk]; exact v_w_ok
  have hsm := zSame hP hO.1
  have hbd := zBd (m := z0) (u := u) hP.1 hP.2.2.2.1 hP.2.2.2.2.1 hP.2.2.2.2.2 hO.1
  have hS0 : p_play s0 t u x 0 0 = t 6 0 := hbd.1.1
  refine aw_Met.of okX10_answer (Nat.le_of_ble_eq_true rfl) ?_
  show aw_W G mX10_answer 0 [.ref 3, .int a1, .int a2] [] (zH n I L c) (0, 0) _
  refine aw_iload_n dX10_answer_0 rfl ?_
  refine aw_bipush (v := 40) dX10_answer_1 (by decide) ?_
  refine aw_S0c (As := [_, _]) dX10_answer_3 k10_100 rfl rfl (Nat.le_of_ble_eq_true rfl) ⟨⟨Nat.le_of_ble_eq_true rfl, Nat.le_of_ble_eq_true rfl⟩, ⟨Nat.le_of_ble_eq_true rfl, Nat.le_of_ble_eq_true rfl⟩⟩ ⟨rfl, rfl⟩ (w_within G a1 (b := 40) (by omega)) (fun v h2 hq => ?_)
  obtain ⟨rfl, rfl⟩ := hq
  refine aw_if_eq_B (tgt := 18) dX10_answer_6 (by decide) (fun c6 => ?_) (fun c6 => ?_)
  · refine aw_bipush (v := -2) dX10_answer_18 (by decide) ?_
    refine aw_reti dX10_answer_20 rfl rfl ⟨Nat.le_of_ble_eq_true rfl, Nat.le_of_ble_eq_true rfl⟩ ?_
    exact ⟨rfl, _, _, _, rfl, hI, fun _ _ => rfl⟩
  · refine aw_iload_n dX10_answer_9 rfl ?_
    refine aw_bipush (v := 8) dX10_answer_10 (by decide) ?_
    refine aw_S0c (As := [_, _]) dX10_answer_12 k10_100 rfl rfl (Nat.le_of_ble_eq_true rfl) ⟨⟨Nat.le_of_ble_eq_true rfl, Nat.le_of_ble_eq_true rfl⟩, ⟨Nat.le_of_ble_eq_true rfl, Nat.le_of_ble_eq_true rfl⟩⟩ ⟨rfl, rfl⟩ (w_within G a2 (b := 8) (by omega)) (fun v h2 hq => ?_)
    obtain ⟨rfl, rfl⟩ := hq
    refine aw_if_ne_B (tgt := 21) dX10_answer_15 (by decide) (fun z => absurd z (fun q => hz ⟨c6, q⟩)) (fun c15 => ?_)
    refine aw_bipush (v := -2) dX10_answer_18 (by decide) ?_
    refine aw_reti dX10_answer_20 rfl rfl ⟨Nat.le_of_ble_eq_true rfl, Nat.le_of_ble_eq_true rfl⟩ ?_
    exact ⟨rfl, _, _, _, rfl, hI, fun _ _ => rfl⟩
theorem c_answerF (G : aw_G) {n c : Nat} {I : Nat → Nat → Int32} {L : Nat → Nat → Int64} {b0 b1 : Nat → Nat} {l0 l1 : Nat} {t u x y V g : Nat → Nat → Nat} {kk : Nat} {F S : Nat → Nat} {E : Nat → Nat → Int32} {fd : Int32} (hX : zTx b0 b1 l0 l1 t u x y V kk) (hI : zCI b0 b1 l0 l1 t u x y g F S E fd I) {p1 p2 : Nat} (hp1 : p1 < 40) (hp2 : p2 < 8) (hn : u 2 0 = 8) : aw_Met G mX10_answer [.ref 3, .int (nI p1), .int (nI p2)] (zH n I L c) (fun v h2 => v = some (.int (-4)) ∧ ∃ I2 L2 c2, h2 = zH n I2 L2 c2 ∧ zCI b0 b1 l0 l1 t u x y g F S E fd I2 ∧ ∀ o, 81 ≤ o → I2 o = I o) := by
  obtain ⟨hW, hC, hF, ⟨s0, hO, hR⟩, ⟨t2, s2, hD⟩, hG, hS, hfd⟩ := id hI
  obtain ⟨hP, h60, h61, htc, hV, hkk, hx, hy⟩ := id hX
  have h8 := hP.1.1
  have hk10 : kk ≤ 10 := by rw [hkk]; exact q_k_leW hW.1.2.2.2.2
  have hi6 : I 6 5 = nI (t 6 0) := by rw [h60]; exact hC.2.2
  have hi4 : I 4 5 = nI kk := by rw [hkk]; exact hW.2.2
  have hVo : f_Vok V kk := by rw [hV, hkk]; exact v_w_ok
  have hsm := zSame hP hO.1
  have hbd := zBd (m := z0) (u := u) hP.1 hP.2.2.2.1 hP.2.2.2.2.1 hP.2.2.2.2.2 hO.1
  have hS0 : p_play s0 t u x 0 0 = t 6 0 := hbd.1.1
  refine aw_Met.of okX10_answer (Nat.le_of_ble_eq_true rfl) ?_
  show aw_W G mX10_answer 0 [.ref 3, .int (nI p1), .int (nI p2)] [] (zH n I L c) (0, 0) _
  refine aw_iload_n dX10_answer_0 rfl ?_
  refine aw_bipush (v := 40) dX10_answer_1 (by decide) ?_
  refine aw_S0c (As := [_, _]) dX10_answer_3 k10_100 rfl rfl (Nat.le_of_ble_eq_true rfl) ⟨⟨Nat.le_of_ble_eq_true rfl, Nat.le_of_ble_eq_true rfl⟩, ⟨Nat.le_of_ble_eq_true rfl, Nat.le_of_ble_eq_true rfl⟩⟩ ⟨rfl, rfl⟩ (w_within G ((nI p1)) (b := 40) (by omega)) (fun v h2 hq => ?_)
  obtain ⟨rfl, rfl⟩ := hq
  refine aw_if_eq_B (tgt := 18) dX10_answer_6 (by decide) (fun z => absurd z (fun q => q ((zok_nI (by omega)).mpr hp1))) (fun c6 => ?_)
  refine aw_iload_n dX10_answer_9 rfl ?_
  refine aw_bipush (v := 8) dX10_answer_10 (by decide) ?_
  refine aw_S0c (As := [_, _]) dX10_answer_12 k10_100 rfl rfl (Nat.le_of_ble_eq_true rfl) ⟨⟨Nat.le_of_ble_eq_true rfl, Nat.le_of_ble_eq_true rfl⟩, ⟨Nat.le_of_ble_eq_true rfl, Nat.le_of_ble_eq_true rfl⟩⟩ ⟨rfl, rfl⟩ (w_within G ((nI p2)) (b := 8) (by omega)) (fun v h2 hq => ?_)
  obtain ⟨rfl, rfl⟩ := hq
  refine aw_if_ne_B (tgt := 21) dX10_answer_15 (by decide) (fun c15 => ?_) (fun z => absurd z (fun q => q ((zok_nI (by omega)).mpr hp2)))
  refine aw_aload_n dX10_answer_21 rfl ?_
  refine aw_getR dX10_answer_22 f10_31 rfl ⟨Nat.le_of_ble_eq_true rfl, Nat.le_of_ble_eq_true rfl⟩ rfl rfl ?_
  refine aw_getI dX10_answer_25 f10_145 rfl ⟨Nat.le_of_ble_eq_true rfl, Nat.le_of_ble_eq_true rfl⟩ rfl ?_
  refine aw_top hF.2.2.2.1.1 ?_
  refine aw_bipush (v := 8) dX10_answer_28 (by decide) ?_
  refine aw_ic_lt_n (a := u 2 0) (b := 8) (tgt := 36) dX10_answer_30 (by decide) (by omega) (by omega) (fun z => absurd z (by omega)) (fun c30 => ?_)
  refine aw_bipush (v := -4) dX10_answer_33 (by decide) ?_
  refine aw_reti dX10_answer_35 rfl rfl ⟨Nat.le_of_ble_eq_true rfl, Nat.le_of_ble_eq_true rfl⟩ ?_
  exact ⟨rfl, _, _, _, rfl, hI, fun _ _ => rfl⟩
theorem c_answer (G : aw_G) {n c : Nat} {I : Nat → Nat → Int32} {L : Nat → Nat → Int64} {b0 b1 : Nat → Nat} {l0 l1 : Nat} {t u x y V g : Nat → Nat → Nat} {kk : Nat} {F S : Nat → Nat} {E : Nat → Nat → Int32} {fd : Int32} (hX : zTx b0 b1 l0 l1 t u x y V kk) (hI : zCI b0 b1 l0 l1 t u x y g F S E fd I) {p1 p2 : Nat} (hp1 : p1 < 40) (hp2 : p2 < 8) (hn : u 2 0 < 8) : aw_Met G mX10_answer [.ref 3, .int (nI p1), .int (nI p2)] (zH n I L c) (fun v h2 => v = some (.int (nI (u 2 0 + 1))) ∧ ∃ I2 L2 c2, h2 = zH n I2 L2 c2 ∧ zTx b0 b1 l0 l1 t (u_push u p1 p2) x y V kk ∧ zCI b0 b1 l0 l1 t (u_push u p1 p2) x y g F S E fd I2 ∧ ∀ o, 81 ≤ o → I2 o = I o) := by
  obtain ⟨hW, hC, hF, ⟨s0, hO, hR⟩, ⟨t2, s2, hD⟩, hG, hS, hfd⟩ := id hI
  obtain ⟨hP, h60, h61, htc, hV, hkk, hx, hy⟩ := id hX
  have h8 := hP.1.1
  have hk10 : kk ≤ 10 := by rw [hkk]; exact q_k_leW hW.1.2.2.2.2
  have hi6 : I 6 5 = nI (t 6 0) := by rw [h60]; exact hC.2.2
  have hi4 : I 4 5 = nI kk := by rw [hkk]; exact hW.2.2
  have hVo : f_Vok V kk := by rw [hV, hkk]; exact v_w_ok
  have hsm := zSame hP hO.1
  have hbd := zBd (m := z0) (u := u) hP.1 hP.2.2.2.1 hP.2.2.2.2.1 hP.2.2.2.2.2 hO.1
  have hS0 : p_play s0 t u x 0 0 = t 6 0 := hbd.1.1
  refine aw_Met.of okX10_answer (Nat.le_of_ble_eq_true rfl) ?_
  show aw_W G mX10_answer 0 [.ref 3, .int (nI p1), .int (nI p2)] [] (zH n I L c) (0, 0) _
  refine aw_iload_n dX10_answer_0 rfl ?_
  refine aw_bipush (v := 40) dX10_answer_1 (by decide) ?_
  refine aw_S0c (As := [_, _]) dX10_answer_3 k10_100 rfl rfl (Nat.le_of_ble_eq_true rfl) ⟨⟨Nat.le_of_ble_eq_true rfl, Nat.le_of_ble_eq_true rfl⟩, ⟨Nat.le_of_ble_eq_true rfl, Nat.le_of_ble_eq_true rfl⟩⟩ ⟨rfl, rfl⟩ (w_within G ((nI p1)) (b := 40) (by omega)) (fun v h2 hq => ?_)
  obtain ⟨rfl, rfl⟩ := hq
  refine aw_if_eq_B (tgt := 18) dX10_answer_6 (by decide) (fun z => absurd z (fun q => q ((zok_nI (by omega)).mpr hp1))) (fun c6 => ?_)
  refine aw_iload_n dX10_answer_9 rfl ?_
  refine aw_bipush (v := 8) dX10_answer_10 (by decide) ?_
  refine aw_S0c (As := [_, _]) dX10_answer_12 k10_100 rfl rfl (Nat.le_of_ble_eq_true rfl) ⟨⟨Nat.le_of_ble_eq_true rfl, Nat.le_of_ble_eq_true rfl⟩, ⟨Nat.le_of_ble_eq_true rfl, Nat.le_of_ble_eq_true rfl⟩⟩ ⟨rfl, rfl⟩ (w_within G ((nI p2)) (b := 8) (by omega)) (fun v h2 hq => ?_)
  obtain ⟨rfl, rfl⟩ := hq
  refine aw_if_ne_B (tgt := 21) dX10_answer_15 (by decide) (fun c15 => ?_) (fun z => absurd z (fun q => q ((zok_nI (by omega)).mpr hp2)))
  refine aw_aload_n dX10_answer_21 rfl ?_
  refine aw_getR dX10_answer_22 f10_31 rfl ⟨Nat.le_of_ble_eq_true rfl, Nat.le_of_ble_eq_true rfl⟩ rfl rfl ?_
  refine aw_getI dX10_answer_25 f10_145 rfl ⟨Nat.le_of_ble_eq_true rfl, Nat.le_of_ble_eq_true rfl⟩ rfl ?_
  refine aw_top hF.2.2.2.1.1 ?_
  refine aw_bipush (v := 8) dX10_answer_28 (by decide) ?_
  refine aw_ic_lt_n (a := u 2 0) (b := 8) (tgt := 36) dX10_answer_30 (by decide) (by omega) (by omega) (fun c30 => ?_) (fun z => absurd z (by omega))
  refine aw_aload_n dX10_answer_36 rfl ?_
  refine aw_getR dX10_answer_37 f10_31 rfl ⟨Nat.le_of_ble_eq_true rfl, Nat.le_of_ble_eq_true rfl⟩ rfl rfl ?_
  refine aw_iload_n dX10_answer_40 rfl ?_
  refine aw_iload_n dX10_answer_41 rfl ?_
  refine aw_V0c (As := [_, _]) dX10_answer_42 k10_147 rfl rfl rfl ⟨Nat.le_of_ble_eq_true rfl, Nat.le_of_ble_eq_true rfl⟩ (Nat.le_of_ble_eq_true rfl) ⟨⟨Nat.le_of_ble_eq_true rfl, Nat.le_of_ble_eq_true rfl⟩, ⟨Nat.le_of_ble_eq_true rfl, Nat.le_of_ble_eq_true rfl⟩⟩ ⟨rfl, rfl⟩ (w_aPush G hF.2.2.2.1 hn) (fun v h2 hq => ?_)
  obtain ⟨rfl, I1, rfl, hA1, hF1⟩ := hq
  have hU1 := u_push_ok hP.2.2.1 hn hp1 hp2
  have hK1 := hI.k.an hA1 hU1 hF1
  have hx1 : zCh x 12 I1 := fun j hj => by rw [hF1 13 (by decide) (by decide) (by decide), hF1 14 (by decide) (by decide) (by decide), hF1 15 (by decide) (by decide) (by decide)]; exact hF.2.2.2.2.2.1 j hj
  refine aw_aload_n dX10_answer_45 rfl ?_
  refine aw_getR dX10_answer_46 f10_58 rfl ⟨Nat.le_of_ble_eq_true rfl, Nat.le_of_ble_eq_true rfl⟩ rfl rfl ?_
  refine aw_aload_n dX10_answer_49 rfl ?_
  refine aw_getR dX10_answer_50 f10_43 rfl ⟨Nat.le_of_ble_eq_true rfl, Nat.le_of_ble_eq_true rfl⟩ rfl rfl ?_
  refine aw_V0c (As := [_]) dX10_answer_53 k10_62 rfl rfl rfl ⟨Nat.le_of_ble_eq_true rfl, Nat.le_of_ble_eq_true rfl⟩ (Nat.le_of_ble_eq_true rfl) ⟨⟨Nat.le_of_ble_eq_true rfl, Nat.le_of_ble_eq_true rfl⟩, ⟨Nat.le_of_ble_eq_true rfl, Nat.le_of_ble_eq_true rfl⟩⟩ ⟨rfl, rfl⟩ (w_plI G hK1 hx1 hF.2.2.2.2.2.2) (fun v h2 hq => ?_)
  obtain ⟨rfl, I2, rfl, hI2, hF2⟩ := hq
  refine aw_aload_n dX10_answer_56 rfl ?_
  refine aw_getR dX10_answer_57 f10_31 rfl ⟨Nat.le_of_ble_eq_true rfl, Nat.le_of_ble_eq_true rfl⟩ rfl rfl ?_
  refine aw_getI dX10_answer_60 f10_145 rfl ⟨Nat.le_of_ble_eq_true rfl, Nat.le_of_ble_eq_true rfl⟩ rfl ?_
  refine aw_top hI2.2.2.1.2.2.2.1.1 ?_
  refine aw_reti dX10_answer_63 rfl rfl ⟨Nat.le_of_ble_eq_true rfl, Nat.le_of_ble_eq_true rfl⟩ ?_
  exact ⟨rfl, _, _, _, rfl, ⟨⟨hP.1, hP.2.1, hU1, hP.2.2.2⟩, h60, h61, htc, hV, hkk, hx, hy⟩, hI2, fun o ho => by rw [hF2 o (by omega)]; exact hF1 o (by omega) (by omega) (by omega)⟩
theorem c_backN (G : aw_G) {n c : Nat} {I : Nat → Nat → Int32} {L : Nat → Nat → Int64} {b0 b1 : Nat → Nat} {l0 l1 : Nat} {t u x y V g : Nat → Nat → Nat} {kk : Nat} {F S : Nat → Nat} {E : Nat → Nat → Int32} {fd : Int32} (hX : zTx b0 b1 l0 l1 t u x y V kk) (hI : zCI b0 b1 l0 l1 t u x y g F S E fd I) (hn : u 2 0 = 0) : aw_Met G mX10_back [.ref 3] (zH n I L c) (fun v h2 => v = some (.int (-3)) ∧ ∃ I2 L2 c2, h2 = zH n I2 L2 c2 ∧ zCI b0 b1 l0 l1 t u x y g F S E fd I2 ∧ ∀ o, 81 ≤ o → I2 o = I o) := by
  obtain ⟨hW, hC, hF, ⟨s0, hO, hR⟩, ⟨t2, s2, hD⟩, hG, hS, hfd⟩ := id hI
  obtain ⟨hP, h60, h61, htc, hV, hkk, hx, hy⟩ := id hX
  have h8 := hP.1.1
  have hk10 : kk ≤ 10 := by rw [hkk]; exact q_k_leW hW.1.2.2.2.2
  have hi6 : I 6 5 = nI (t 6 0) := by rw [h60]; exact hC.2.2
  have hi4 : I 4 5 = nI kk := by rw [hkk]; exact hW.2.2
  have hVo : f_Vok V kk := by rw [hV, hkk]; exact v_w_ok
  have hsm := zSame hP hO.1
  have hbd := zBd (m := z0) (u := u) hP.1 hP.2.2.2.1 hP.2.2.2.2.1 hP.2.2.2.2.2 hO.1
  have hS0 : p_play s0 t u x 0 0 = t 6 0 := hbd.1.1
  refine aw_Met.of okX10_back (Nat.le_of_ble_eq_true rfl) ?_
  show aw_W G mX10_back 0 [.ref 3] [] (zH n I L c) (0, 0) _
  refine aw_aload_n dX10_back_0 rfl ?_
  refine aw_getR dX10_back_1 f10_31 rfl ⟨Nat.le_of_ble_eq_true rfl, Nat.le_of_ble_eq_true rfl⟩ rfl rfl ?_
  refine aw_getI dX10_back_4 f10_145 rfl ⟨Nat.le_of_ble_eq_true rfl, Nat.le_of_ble_eq_true rfl⟩ rfl ?_
  refine aw_top hF.2.2.2.1.1 ?_
  refine aw_if_ne_n (a := u 2 0) (tgt := 13) dX10_back_7 (by decide) (by omega) (fun z => absurd z (fun q => q hn)) (fun c7 => ?_)
  refine aw_bipush (v := -3) dX10_back_10 (by decide) ?_
  refine aw_reti dX10_back_12 rfl rfl ⟨Nat.le_of_ble_eq_true rfl, Nat.le_of_ble_eq_true rfl⟩ ?_
  exact ⟨rfl, _, _, _, rfl, hI, fun _ _ => rfl⟩
theorem u_back_an {u : Nat → Nat → Nat} {I : Nat → Nat → Int32} {v : Nat} (hA : zAn u I) : zAn (aw_u u 2 0 v) (aw_u I 8 2 (nI v)) :=
  ⟨by rw [aw_u_eq, aw_u_eq], fun a ha => by rw [aw_u_ne (by decide), aw_u_ne (by decide), aw_u_ne (by decide), aw_u_ne (by decide)]; exact hA.2 a ha⟩
theorem u_back_ok {u : Nat → Nat → Nat} {v : Nat} (hU : zUok u) (hv : v ≤ 8) : zUok (aw_u u 2 0 v) :=
  ⟨by rw [aw_u_eq]; exact hv, fun a ha => by rw [aw_u_ne (by decide), aw_u_ne (by decide)]; exact hU.2 a ha⟩
theorem c_back (G : aw_G) {n c : Nat} {I : Nat → Nat → Int32} {L : Nat → Nat → Int64} {b0 b1 : Nat → Nat} {l0 l1 : Nat} {t u x y V g : Nat → Nat → Nat} {kk : Nat} {F S : Nat → Nat} {E : Nat → Nat → Int32} {fd : Int32} (hX : zTx b0 b1 l0 l1 t u x y V kk) (hI : zCI b0 b1 l0 l1 t u x y g F S E fd I) (hn : ¬ u 2 0 = 0) : aw_Met G mX10_back [.ref 3] (zH n I L c) (fun v h2 => v = some (.int (nI (u 2 0 - 1))) ∧ ∃ I2 L2 c2, h2 = zH n I2 L2 c2 ∧ zTx b0 b1 l0 l1 t (aw_u u 2 0 (u 2 0 - 1)) x y V kk ∧ zCI b0 b1 l0 l1 t (aw_u u 2 0 (u 2 0 - 1)) x y g F S E fd I2 ∧ ∀ o, 81 ≤ o → I2 o = I o) := by
  obtain ⟨hW, hC, hF, ⟨s0, hO, hR⟩, ⟨t2, s2, hD⟩, hG, hS, hfd⟩ := id hI
  obtain ⟨hP, h60, h61, htc, hV, hkk, hx, hy⟩ := id hX
  have h8 := hP.1.1
  have hk10 : kk ≤ 10 := by rw [hkk]; exact q_k_leW hW.1.2.2.2.2
  have hi6 : I 6 5 = nI (t 6 0) := by rw [h60]; exact hC.2.2
  have hi4 : I 4 5 = nI kk := by rw [hkk]; exact hW.2.2
  have hVo : f_Vok V kk := by rw [hV, hkk]; exact v_w_ok
  have hsm := zSame hP hO.1
  have hbd := zBd (m := z0) (u := u) hP.1 hP.2.2.2.1 hP.2.2.2.2.1 hP.2.2.2.2.2 hO.1
  have hS0 : p_play s0 t u x 0 0 = t 6 0 := hbd.1.1
  have hu8 := hP.2.2.1.1
  refine aw_Met.of okX10_back (Nat.le_of_ble_eq_true rfl) ?_
  show aw_W G mX10_back 0 [.ref 3] [] (zH n I L c) (0, 0) _
  refine aw_aload_n dX10_back_0 rfl ?_
  refine aw_getR dX10_back_1 f10_31 rfl ⟨Nat.le_of_ble_eq_true rfl, Nat.le_of_ble_eq_true rfl⟩ rfl rfl ?_
  refine aw_getI dX10_back_4 f10_145 rfl ⟨Nat.le_of_ble_eq_true rfl, Nat.le_of_ble_eq_true rfl⟩ rfl ?_
  refine aw_top hF.2.2.2.1.1 ?_
  refine aw_if_ne_n (a := u 2 0) (tgt := 13) dX10_back_7 (by decide) (by omega) (fun c7 => ?_) (fun z => absurd z hn)
  refine aw_aload_n dX10_back_13 rfl ?_
  refine aw_getR dX10_back_14 f10_31 rfl ⟨Nat.le_of_ble_eq_true rfl, Nat.le_of_ble_eq_true rfl⟩ rfl rfl ?_
  refine aw_dup dX10_back_17 rfl ?_
  refine aw_getI dX10_back_18 f10_145 rfl ⟨Nat.le_of_ble_eq_true rfl, Nat.le_of_ble_eq_true rfl⟩ rfl ?_
  refine aw_top hF.2.2.2.1.1 ?_
  refine aw_iconst (v := 1) dX10_back_21 rfl ?_
  refine aw_isub_n (a := u 2 0) (b := 1) dX10_back_22 (by omega) ?_
  refine aw_putI dX10_back_23 f10_145 rfl ⟨Nat.le_of_ble_eq_true rfl, Nat.le_of_ble_eq_true rfl⟩ (Or.inl rfl) rfl ?_
  obtain ⟨I1, hI1⟩ : ∃ I1, I1 = aw_u I 8 2 (nI (u 2 0 - 1)) := ⟨_, rfl⟩
  have hF1 : ∀ o, o ≠ 8 → o ≠ 9 → o ≠ 10 → I1 o = I o := fun o a _ _ => by rw [hI1, aw_u_ne a]
  have hU1 : zUok (aw_u u 2 0 (u 2 0 - 1)) := u_back_ok hP.2.2.1 (by omega)
  have hA1 : zAn (aw_u u 2 0 (u 2 0 - 1)) I1 := by rw [hI1]; exact u_back_an hF.2.2.2.1
  have hK1 := hI.k.an hA1 hU1 hF1
  have hx1 : zCh x 12 I1 := fun j hj => by rw [hF1 13 (by decide) (by decide) (by decide), hF1 14 (by decide) (by decide) (by decide), hF1 15 (by decide) (by decide) (by decide)]; exact hF.2.2.2.2.2.1 j hj
  rw [← hI1]
  refine aw_aload_n dX10_back_26 rfl ?_
  refine aw_getR dX10_back_27 f10_58 rfl ⟨Nat.le_of_ble_eq_true rfl, Nat.le_of_ble_eq_true rfl⟩ rfl rfl ?_
  refine aw_aload_n dX10_back_30 rfl ?_
  refine aw_getR dX10_back_31 f10_43 rfl ⟨Nat.le_of_ble_eq_true rfl, Nat.le_of_ble_eq_true rfl⟩ rfl rfl ?_
  refine aw_V0c (As := [_]) dX10_back_34 k10_62 rfl rfl rfl ⟨Nat.le_of_ble_eq_true rfl, Nat.le_of_ble_eq_true rfl⟩ (Nat.le_of_ble_eq_true rfl) ⟨⟨Nat.le_of_ble_eq_true rfl, Nat.le_of_ble_eq_true rfl⟩, ⟨Nat.le_of_ble_eq_true rfl, Nat.le_of_ble_eq_true rfl⟩⟩ ⟨rfl, rfl⟩ (w_plI G hK1 hx1 hF.2.2.2.2.2.2) (fun v h2 hq => ?_)
  obtain ⟨rfl, I2, rfl, hI2, hF2⟩ := hq
  have e9 : nI (aw_u u 2 0 (u 2 0 - 1) 2 0) = nI (u 2 0 - 1) := by rw [aw_u_eq]
  refine aw_aload_n dX10_back_37 rfl ?_
  refine aw_getR dX10_back_38 f10_31 rfl ⟨Nat.le_of_ble_eq_true rfl, Nat.le_of_ble_eq_true rfl⟩ rfl rfl ?_
  refine aw_getI dX10_back_41 f10_145 rfl ⟨Nat.le_of_ble_eq_true rfl, Nat.le_of_ble_eq_true rfl⟩ rfl ?_
  refine aw_top hI2.2.2.1.2.2.2.1.1 ?_
  refine aw_reti dX10_back_44 rfl rfl ⟨Nat.le_of_ble_eq_true rfl, Nat.le_of_ble_eq_true rfl⟩ ?_
  exact ⟨by rw [e9], _, _, _, rfl, ⟨⟨hP.1, hP.2.1, hU1, hP.2.2.2⟩, h60, h61, htc, hV, hkk, hx, hy⟩, hI2, fun o ho => by rw [hF2 o (by omega)]; exact hF1 o (by omega) (by omega) (by omega)⟩
theorem c_seenB (G : aw_G) {n c : Nat} {I : Nat → Nat → Int32} {L : Nat → Nat → Int64} {b0 b1 : Nat → Nat} {l0 l1 : Nat} {t u x y V g : Nat → Nat → Nat} {kk : Nat} {F S : Nat → Nat} {E : Nat → Nat → Int32} {fd : Int32} (hX : zTx b0 b1 l0 l1 t u x y V kk) (hI : zCI b0 b1 l0 l1 t u x y g F S E fd I) {a1 : Int32} {a2 : Int32} {a3 : Int32} (hz : ¬ (zok a1 40 ∧ zok a2 8 ∧ zok a3 9)) : aw_Met G mX10_seen [.ref 3, .int a1, .int a2, .int a3] (zH n I L c) (fun v h2 => v = some (.int (-2)) ∧ ∃ I2 L2 c2, h2 = zH n I2 L2 c2 ∧ zCI b0 b1 l0 l1 t u x y g F S E fd I2 ∧ ∀ o, 81 ≤ o → I2 o = I o) := by
  obtain ⟨hW, hC, hF, ⟨s0, hO, hR⟩, ⟨t2, s2, hD⟩, hG, hS, hfd⟩ := id hI
  obtain ⟨hP, h60, h61, htc, hV, hkk, hx, hy⟩ := id hX
  have h8 := hP.1.1
  have hk10 : kk ≤ 10 := by rw [hkk]; exact q_k_leW hW.1.2.2.2.2
  have hi6 : I 6 5 = nI (t 6 0) := by rw [h60]; exact hC.2.2
  have hi4 : I 4 5 = nI kk := by rw [hkk]; exact hW.2.2
  have hVo : f_Vok V kk := by rw [hV, hkk]; exact v_w_ok
  have hsm := zSame hP hO.1
  have hbd := zBd (m := z0) (u := u) hP.1 hP.2.2.2.1 hP.2.2.2.2.1 hP.2.2.2.2.2 hO.1
  have hS0 : p_play s0 t u x 0 0 = t 6 0 := hbd.1.1
  refine aw_Met.of okX10_seen (Nat.le_of_ble_eq_true rfl) ?_
  show aw_W G mX10_seen 0 [.ref 3, .int a1, .int a2, .int a3] [] (zH n I L c) (0, 0) _
  refine aw_iload_n dX10_seen_0 rfl ?_
  refine aw_bipush (v := 40) dX10_seen_1 (by decide) ?_
  refine aw_S0c (As := [_, _]) dX10_seen_3 k10_100 rfl rfl (Nat.le_of_ble_eq_true rfl) ⟨⟨Nat.le_of_ble_eq_true rfl, Nat.le_of_ble_eq_true rfl⟩, ⟨Nat.le_of_ble_eq_true rfl, Nat.le_of_ble_eq_true rfl⟩⟩ ⟨rfl, rfl⟩ (w_within G a1 (b := 40) (by omega)) (fun v h2 hq => ?_)
  obtain ⟨rfl, rfl⟩ := hq
  refine aw_if_eq_B (tgt := 27) dX10_seen_6 (by decide) (fun c6 => ?_) (fun c6 => ?_)
  · refine aw_bipush (v := -2) dX10_seen_27 (by decide) ?_
    refine aw_reti dX10_seen_29 rfl rfl ⟨Nat.le_of_ble_eq_true rfl, Nat.le_of_ble_eq_true rfl⟩ ?_
    exact ⟨rfl, _, _, _, rfl, hI, fun _ _ => rfl⟩
  · refine aw_iload_n dX10_seen_9 rfl ?_
    refine aw_bipush (v := 8) dX10_seen_10 (by decide) ?_
    refine aw_S0c (As := [_, _]) dX10_seen_12 k10_100 rfl rfl (Nat.le_of_ble_eq_true rfl) ⟨⟨Nat.le_of_ble_eq_true rfl, Nat.le_of_ble_eq_true rfl⟩, ⟨Nat.le_of_ble_eq_true rfl, Nat.le_of_ble_eq_true rfl⟩⟩ ⟨rfl, rfl⟩ (w_within G a2 (b := 8) (by omega)) (fun v h2 hq => ?_)
    obtain ⟨rfl, rfl⟩ := hq
    refine aw_if_eq_B (tgt := 27) dX10_seen_15 (by decide) (fun c15 => ?_) (fun c15 => ?_)
    · refine aw_bipush (v := -2) dX10_seen_27 (by decide) ?_
      refine aw_reti dX10_seen_29 rfl rfl ⟨Nat.le_of_ble_eq_true rfl, Nat.le_of_ble_eq_true rfl⟩ ?_
      exact ⟨rfl, _, _, _, rfl, hI, fun _ _ => rfl⟩
    · refine aw_iload_n dX10_seen_18 rfl ?_
      refine aw_bipush (v := 9) dX10_seen_19 (by decide) ?_
      refine aw_S0c (As := [_, _]) dX10_seen_21 k10_100 rfl rfl (Nat.le_of_ble_eq_true rfl) ⟨⟨Nat.le_of_ble_eq_true rfl, Nat.le_of_ble_eq_true rfl⟩, ⟨Nat.le_of_ble_eq_true rfl, Nat.le_of_ble_eq_true rfl⟩⟩ ⟨rfl, rfl⟩ (w_within G a3 (b := 9) (by omega)) (fun v h2 hq => ?_)
      obtain ⟨rfl, rfl⟩ := hq
      refine aw_if_ne_B (tgt := 30) dX10_seen_24 (by decide) (fun z => absurd z (fun q => hz ⟨c6, c15, q⟩)) (fun c24 => ?_)
      refine aw_bipush (v := -2) dX10_seen_27 (by decide) ?_
      refine aw_reti dX10_seen_29 rfl rfl ⟨Nat.le_of_ble_eq_true rfl, Nat.le_of_ble_eq_true rfl⟩ ?_
      exact ⟨rfl, _, _, _, rfl, hI, fun _ _ => rfl⟩
theorem c_seenF (G : aw_G) {n c : Nat} {I : Nat → Nat → Int32} {L : Nat → Nat → Int64} {b0 b1 : Nat → Nat} {l0 l1 : Nat} {t u x y V g : Nat → Nat → Nat} {kk : Nat} {F S : Nat → Nat} {E : Nat → Nat → Int32} {fd : Int32} (hX : zTx b0 b1 l0 l1 t u x y V kk) (hI : zCI b0 b1 l0 l1 t u x y g F S E fd I) {p1 p2 p3 : Nat} (hp1 : p1 < 40) (hp2 : p2 < 8) (hp3 : p3 < 9) (hn : g 3 0 = 8) : aw_Met G mX10_seen [.ref 3, .int (nI p1), .int (nI p2), .int (nI p3)] (zH n I L c) (fun v h2 => v = some (.int (-4)) ∧ ∃ I2 L2 c2, h2 = zH n I2 L2 c2 ∧ zCI b0 b1 l0 l1 t u x y g F S E fd I2 ∧ ∀ o, 81 ≤ o → I2 o = I o) := by
  obtain ⟨hW, hC, hF, ⟨s0, hO, hR⟩, ⟨t2, s2, hD⟩, hG, hS, hfd⟩ := id hI
  obtain ⟨hP, h60, h61, htc, hV, hkk, hx, hy⟩ := id hX
  have h8 := hP.1.1
  have hk10 : kk ≤ 10 := by rw [hkk]; exact q_k_leW hW.1.2.2.2.2
  have hi6 : I 6 5 = nI (t 6 0) := by rw [h60]; exact hC.2.2
  have hi4 : I 4 5 = nI kk := by rw [hkk]; exact hW.2.2
  have hVo : f_Vok V kk := by rw [hV, hkk]; exact v_w_ok
  have hsm := zSame hP hO.1
  have hbd := zBd (m := z0) (u := u) hP.1 hP.2.2.2.1 hP.2.2.2.2.1 hP.2.2.2.2.2 hO.1
  have hS0 : p_play s0 t u x 0 0 = t 6 0 := hbd.1.1
  refine aw_Met.of okX10_seen (Nat.le_of_ble_eq_true rfl) ?_
  show aw_W G mX10_seen 0 [.ref 3, .int (nI p1), .int (nI p2), .int (nI p3)] [] (zH n I L c) (0, 0) _
  refine aw_iload_n dX10_seen_0 rfl ?_
  refine aw_bipush (v := 40) dX10_seen_1 (by decide) ?_
  refine aw_S0c (As := [_, _]) dX10_seen_3 k10_100 rfl rfl (Nat.le_of_ble_eq_true rfl) ⟨⟨Nat.le_of_ble_eq_true rfl, Nat.le_of_ble_eq_true rfl⟩, ⟨Nat.le_of_ble_eq_true rfl, Nat.le_of_ble_eq_true rfl⟩⟩ ⟨rfl, rfl⟩ (w_within G ((nI p1)) (b := 40) (by omega)) (fun v h2 hq => ?_)
  obtain ⟨rfl, rfl⟩ := hq
  refine aw_if_eq_B (tgt := 27) dX10_seen_6 (by decide) (fun z => absurd z (fun q => q ((zok_nI (by omega)).mpr hp1))) (fun c6 => ?_)
  refine aw_iload_n dX10_seen_9 rfl ?_
  refine aw_bipush (v := 8) dX10_seen_10 (by decide) ?_
  refine aw_S0c (As := [_, _]) dX10_seen_12 k10_100 rfl rfl (Nat.le_of_ble_eq_true rfl) ⟨⟨Nat.le_of_ble_eq_true rfl, Nat.le_of_ble_eq_true rfl⟩, ⟨Nat.le_of_ble_eq_true rfl, Nat.le_of_ble_eq_true rfl⟩⟩ ⟨rfl, rfl⟩ (w_within G ((nI p2)) (b := 8) (by omega)) (fun v h2 hq => ?_)
  obtain ⟨rfl, rfl⟩ := hq
  refine aw_if_eq_B (tgt := 27) dX10_seen_15 (by decide) (fun z => absurd z (fun q => q ((zok_nI (by omega)).mpr hp2))) (fun c15 => ?_)
  refine aw_iload_n dX10_seen_18 rfl ?_
  refine aw_bipush (v := 9) dX10_seen_19 (by decide) ?_
  refine aw_S0c (As := [_, _]) dX10_seen_21 k10_100 rfl rfl (Nat.le_of_ble_eq_true rfl) ⟨⟨Nat.le_of_ble_eq_true rfl, Nat.le_of_ble_eq_true rfl⟩, ⟨Nat.le_of_ble_eq_true rfl, Nat.le_of_ble_eq_true rfl⟩⟩ ⟨rfl, rfl⟩ (w_within G ((nI p3)) (b := 9) (by omega)) (fun v h2 hq => ?_)
  obtain ⟨rfl, rfl⟩ := hq
  refine aw_if_ne_B (tgt := 30) dX10_seen_24 (by decide) (fun c24 => ?_) (fun z => absurd z (fun q => q ((zok_nI (by omega)).mpr hp3)))
  refine aw_aload_n dX10_seen_30 rfl ?_
  refine aw_getR dX10_seen_31 f10_78 rfl ⟨Nat.le_of_ble_eq_true rfl, Nat.le_of_ble_eq_true rfl⟩ rfl rfl ?_
  refine aw_getI dX10_seen_34 f10_206 rfl ⟨Nat.le_of_ble_eq_true rfl, Nat.le_of_ble_eq_true rfl⟩ rfl ?_
  refine aw_top hG.1 ?_
  refine aw_bipush (v := 8) dX10_seen_37 (by decide) ?_
  refine aw_ic_lt_n (a := g 3 0) (b := 8) (tgt := 45) dX10_seen_39 (by decide) (by omega) (by omega) (fun z => absurd z (by omega)) (fun c39 => ?_)
  refine aw_bipush (v := -4) dX10_seen_42 (by decide) ?_
  refine aw_reti dX10_seen_44 rfl rfl ⟨Nat.le_of_ble_eq_true rfl, Nat.le_of_ble_eq_true rfl⟩ ?_
  exact ⟨rfl, _, _, _, rfl, hI, fun _ _ => rfl⟩
theorem zCI.cl {b0 b1 : Nat → Nat} {l0 l1 : Nat} {t u x y g g2 : Nat → Nat → Nat} {F S : Nat → Nat} {E : Nat → Nat → Int32} {fd : Int32} {I I2 : Nat → Nat → Int32} (h : zCI b0 b1 l0 l1 t u x y g F S E fd I) (hC : zCl g2 I2) (hF : ∀ o, (o < 64 ∨ 67 < o) → I2 o = I o) : zCI b0 b1 l0 l1 t u x y g2 F S E fd I2 := by
  obtain ⟨h1, h2, h3, ⟨s0, h4, h5⟩, ⟨t2, s2, h6⟩, h7, h8, h9⟩ := h
  exact ⟨h1.mv (hF 1 (by decide)) (hF 5 (by decide)) (hF 4 (by decide)), h2.mv (hF 2 (by decide)) (hF 7 (by decide)) (hF 6 (by decide)), h3.mv (fun o ho => hF o (by omega)), ⟨s0, h4, h5.mv2 (fun i hi => hF _ (by omega))⟩, ⟨t2, s2, h6.mv (fun o a b => hF o (by omega))⟩, hC, h8.mv (fun o a b => hF o (by omega)), by rw [hF 3 (by decide)]; exact h9⟩
theorem c_seen (G : aw_G) {n c : Nat} {I : Nat → Nat → Int32} {L : Nat → Nat → Int64} {b0 b1 : Nat → Nat} {l0 l1 : Nat} {t u x y V g : Nat → Nat → Nat} {kk : Nat} {F S : Nat → Nat} {E : Nat → Nat → Int32} {fd : Int32} (hX : zTx b0 b1 l0 l1 t u x y V kk) (hI : zCI b0 b1 l0 l1 t u x y g F S E fd I) {p1 p2 p3 : Nat} (hp1 : p1 < 40) (hp2 : p2 < 8) (hp3 : p3 < 9) (hn : g 3 0 < 8) : aw_Met G mX10_seen [.ref 3, .int (nI p1), .int (nI p2), .int (nI p3)] (zH n I L c) (fun v h2 => v = some (.int (nI (g 3 0 + 1))) ∧ ∃ I2 L2 c2, h2 = zH n I2 L2 c2 ∧ zCI b0 b1 l0 l1 t u x y (g_push g p1 p2 p3) F S E fd I2 ∧ ∀ o, 81 ≤ o → I2 o = I o) := by
  obtain ⟨hW, hC, hF, ⟨s0, hO, hR⟩, ⟨t2, s2, hD⟩, hG, hS, hfd⟩ := id hI
  obtain ⟨hP, h60, h61, htc, hV, hkk, hx, hy⟩ := id hX
  have h8 := hP.1.1
  have hk10 : kk ≤ 10 := by rw [hkk]; exact q_k_leW hW.1.2.2.2.2
  have hi6 : I 6 5 = nI (t 6 0) := by rw [h60]; exact hC.2.2
  have hi4 : I 4 5 = nI kk := by rw [hkk]; exact hW.2.2
  have hVo : f_Vok V kk := by rw [hV, hkk]; exact v_w_ok
  have hsm := zSame hP hO.1
  have hbd := zBd (m := z0) (u := u) hP.1 hP.2.2.2.1 hP.2.2.2.2.1 hP.2.2.2.2.2 hO.1
  have hS0 : p_play s0 t u x 0 0 = t 6 0 := hbd.1.1
  refine aw_Met.of okX10_seen (Nat.le_of_ble_eq_true rfl) ?_
  show aw_W G mX10_seen 0 [.ref 3, .int (nI p1), .int (nI p2), .int (nI p3)] [] (zH n I L c) (0, 0) _
  refine aw_iload_n dX10_seen_0 rfl ?_
  refine aw_bipush (v := 40) dX10_seen_1 (by decide) ?_
  refine aw_S0c (As := [_, _]) dX10_seen_3 k10_100 rfl rfl (Nat.le_of_ble_eq_true rfl) ⟨⟨Nat.le_of_ble_eq_true rfl, Nat.le_of_ble_eq_true rfl⟩, ⟨Nat.le_of_ble_eq_true rfl, Nat.le_of_ble_eq_true rfl⟩⟩ ⟨rfl, rfl⟩ (w_within G ((nI p1)) (b := 40) (by omega)) (fun v h2 hq => ?_)
  obtain ⟨rfl, rfl⟩ := hq
  refine aw_if_eq_B (tgt := 27) dX10_seen_6 (by decide) (fun z => absurd z (fun q => q ((zok_nI (by omega)).mpr hp1))) (fun c6 => ?_)
  refine aw_iload_n dX10_seen_9 rfl ?_
  refine aw_bipush (v := 8) dX10_seen_10 (by decide) ?_
  refine aw_S0c (As := [_, _]) dX10_seen_12 k10_100 rfl rfl (Nat.le_of_ble_eq_true rfl) ⟨⟨Nat.le_of_ble_eq_true rfl, Nat.le_of_ble_eq_true rfl⟩, ⟨Nat.le_of_ble_eq_true rfl, Nat.le_of_ble_eq_true rfl⟩⟩ ⟨rfl, rfl⟩ (w_within G ((nI p2)) (b := 8) (by omega)) (fun v h2 hq => ?_)
  obtain ⟨rfl, rfl⟩ := hq
  refine aw_if_eq_B (tgt := 27) dX10_seen_15 (by decide) (fun z => absurd z (fun q => q ((zok_nI (by omega)).mpr hp2))) (fun c15 => ?_)
  refine aw_iload_n dX10_seen_18 rfl ?_
  refine aw_bipush (v := 9) dX10_seen_19 (by decide) ?_
  refine aw_S0c (As := [_, _]) dX10_seen_21 k10_100 rfl rfl (Nat.le_of_ble_eq_true rfl) ⟨⟨Nat.le_of_ble_eq_true rfl, Nat.le_of_ble_eq_true rfl⟩, ⟨Nat.le_of_ble_eq_true rfl, Nat.le_of_ble_eq_true rfl⟩⟩ ⟨rfl, rfl⟩ (w_within G ((nI p3)) (b := 9) (by omega)) (fun v h2 hq => ?_)
  obtain ⟨rfl, rfl⟩ := hq
  refine aw_if_ne_B (tgt := 30) dX10_seen_24 (by decide) (fun c24 => ?_) (fun z => absurd z (fun q => q ((zok_nI (by omega)).mpr hp3)))
  refine aw_aload_n dX10_seen_30 rfl ?_
  refine aw_getR dX10_seen_31 f10_78 rfl ⟨Nat.le_of_ble_eq_true rfl, Nat.le_of_ble_eq_true rfl⟩ rfl rfl ?_
  refine aw_getI dX10_seen_34 f10_206 rfl ⟨Nat.le_of_ble_eq_true rfl, Nat.le_of_ble_eq_true rfl⟩ rfl ?_
  refine aw_top hG.1 ?_
  refine aw_bipush (v := 8) dX10_seen_37 (by decide) ?_
  refine aw_ic_lt_n (a := g 3 0) (b := 8) (tgt := 45) dX10_seen_39 (by decide) (by omega) (by omega) (fun c39 => ?_) (fun z => absurd z (by omega))
  refine aw_aload_n dX10_seen_45 rfl ?_
  refine aw_getR dX10_seen_46 f10_78 rfl ⟨Nat.le_of_ble_eq_true rfl, Nat.le_of_ble_eq_true rfl⟩ rfl rfl ?_
  refine aw_iload_n dX10_seen_49 rfl ?_
  refine aw_iload_n dX10_seen_50 rfl ?_
  refine aw_iload_n dX10_seen_51 rfl ?_
  refine aw_V0c (As := [_, _, _]) dX10_seen_52 k10_207 rfl rfl rfl ⟨Nat.le_of_ble_eq_true rfl, Nat.le_of_ble_eq_true rfl⟩ (Nat.le_of_ble_eq_true rfl) ⟨⟨Nat.le_of_ble_eq_true rfl, Nat.le_of_ble_eq_true rfl⟩, ⟨Nat.le_of_ble_eq_true rfl, Nat.le_of_ble_eq_true rfl⟩⟩ ⟨rfl, rfl⟩ (w_cPush G hG hn hp1 hp2 hp3) (fun v h2 hq => ?_)
  obtain ⟨rfl, I1, rfl, hC1, hF1, hF1b⟩ := hq
  refine aw_aload_n dX10_seen_55 rfl ?_
  refine aw_getR dX10_seen_56 f10_78 rfl ⟨Nat.le_of_ble_eq_true rfl, Nat.le_of_ble_eq_true rfl⟩ rfl rfl ?_
  refine aw_getI dX10_seen_59 f10_206 rfl ⟨Nat.le_of_ble_eq_true rfl, Nat.le_of_ble_eq_true rfl⟩ rfl ?_
  refine aw_top hC1.1 ?_
  refine aw_reti dX10_seen_62 rfl rfl ⟨Nat.le_of_ble_eq_true rfl, Nat.le_of_ble_eq_true rfl⟩ ?_
  exact ⟨rfl, _, _, _, rfl, hI.cl hC1 (fun o ho => hF1 o (by omega) (by omega) (by omega) (by omega)), fun o ho => hF1 o (by omega) (by omega) (by omega) (by omega)⟩
theorem zCl.no {g : Nat → Nat → Nat} {I : Nat → Nat → Int32} (h : zCl g I) : zCl (aw_u g 3 0 0) (aw_u I 64 9 (0 : Int32)) :=
  ⟨by rw [aw_u_eq, aw_u_eq]; rfl, by rw [aw_u_eq]; decide, fun i hi => by rw [aw_u_ne (by decide), aw_u_ne (by decide), aw_u_ne (by decide), aw_u_ne (by decide), aw_u_ne (by decide), aw_u_ne (by decide)]; exact h.2.2 i hi⟩
theorem c_forget (G : aw_G) {n c : Nat} {I : Nat → Nat → Int32} {L : Nat → Nat → Int64} {b0 b1 : Nat → Nat} {l0 l1 : Nat} {t u x y V g : Nat → Nat → Nat} {kk : Nat} {F S : Nat → Nat} {E : Nat → Nat → Int32} {fd : Int32} (hX : zTx b0 b1 l0 l1 t u x y V kk) (hI : zCI b0 b1 l0 l1 t u x y g F S E fd I)  : aw_Met G mX10_forget [.ref 3] (zH n I L c) (fun v h2 => v = some (.int (nI (g 3 0))) ∧ ∃ I2 L2 c2, h2 = zH n I2 L2 c2 ∧ zCI b0 b1 l0 l1 t u x y (aw_u g 3 0 0) F S E fd I2 ∧ ∀ o, 81 ≤ o → I2 o = I o) := by
  obtain ⟨hW, hC, hF, ⟨s0, hO, hR⟩, ⟨t2, s2, hD⟩, hG, hS, hfd⟩ := id hI
  obtain ⟨hP, h60, h61, htc, hV, hkk, hx, hy⟩ := id hX
  have h8 := hP.1.1
  have hk10 : kk ≤ 10 := by rw [hkk]; exact q_k_leW hW.1.2.2.2.2
  have hi6 : I 6 5 = nI (t 6 0) := by rw [h60]; exact hC.2.2
  have hi4 : I 4 5 = nI kk := by rw [hkk]; exact hW.2.2
  have hVo : f_Vok V kk := by rw [hV, hkk]; exact v_w_ok
  have hsm := zSame hP hO.1
  have hbd := zBd (m := z0) (u := u) hP.1 hP.2.2.2.1 hP.2.2.2.2.1 hP.2.2.2.2.2 hO.1
  have hS0 : p_play s0 t u x 0 0 = t 6 0 := hbd.1.1
  refine aw_Met.of okX10_forget (Nat.le_of_ble_eq_true rfl) ?_
  show aw_W G mX10_forget 0 [.ref 3, aw_x] [] (zH n I L c) (0, 0) _
  refine aw_aload_n dX10_forget_0 rfl ?_
  refine aw_getR dX10_forget_1 f10_78 rfl ⟨Nat.le_of_ble_eq_true rfl, Nat.le_of_ble_eq_true rfl⟩ rfl rfl ?_
  refine aw_getI dX10_forget_4 f10_206 rfl ⟨Nat.le_of_ble_eq_true rfl, Nat.le_of_ble_eq_true rfl⟩ rfl ?_
  refine aw_top hG.1 ?_
  refine aw_istore_n (ls2 := [_, _]) dX10_forget_7 (by decide) rfl rfl ?_
  refine aw_aload_n dX10_forget_8 rfl ?_
  refine aw_getR dX10_forget_9 f10_78 rfl ⟨Nat.le_of_ble_eq_true rfl, Nat.le_of_ble_eq_true rfl⟩ rfl rfl ?_
  refine aw_iconst (v := 0) dX10_forget_12 rfl ?_
  refine aw_putI dX10_forget_13 f10_206 rfl ⟨Nat.le_of_ble_eq_true rfl, Nat.le_of_ble_eq_true rfl⟩ (Or.inl rfl) rfl ?_
  refine aw_iload_n dX10_forget_16 rfl ?_
  refine aw_reti dX10_forget_17 rfl rfl ⟨Nat.le_of_ble_eq_true rfl, Nat.le_of_ble_eq_true rfl⟩ ?_
  exact ⟨rfl, _, _, _, rfl, hI.cl hG.no (fun o ho => aw_u_ne (by omega)), fun o ho => aw_u_ne (by omega)⟩
