/-! THE CLASS, asked -/
/-- sheets of the class: F: 0 lost, else the form, one higher; S: how many items; E: the items -/
def zShC (F S : Nat → Nat) (E I : Nat → Nat → Int32) : Prop := ∀ s, s < 4 → F s ≤ 3 ∧ S s ≤ 60 ∧ I (73 + 2 * s) 3 = (if F s = 0 then 1 else 0) ∧ (F s ≠ 0 → I (73 + 2 * s) 1 = nI (F s - 1) ∧ I (73 + 2 * s) 2 = nI (S s) ∧ ∀ i, i < S s → I (74 + 2 * s) i = E s i)
def zShM (F S : Nat → Nat) (E I : Nat → Nat → Int32) : Prop := ∀ s, s < 4 → I 82 s = nI (F s) - 1 ∧ (F s ≠ 0 → I 83 s = nI (S s) ∧ ∀ i, i < S s → I 84 (60 * s + i) = E s i)
def zCI (b0 b1 : Nat → Nat) (l0 l1 : Nat) (t u x y g : Nat → Nat → Nat) (F S : Nat → Nat) (E : Nat → Nat → Int32) (fd : Int32) (I : Nat → Nat → Int32) : Prop :=
  zTxW b0 l0 I ∧ zTxC b1 l1 I ∧ zFx t u x y I ∧ (∃ s0, zOk s0 ∧ zRun (p_play s0 t u x) 22 I I) ∧ (∃ t2 s2, zDy t2 s2 I I) ∧ zCl g I ∧ zShC F S E I ∧ I 3 9 = fd
def zMI (b0 b1 : Nat → Nat) (l0 l1 : Nat) (t u g : Nat → Nat → Nat) (F S : Nat → Nat) (E : Nat → Nat → Int32) (fd : Int32) (I : Nat → Nat → Int32) : Prop := zMs b0 b1 l0 l1 t u g I ∧ zShM F S E I ∧ I 81 4 = fd
theorem zShC.mv {F S : Nat → Nat} {E I I2 : Nat → Nat → Int32} (h : zShC F S E I) (hF : ∀ o, 73 ≤ o → o < 81 → I2 o = I o) : zShC F S E I2 := fun s hs => by
  rw [hF (73 + 2 * s) (by omega) (by omega), hF (74 + 2 * s) (by omega) (by omega)]
  exact h s hs
theorem zCI.dy {b0 b1 : Nat → Nat} {l0 l1 : Nat} {t u x y g t3 s3 : Nat → Nat → Nat} {F S : Nat → Nat} {E : Nat → Nat → Int32} {fd : Int32} {I I2 : Nat → Nat → Int32} (h : zCI b0 b1 l0 l1 t u x y g F S E fd I) (hD : zDy t3 s3 I I2) : zCI b0 b1 l0 l1 t u x y g F S E fd I2 := by
  obtain ⟨h1, h2, h3, ⟨s0, h4, h5⟩, -, h6, h7, h8⟩ := h
  have hF := hD.2.2.2.2.2
  exact ⟨h1.mv (hF.1 1 (by decide)) (hF.1 5 (by decide)) (hF.1 4 (by decide)), h2.mv (hF.1 2 (by decide)) (hF.1 7 (by decide)) (hF.1 6 (by decide)), h3.mv (fun o ho => hF.1 o (by omega)), ⟨s0, h4, h5.mv2 (fun i hi => hF.1 _ (by omega))⟩, ⟨t3, s3, hD.1, hD.2.1, hD.2.2.1, hD.2.2.2.1, hD.2.2.2.2.1, zFt.rfl _⟩, h6.mv hF, h7.mv (fun o h _ => hF.1 o (by omega)), by rw [hF.1 3 (by decide)]; exact h8⟩
theorem zDy.fr {t3 s3 : Nat → Nat → Nat} {I I2 : Nat → Nat → Int32} (hD : zDy t3 s3 I I2) : ∀ o, 81 ≤ o → I2 o = I o := fun o ho => hD.2.2.2.2.2.1 o (by omega)
/-- a run does not depend on what stood there before -/
theorem zSame {s t u x y : Nat → Nat → Nat} (hP : zPu t u x y) (hO : zOld s 8) :
    (∀ k, k < t 6 0 → p_play s t u x 6 k = o_st x u t k ∧ p_play s t u x 7 k = o_en x u t k ∧ ∀ g j, g < 40 → j < 4 → zOb (p_play s t u x) t k g j = zOb (p_play z0 t u x) t k g j) ∧ (∀ p, p < 8 → p_play s t u x 4 p = p_play z0 t u x 4 p) ∧ p_play s t u x 0 10 = p_play z0 t u x 0 10 ∧ p_play s t u x 0 11 = p_play z0 t u x 0 11 := by
  have h8 := hP.1.1
  have h4 : ∀ k, k < t 6 0 → t 5 k < 40 := fun k hk => hP.2.1 k (by omega)
  have a := zOut (u := u) (m := z0) hP.1 hP.2.2.2.1 hP.2.2.2.2.1 hP.2.2.2.2.2 hO z0_mo.1 h4
  have b := zOut (u := u) (m := z0) hP.1 hP.2.2.2.1 hP.2.2.2.2.1 hP.2.2.2.2.2 z0_old z0_mo.1 h4
  refine ⟨fun k hk => ⟨?_, ?_, fun g j hg hj => ?_⟩, fun p hp => ?_, ?_, ?_⟩
  · exact (a.1 k hk).1.symm.trans (b.1 k hk).1
  · exact (a.1 k hk).2.1.symm.trans (b.1 k hk).2.1
  · exact ((a.1 k hk).2.2.1 g j hg hj).symm.trans ((b.1 k hk).2.2.1 g j hg hj)
  · exact (a.2.1 p hp).trans (b.2.1 p hp).symm
  · exact a.2.2.1.trans b.2.2.1.symm
  · exact a.2.2.2.trans b.2.2.2.symm
theorem z_most_congr {f g : Nat → Nat} {i : Nat} (h : ∀ j, j < i → f j = g j) : z_most f i = z_most g i := by
  induction i with
  | zero => rfl
  | succ i ih => rw [z_most, z_most, ih (fun j hj => h j (by omega)), h i (by omega)]
/-- how far it is, one higher -/
def z_far (y : Nat → Nat → Nat) (p q : Nat) : Nat := if y 1 (8 * p + q) < 9999 then y 1 (8 * p + q) + 1 else 0
theorem z_far_x {V : Nat → Nat → Nat} {kk p q : Nat} (hV : f_Vok V kk) (hp : p < 8) (hq : q < 8) : (if f_x V kk 1 (8 * p + q) < 1000 then f_x V kk 1 (8 * p + q) + 1 else 0) = z_far (f_y V kk) p q := by
  unfold z_far
  rw [f_x1, f_y1]
  have h := f_e_R hV
  rcases f_R.fw h.1 h.2 (Nat.le_refl 8) (8 * p + q) (by omega) with ⟨e, l⟩ | ⟨e1, e2⟩
  · rw [e, if_pos (by omega), if_pos (by omega)]
  · rw [e1, e2, if_neg (by omega), if_neg (by omega)]
theorem z_sel_lt {f : Nat → Bool} {j : Nat} : z_sel f j < 3 := by
  unfold z_sel
  split
  · decide
  · split <;> decide
theorem z_al_cut {f : Nat → Bool} {p e : Nat → Nat} : z_al f (fun v => if v < 3 then p v else 0) (fun v => if v < 3 then e v else 0) = z_al f p e := by
  funext h
  unfold z_al
  exact z_mx_congr (fun a _ => zc_congr (fun b _ => by simp only [if_pos z_sel_lt]))
theorem zEr.cut {f : Nat → Bool} {p e : Nat → Nat} {I : Nat → Nat → Int32} (h : zEr f p e 3 I) : zEr f (fun v => if v < 3 then p v else 0) (fun v => if v < 3 then e v else 0) 3 I :=
  ⟨h.1, fun v hv hf => by simp only [if_pos hv]; exact h.2 v hv hf⟩
theorem o_bd2 {t u x y : Nat → Nat → Nat} {k : Nat} (hP : zPu t u x y) (hk : k < t 6 0) : ∀ v, (fun v => if v < 3 then o_pl x u (aw_u t 2 k v) k else 0) v < 8 ∧ (fun v => if v < 3 then o_en x u (aw_u t 2 k v) k else 0) v < 100000 := fun v => by
  show (if v < 3 then o_pl x u (aw_u t 2 k v) k else 0) < 8 ∧ (if v < 3 then o_en x u (aw_u t 2 k v) k else 0) < 100000
  by_cases hv : v < 3
  · rw [if_pos hv, if_pos hv]
    have hP1 : zPu (aw_u t 2 k v) u x y := hP.st (i := 2) (by decide) hv
    have h8 := hP.1.1
    have := (zBd (m := z0) (u := u) hP1.1 hP1.2.2.2.1 hP1.2.2.2.2.1 hP1.2.2.2.2.2 z0_old).1.2.2.2.1 k (by omega)
    exact ⟨this.2.2.1, by have := this.2.1; unfold o_en; omega⟩
  · rw [if_neg hv, if_neg hv]; decide
theorem w_textOf0 (G : aw_G) {n c : Nat} {I : Nat → Nat → Int32} {L : Nat → Nat → Int64} : aw_Met G mX10_textOf [.ref 3, .int 0] (zH n I L c) (fun v h2 => v = some (.ref 4) ∧ h2 = zH n I L c) := by
  refine aw_Met.of okX10_textOf (Nat.le_of_ble_eq_true rfl) ?_
  show aw_W G mX10_textOf 0 [.ref 3, .int 0] [] (zH n I L c) (0, 0) _
  refine aw_iload_n dX10_textOf_0 rfl ?_
  refine aw_if_ne (tgt := 11) dX10_textOf_1 (by decide) (fun z => absurd (by decide) z) (fun _ => ?_)
  refine aw_aload_n dX10_textOf_4 rfl ?_
  refine aw_getR dX10_textOf_5 f10_18 rfl ⟨Nat.le_of_ble_eq_true rfl, Nat.le_of_ble_eq_true rfl⟩ rfl rfl ?_
  refine aw_goto (tgt := 15) dX10_textOf_8 (by decide) ?_
  refine aw_reta dX10_textOf_15 rfl ⟨Nat.le_of_ble_eq_true rfl, Nat.le_of_ble_eq_true rfl⟩ ?_
  exact ⟨rfl, rfl⟩
theorem c_fault0 (G : aw_G) {n c : Nat} {I : Nat → Nat → Int32} {L : Nat → Nat → Int64} {b0 b1 : Nat → Nat} {l0 l1 : Nat} {t u x y V g : Nat → Nat → Nat} {kk : Nat} {F S : Nat → Nat} {E : Nat → Nat → Int32} {fd : Int32} (hX : zTx b0 b1 l0 l1 t u x y V kk) (hI : zCI b0 b1 l0 l1 t u x y g F S E fd I)  : aw_Met G mX10_fault [.ref 3, .int 0] (zH n I L c) (fun v h2 => v = some (.int (nI (q_f (q_w b0) 5 l0) - 1)) ∧ ∃ I2 L2 c2, h2 = zH n I2 L2 c2 ∧ zCI b0 b1 l0 l1 t u x y g F S E fd I2 ∧ ∀ o, 81 ≤ o → I2 o = I o) := by
  obtain ⟨hW, hC, hF, ⟨s0, hO, hR⟩, ⟨t2, s2, hD⟩, hG, hS, hfd⟩ := id hI
  obtain ⟨hP, h60, h61, htc, hV, hkk, hx, hy⟩ := id hX
  have h8 := hP.1.1
  have hk10 : kk ≤ 10 := by rw [hkk]; exact q_k_leW hW.1.2.2.2.2
  have hi6 : I 6 5 = nI (t 6 0) := by rw [h60]; exact hC.2.2
  have hi4 : I 4 5 = nI kk := by rw [hkk]; exact hW.2.2
  have hVo : f_Vok V kk := by rw [hV, hkk]; exact v_w_ok
  have hsm := zSame hP hO.1
  have hbd := zBd (m := z0) (u := u) hP.1 hP.2.2.2.1 hP.2.2.2.2.1 hP.2.2.2.2.2 hO.1
  have hS0 : p_play s0 t u x 0 0 = t 6 0 := hbd.1.1
  refine aw_Met.of okX10_fault (Nat.le_of_ble_eq_true rfl) ?_
  show aw_W G mX10_fault 0 [.ref 3, .int 0] [] (zH n I L c) (0, 0) _
  refine aw_iload_n dX10_fault_0 rfl ?_
  refine aw_iconst (v := 2) dX10_fault_1 rfl ?_
  refine aw_S0c (As := [_, _]) dX10_fault_2 k10_100 rfl rfl (Nat.le_of_ble_eq_true rfl) ⟨⟨Nat.le_of_ble_eq_true rfl, Nat.le_of_ble_eq_true rfl⟩, ⟨Nat.le_of_ble_eq_true rfl, Nat.le_of_ble_eq_true rfl⟩⟩ ⟨rfl, rfl⟩ (w_within G 0 (b := 2) (by decide)) (fun v h2 hq => ?_)
  obtain ⟨rfl, rfl⟩ := hq
  refine aw_if_eq_B (tgt := 19) dX10_fault_5 (by decide) (fun z => absurd z (fun q => q (by decide))) (fun c5 => ?_)
  refine aw_aload_n dX10_fault_8 rfl ?_
  refine aw_iload_n dX10_fault_9 rfl ?_
  refine aw_V0c (As := [_]) dX10_fault_10 k10_104 rfl rfl rfl ⟨Nat.le_of_ble_eq_true rfl, Nat.le_of_ble_eq_true rfl⟩ (Nat.le_of_ble_eq_true rfl) ⟨⟨Nat.le_of_ble_eq_true rfl, Nat.le_of_ble_eq_true rfl⟩, ⟨Nat.le_of_ble_eq_true rfl, Nat.le_of_ble_eq_true rfl⟩⟩ ⟨rfl, rfl⟩ (w_textOf0 G) (fun v h2 hq => ?_)
  obtain ⟨rfl, rfl⟩ := hq
  refine aw_getI dX10_fault_13 f10_125 rfl ⟨Nat.le_of_ble_eq_true rfl, Nat.le_of_ble_eq_true rfl⟩ rfl ?_
  refine aw_top hW.2.1 ?_
  refine aw_goto (tgt := 21) dX10_fault_16 (by decide) ?_
  refine aw_reti dX10_fault_21 rfl rfl ⟨Nat.le_of_ble_eq_true rfl, Nat.le_of_ble_eq_true rfl⟩ ?_
  exact ⟨rfl, _, _, _, rfl, hI, fun _ _ => rfl⟩
theorem w_textOf1 (G : aw_G) {n c : Nat} {I : Nat → Nat → Int32} {L : Nat → Nat → Int64} : aw_Met G mX10_textOf [.ref 3, .int 1] (zH n I L c) (fun v h2 => v = some (.ref 6) ∧ h2 = zH n I L c) := by
  refine aw_Met.of okX10_textOf (Nat.le_of_ble_eq_true rfl) ?_
  show aw_W G mX10_textOf 0 [.ref 3, .int 1] [] (zH n I L c) (0, 0) _
  refine aw_iload_n dX10_textOf_0 rfl ?_
  refine aw_if_ne (tgt := 11) dX10_textOf_1 (by decide) (fun _ => ?_) (fun z => absurd z (by decide))
  refine aw_aload_n dX10_textOf_11 rfl ?_
  refine aw_getR dX10_textOf_12 f10_25 rfl ⟨Nat.le_of_ble_eq_true rfl, Nat.le_of_ble_eq_true rfl⟩ rfl rfl ?_
  refine aw_reta dX10_textOf_15 rfl ⟨Nat.le_of_ble_eq_true rfl, Nat.le_of_ble_eq_true rfl⟩ ?_
  exact ⟨rfl, rfl⟩
theorem c_fault1 (G : aw_G) {n c : Nat} {I : Nat → Nat → Int32} {L : Nat → Nat → Int64} {b0 b1 : Nat → Nat} {l0 l1 : Nat} {t u x y V g : Nat → Nat → Nat} {kk : Nat} {F S : Nat → Nat} {E : Nat → Nat → Int32} {fd : Int32} (hX : zTx b0 b1 l0 l1 t u x y V kk) (hI : zCI b0 b1 l0 l1 t u x y g F S E fd I)  : aw_Met G mX10_fault [.ref 3, .int 1] (zH n I L c) (fun v h2 => v = some (.int (nI (q_f (q_c b1) 7 l1) - 1)) ∧ ∃ I2 L2 c2, h2 = zH n I2 L2 c2 ∧ zCI b0 b1 l0 l1 t u x y g F S E fd I2 ∧ ∀ o, 81 ≤ o → I2 o = I o) := by
  obtain ⟨hW, hC, hF, ⟨s0, hO, hR⟩, ⟨t2, s2, hD⟩, hG, hS, hfd⟩ := id hI
  obtain ⟨hP, h60, h61, htc, hV, hkk, hx, hy⟩ := id hX
  have h8 := hP.1.1
  have hk10 : kk ≤ 10 := by rw [hkk]; exact q_k_leW hW.1.2.2.2.2
  have hi6 : I 6 5 = nI (t 6 0) := by rw [h60]; exact hC.2.2
  have hi4 : I 4 5 = nI kk := by rw [hkk]; exact hW.2.2
  have hVo : f_Vok V kk := by rw [hV, hkk]; exact v_w_ok
  have hsm := zSame hP hO.1
  have hbd := zBd (m := z0) (u := u) hP.1 hP.2.2.2.1 hP.2.2.2.2.1 hP.2.2.2.2.2 hO.1
  have hS0 : p_play s0 t u x 0 0 = t 6 0 := hbd.1.1
  refine aw_Met.of okX10_fault (Nat.le_of_ble_eq_true rfl) ?_
  show aw_W G mX10_fault 0 [.ref 3, .int 1] [] (zH n I L c) (0, 0) _
  refine aw_iload_n dX10_fault_0 rfl ?_
  refine aw_iconst (v := 2) dX10_fault_1 rfl ?_
  refine aw_S0c (As := [_, _]) dX10_fault_2 k10_100 rfl rfl (Nat.le_of_ble_eq_true rfl) ⟨⟨Nat.le_of_ble_eq_true rfl, Nat.le_of_ble_eq_true rfl⟩, ⟨Nat.le_of_ble_eq_true rfl, Nat.le_of_ble_eq_true rfl⟩⟩ ⟨rfl, rfl⟩ (w_within G 1 (b := 2) (by decide)) (fun v h2 hq => ?_)
  obtain ⟨rfl, rfl⟩ := hq
  refine aw_if_eq_B (tgt := 19) dX10_fault_5 (by decide) (fun z => absurd z (fun q => q (by decide))) (fun c5 => ?_)
  refine aw_aload_n dX10_fault_8 rfl ?_
  refine aw_iload_n dX10_fault_9 rfl ?_
  refine aw_V0c (As := [_]) dX10_fault_10 k10_104 rfl rfl rfl ⟨Nat.le_of_ble_eq_true rfl, Nat.le_of_ble_eq_true rfl⟩ (Nat.le_of_ble_eq_true rfl) ⟨⟨Nat.le_of_ble_eq_true rfl, Nat.le_of_ble_eq_true rfl⟩, ⟨Nat.le_of_ble_eq_true rfl, Nat.le_of_ble_eq_true rfl⟩⟩ ⟨rfl, rfl⟩ (w_textOf1 G) (fun v h2 hq => ?_)
  obtain ⟨rfl, rfl⟩ := hq
  refine aw_getI dX10_fault_13 f10_125 rfl ⟨Nat.le_of_ble_eq_true rfl, Nat.le_of_ble_eq_true rfl⟩ rfl ?_
  refine aw_top hC.2.1 ?_
  refine aw_goto (tgt := 21) dX10_fault_16 (by decide) ?_
  refine aw_reti dX10_fault_21 rfl rfl ⟨Nat.le_of_ble_eq_true rfl, Nat.le_of_ble_eq_true rfl⟩ ?_
  exact ⟨rfl, _, _, _, rfl, hI, fun _ _ => rfl⟩
theorem c_faultB (G : aw_G) {n c : Nat} {I : Nat → Nat → Int32} {L : Nat → Nat → Int64} {b0 b1 : Nat → Nat} {l0 l1 : Nat} {t u x y V g : Nat → Nat → Nat} {kk : Nat} {F S : Nat → Nat} {E : Nat → Nat → Int32} {fd : Int32} (hX : zTx b0 b1 l0 l1 t u x y V kk) (hI : zCI b0 b1 l0 l1 t u x y g F S E fd I) {a1 : Int32} (hz : ¬ zok a1 2) : aw_Met G mX10_fault [.ref 3, .int a1] (zH n I L c) (fun v h2 => v = some (.int (-2)) ∧ ∃ I2 L2 c2, h2 = zH n I2 L2 c2 ∧ zCI b0 b1 l0 l1 t u x y g F S E fd I2 ∧ ∀ o, 81 ≤ o → I2 o = I o) := by
  obtain ⟨hW, hC, hF, ⟨s0, hO, hR⟩, ⟨t2, s2, hD⟩, hG, hS, hfd⟩ := id hI
  obtain ⟨hP, h60, h61, htc, hV, hkk, hx, hy⟩ := id hX
  have h8 := hP.1.1
  have hk10 : kk ≤ 10 := by rw [hkk]; exact q_k_leW hW.1.2.2.2.2
  have hi6 : I 6 5 = nI (t 6 0) := by rw [h60]; exact hC.2.2
  have hi4 : I 4 5 = nI kk := by rw [hkk]; exact hW.2.2
  have hVo : f_Vok V kk := by rw [hV, hkk]; exact v_w_ok
  have hsm := zSame hP hO.1
  have hbd := zBd (m := z0) (u := u) hP.1 hP.2.2.2.1 hP.2.2.2.2.1 hP.2.2.2.2.2 hO.1
  have hS0 : p_play s0 t u x 0 0 = t 6 0 := hbd.1.1
  refine aw_Met.of okX10_fault (Nat.le_of_ble_eq_true rfl) ?_
  show aw_W G mX10_fault 0 [.ref 3, .int a1] [] (zH n I L c) (0, 0) _
  refine aw_iload_n dX10_fault_0 rfl ?_
  refine aw_iconst (v := 2) dX10_fault_1 rfl ?_
  refine aw_S0c (As := [_, _]) dX10_fault_2 k10_100 rfl rfl (Nat.le_of_ble_eq_true rfl) ⟨⟨Nat.le_of_ble_eq_true rfl, Nat.le_of_ble_eq_true rfl⟩, ⟨Nat.le_of_ble_eq_true rfl, Nat.le_of_ble_eq_true rfl⟩⟩ ⟨rfl, rfl⟩ (w_within G a1 (b := 2) (by omega)) (fun v h2 hq => ?_)
  obtain ⟨rfl, rfl⟩ := hq
  refine aw_if_eq_B (tgt := 19) dX10_fault_5 (by decide) (fun c5 => ?_) (fun z => absurd z hz)
  refine aw_bipush (v := -2) dX10_fault_19 (by decide) ?_
  refine aw_reti dX10_fault_21 rfl rfl ⟨Nat.le_of_ble_eq_true rfl, Nat.le_of_ble_eq_true rfl⟩ ?_
  exact ⟨rfl, _, _, _, rfl, hI, fun _ _ => rfl⟩
theorem c_fault (G : aw_G) {n c : Nat} {I : Nat → Nat → Int32} {L : Nat → Nat → Int64} {b0 b1 : Nat → Nat} {l0 l1 : Nat} {t u x y V g : Nat → Nat → Nat} {kk : Nat} {F S : Nat → Nat} {E : Nat → Nat → Int32} {fd : Int32} (hX : zTx b0 b1 l0 l1 t u x y V kk) (hI : zCI b0 b1 l0 l1 t u x y g F S E fd I) {a1 : Int32} : aw_Met G mX10_fault [.ref 3, .int a1] (zH n I L c) (fun v h2 => v = some (.int (if zok a1 2 then (if zt a1 = 0 then nI (q_f (q_w b0) 5 l0) - 1 else nI (q_f (q_c b1) 7 l1) - 1) else -2)) ∧ ∃ I2 L2 c2, h2 = zH n I2 L2 c2 ∧ zCI b0 b1 l0 l1 t u x y g F S E fd I2 ∧ ∀ o, 81 ≤ o → I2 o = I o) := by
  by_cases h : zok a1 2
  · obtain ⟨p, hp, rfl⟩ := zok_ex h
    have h' : p = 0 ∨ p = 1 := by omega
    rcases h' with rfl | rfl
    · rw [if_pos h, zt_nI (by decide), if_pos rfl]; exact c_fault0 G hX hI
    · rw [if_pos h, zt_nI (by decide), if_neg (by decide)]; exact c_fault1 G hX hI
  · rw [if_neg h]; exact c_faultB G hX hI h
theorem c_way (G : aw_G) {n c : Nat} {I : Nat → Nat → Int32} {L : Nat → Nat → Int64} {b0 b1 : Nat → Nat} {l0 l1 : Nat} {t u x y V g : Nat → Nat → Nat} {kk : Nat} {F S : Nat → Nat} {E : Nat → Nat → Int32} {fd : Int32} (hX : zTx b0 b1 l0 l1 t u x y V kk) (hI : zCI b0 b1 l0 l1 t u x y g F S E fd I) {a1 : Int32} {a2 : Int32} : aw_Met G mX10_way [.ref 3, .int a1, .int a2] (zH n I L c) (fun v h2 => v = some (.int (if zok a1 kk ∧ zok a2 4 then nI (V (zt a1) (zt a2)) else -2)) ∧ ∃ I2 L2 c2, h2 = zH n I2 L2 c2 ∧ zCI b0 b1 l0 l1 t u x y g F S E fd I2 ∧ ∀ o, 81 ≤ o → I2 o = I o) := by
  obtain ⟨hW, hC, hF, ⟨s0, hO, hR⟩, ⟨t2, s2, hD⟩, hG, hS, hfd⟩ := id hI
  obtain ⟨hP, h60, h61, htc, hV, hkk, hx, hy⟩ := id hX
  have h8 := hP.1.1
  have hk10 : kk ≤ 10 := by rw [hkk]; exact q_k_leW hW.1.2.2.2.2
  have hi6 : I 6 5 = nI (t 6 0) := by rw [h60]; exact hC.2.2
  have hi4 : I 4 5 = nI kk := by rw [hkk]; exact hW.2.2
  have hVo : f_Vok V kk := by rw [hV, hkk]; exact v_w_ok
  have hsm := zSame hP hO.1
  have hbd := zBd (m := z0) (u := u) hP.1 hP.2.2.2.1 hP.2.2.2.2.1 hP.2.2.2.2.2 hO.1
  have hS0 : p_play s0 t u x 0 0 = t 6 0 := hbd.1.1
  refine aw_Met.of okX10_way (Nat.le_of_ble_eq_true rfl) ?_
  show aw_W G mX10_way 0 [.ref 3, .int a1, .int a2] [] (zH n I L c) (0, 0) _
  refine aw_iload_n dX10_way_0 rfl ?_
  refine aw_aload_n dX10_way_1 rfl ?_
  refine aw_getR dX10_way_2 f10_18 rfl ⟨Nat.le_of_ble_eq_true rfl, Nat.le_of_ble_eq_true rfl⟩ rfl rfl ?_
  refine aw_getI dX10_way_5 f10_128 rfl ⟨Nat.le_of_ble_eq_true rfl, Nat.le_of_ble_eq_true rfl⟩ rfl ?_
  refine aw_top hi4 ?_
  refine aw_S0c (As := [_, _]) dX10_way_8 k10_100 rfl rfl (Nat.le_of_ble_eq_true rfl) ⟨⟨Nat.le_of_ble_eq_true rfl, Nat.le_of_ble_eq_true rfl⟩, ⟨Nat.le_of_ble_eq_true rfl, Nat.le_of_ble_eq_true rfl⟩⟩ ⟨rfl, rfl⟩ (w_within G a1 (b := kk) (by omega)) (fun v h2 hq => ?_)
  obtain ⟨rfl, rfl⟩ := hq
  refine aw_if_eq_B (tgt := 34) dX10_way_11 (by decide) (fun c11 => ?_) (fun c11 => ?_)
  · refine aw_bipush (v := -2) dX10_way_34 (by decide) ?_
    refine aw_reti dX10_way_36 rfl rfl ⟨Nat.le_of_ble_eq_true rfl, Nat.le_of_ble_eq_true rfl⟩ ?_
    refine ⟨by rw [if_neg (fun z => c11 z.1)], _, _, _, rfl, hI, fun _ _ => rfl⟩
  · obtain ⟨p1, hp1, rfl⟩ := zok_ex c11
    refine aw_iload_n dX10_way_14 rfl ?_
    refine aw_iconst (v := 4) dX10_way_15 rfl ?_
    refine aw_S0c (As := [_, _]) dX10_way_16 k10_100 rfl rfl (Nat.le_of_ble_eq_true rfl) ⟨⟨Nat.le_of_ble_eq_true rfl, Nat.le_of_ble_eq_true rfl⟩, ⟨Nat.le_of_ble_eq_true rfl, Nat.le_of_ble_eq_true rfl⟩⟩ ⟨rfl, rfl⟩ (w_within G a2 (b := 4) (by omega)) (fun v h2 hq => ?_)
    obtain ⟨rfl, rfl⟩ := hq
    refine aw_if_eq_B (tgt := 34) dX10_way_19 (by decide) (fun c19 => ?_) (fun c19 => ?_)
    · refine aw_bipush (v := -2) dX10_way_34 (by decide) ?_
      refine aw_reti dX10_way_36 rfl rfl ⟨Nat.le_of_ble_eq_true rfl, Nat.le_of_ble_eq_true rfl⟩ ?_
      refine ⟨by rw [if_neg (fun z => c19 z.2)], _, _, _, rfl, hI, fun _ _ => rfl⟩
    · obtain ⟨p2, hp2, rfl⟩ := zok_ex c19
      refine aw_aload_n dX10_way_22 rfl ?_
      refine aw_getR dX10_way_23 f10_18 rfl ⟨Nat.le_of_ble_eq_true rfl, Nat.le_of_ble_eq_true rfl⟩ rfl rfl ?_
      refine aw_iload_n dX10_way_26 rfl ?_
      refine aw_iload_n dX10_way_27 rfl ?_
      refine aw_V0c (As := [_, _]) dX10_way_28 k10_131 rfl rfl rfl ⟨Nat.le_of_ble_eq_true rfl, Nat.le_of_ble_eq_true rfl⟩ (Nat.le_of_ble_eq_true rfl) ⟨⟨Nat.le_of_ble_eq_true rfl, Nat.le_of_ble_eq_true rfl⟩, ⟨Nat.le_of_ble_eq_true rfl, Nat.le_of_ble_eq_true rfl⟩⟩ ⟨rfl, rfl⟩ (w_numW G hW.1 (by rw [← hkk]; exact hp1) hp2) (fun v h2 hq => ?_)
      obtain ⟨rfl, rfl⟩ := hq
      rw [← hV]
      refine aw_goto (tgt := 36) dX10_way_31 (by decide) ?_
      refine aw_reti dX10_way_36 rfl rfl ⟨Nat.le_of_ble_eq_true rfl, Nat.le_of_ble_eq_true rfl⟩ ?_
      exact ⟨by rw [if_pos ⟨c11, c19⟩, zt_nI (show p1 < 2147483648 by omega), zt_nI (show p2 < 2147483648 by omega)], _, _, _, rfl, hI, fun _ _ => rfl⟩
theorem c_carter (G : aw_G) {n c : Nat} {I : Nat → Nat → Int32} {L : Nat → Nat → Int64} {b0 b1 : Nat → Nat} {l0 l1 : Nat} {t u x y V g : Nat → Nat → Nat} {kk : Nat} {F S : Nat → Nat} {E : Nat → Nat → Int32} {fd : Int32} (hX : zTx b0 b1 l0 l1 t u x y V kk) (hI : zCI b0 b1 l0 l1 t u x y g F S E fd I) {a1 : Int32} {a2 : Int32} : aw_Met G mX10_carter [.ref 3, .int a1, .int a2] (zH n I L c) (fun v h2 => v = some (.int (if zok a1 (t 6 0) ∧ zok a2 5 then nI (t (zt a2) (zt a1)) else -2)) ∧ ∃ I2 L2 c2, h2 = zH n I2 L2 c2 ∧ zCI b0 b1 l0 l1 t u x y g F S E fd I2 ∧ ∀ o, 81 ≤ o → I2 o = I o) := by
  obtain ⟨hW, hC, hF, ⟨s0, hO, hR⟩, ⟨t2, s2, hD⟩, hG, hS, hfd⟩ := id hI
  obtain ⟨hP, h60, h61, htc, hV, hkk, hx, hy⟩ := id hX
  have h8 := hP.1.1
  have hk10 : kk ≤ 10 := by rw [hkk]; exact q_k_leW hW.1.2.2.2.2
  have hi6 : I 6 5 = nI (t 6 0) := by rw [h60]; exact hC.2.2
  have hi4 : I 4 5 = nI kk := by rw [hkk]; exact hW.2.2
  have hVo : f_Vok V kk := by rw [hV, hkk]; exact v_w_ok
  have hsm := zSame hP hO.1
  have hbd := zBd (m := z0) (u := u) hP.1 hP.2.2.2.1 hP.2.2.2.2.1 hP.2.2.2.2.2 hO.1
  have hS0 : p_play s0 t u x 0 0 = t 6 0 := hbd.1.1
  refine aw_Met.of okX10_carter (Nat.le_of_ble_eq_true rfl) ?_
  show aw_W G mX10_carter 0 [.ref 3, .int a1, .int a2] [] (zH n I L c) (0, 0) _
  refine aw_aload_n dX10_carter_0 rfl ?_
  refine aw_iload_n dX10_carter_1 rfl ?_
  refine aw_V0c (As := [_]) dX10_carter_2 k10_135 rfl rfl rfl ⟨Nat.le_of_ble_eq_true rfl, Nat.le_of_ble_eq_true rfl⟩ (Nat.le_of_ble_eq_true rfl) ⟨⟨Nat.le_of_ble_eq_true rfl, Nat.le_of_ble_eq_true rfl⟩, ⟨Nat.le_of_ble_eq_true rfl, Nat.le_of_ble_eq_true rfl⟩⟩ ⟨rfl, rfl⟩ (w_cIsCarter G a1 hi6 h8) (fun v h2 hq => ?_)
  obtain ⟨rfl, rfl⟩ := hq
  refine aw_if_eq_B (tgt := 28) dX10_carter_5 (by decide) (fun c5 => ?_) (fun c5 => ?_)
  · refine aw_bipush (v := -2) dX10_carter_28 (by decide) ?_
    refine aw_reti dX10_carter_30 rfl rfl ⟨Nat.le_of_ble_eq_true rfl, Nat.le_of_ble_eq_true rfl⟩ ?_
    refine ⟨by rw [if_neg (fun z => c5 z.1)], _, _, _, rfl, hI, fun _ _ => rfl⟩
  · obtain ⟨p1, hp1, rfl⟩ := zok_ex c5
    refine aw_iload_n dX10_carter_8 rfl ?_
    refine aw_iconst (v := 5) dX10_carter_9 rfl ?_
    refine aw_S0c (As := [_, _]) dX10_carter_10 k10_100 rfl rfl (Nat.le_of_ble_eq_true rfl) ⟨⟨Nat.le_of_ble_eq_true rfl, Nat.le_of_ble_eq_true rfl⟩, ⟨Nat.le_of_ble_eq_true rfl, Nat.le_of_ble_eq_true rfl⟩⟩ ⟨rfl, rfl⟩ (w_within G a2 (b := 5) (by omega)) (fun v h2 hq => ?_)
    obtain ⟨rfl, rfl⟩ := hq
    refine aw_if_eq_B (tgt := 28) dX10_carter_13 (by decide) (fun c13 => ?_) (fun c13 => ?_)
    · refine aw_bipush (v := -2) dX10_carter_28 (by decide) ?_
      refine aw_reti dX10_carter_30 rfl rfl ⟨Nat.le_of_ble_eq_true rfl, Nat.le_of_ble_eq_true rfl⟩ ?_
      refine ⟨by rw [if_neg (fun z => c13 z.2)], _, _, _, rfl, hI, fun _ _ => rfl⟩
    · obtain ⟨p2, hp2, rfl⟩ := zok_ex c13
      refine aw_aload_n dX10_carter_16 rfl ?_
      refine aw_getR dX10_carter_17 f10_43 rfl ⟨Nat.le_of_ble_eq_true rfl, Nat.le_of_ble_eq_true rfl⟩ rfl rfl ?_
      refine aw_iload_n dX10_carter_20 rfl ?_
      refine aw_iload_n dX10_carter_21 rfl ?_
      refine aw_V0c (As := [_, _]) dX10_carter_22 k10_139 rfl rfl rfl ⟨Nat.le_of_ble_eq_true rfl, Nat.le_of_ble_eq_true rfl⟩ (Nat.le_of_ble_eq_true rfl) ⟨⟨Nat.le_of_ble_eq_true rfl, Nat.le_of_ble_eq_true rfl⟩, ⟨Nat.le_of_ble_eq_true rfl, Nat.le_of_ble_eq_true rfl⟩⟩ ⟨rfl, rfl⟩ (w_part G hF.1 (by omega) hp2) (fun v h2 hq => ?_)
      obtain ⟨rfl, rfl⟩ := hq
      refine aw_goto (tgt := 30) dX10_carter_25 (by decide) ?_
      refine aw_reti dX10_carter_30 rfl rfl ⟨Nat.le_of_ble_eq_true rfl, Nat.le_of_ble_eq_true rfl⟩ ?_
      exact ⟨by rw [if_pos ⟨c5, c13⟩, zt_nI (show p2 < 2147483648 by omega), zt_nI (show p1 < 2147483648 by omega)], _, _, _, rfl, hI, fun _ _ => rfl⟩
theorem c_at (G : aw_G) {n c : Nat} {I : Nat → Nat → Int32} {L : Nat → Nat → Int64} {b0 b1 : Nat → Nat} {l0 l1 : Nat} {t u x y V g : Nat → Nat → Nat} {kk : Nat} {F S : Nat → Nat} {E : Nat → Nat → Int32} {fd : Int32} (hX : zTx b0 b1 l0 l1 t u x y V kk) (hI : zCI b0 b1 l0 l1 t u x y g F S E fd I) {a1 : Int32} {a2 : Int32} {a3 : Int32} : aw_Met G mX10_at [.ref 3, .int a1, .int a2, .int a3] (zH n I L c) (fun v h2 => v = some (.int (if zok a1 40 ∧ zok a2 (t 6 0) ∧ zok a3 4 then mE 6 (zt a3) (zOb (p_play z0 t u x) t (zt a2) (zt a1) (zt a3)) else -2)) ∧ ∃ I2 L2 c2, h2 = zH n I2 L2 c2 ∧ zCI b0 b1 l0 l1 t u x y g F S E fd I2 ∧ ∀ o, 81 ≤ o → I2 o = I o) := by
  obtain ⟨hW, hC, hF, ⟨s0, hO, hR⟩, ⟨t2, s2, hD⟩, hG, hS, hfd⟩ := id hI
  obtain ⟨hP, h60, h61, htc, hV, hkk, hx, hy⟩ := id hX
  have h8 := hP.1.1
  have hk10 : kk ≤ 10 := by rw [hkk]; exact q_k_leW hW.1.2.2.2.2
  have hi6 : I 6 5 = nI (t 6 0) := by rw [h60]; exact hC.2.2
  have hi4 : I 4 5 = nI kk := by rw [hkk]; exact hW.2.2
  have hVo : f_Vok V kk := by rw [hV, hkk]; exact v_w_ok
  have hsm := zSame hP hO.1
  have hbd := zBd (m := z0) (u := u) hP.1 hP.2.2.2.1 hP.2.2.2.2.1 hP.2.2.2.2.2 hO.1
  have hS0 : p_play s0 t u x 0 0 = t 6 0 := hbd.1.1
  refine aw_Met.of okX10_at (Nat.le_of_ble_eq_true rfl) ?_
  show aw_W G mX10_at 0 [.ref 3, .int a1, .int a2, .int a3] [] (zH n I L c) (0, 0) _
  refine aw_iload_n dX10_at_0 rfl ?_
  refine aw_bipush (v := 40) dX10_at_1 (by decide) ?_
  refine aw_S0c (As := [_, _]) dX10_at_3 k10_100 rfl rfl (Nat.le_of_ble_eq_true rfl) ⟨⟨Nat.le_of_ble_eq_true rfl, Nat.le_of_ble_eq_true rfl⟩, ⟨Nat.le_of_ble_eq_true rfl, Nat.le_of_ble_eq_true rfl⟩⟩ ⟨rfl, rfl⟩ (w_within G a1 (b := 40) (by omega)) (fun v h2 hq => ?_)
  obtain ⟨rfl, rfl⟩ := hq
  refine aw_if_eq_B (tgt := 25) dX10_at_6 (by decide) (fun c6 => ?_) (fun c6 => ?_)
  · refine aw_bipush (v := -2) dX10_at_25 (by decide) ?_
    refine aw_reti dX10_at_27 rfl rfl ⟨Nat.le_of_ble_eq_true rfl, Nat.le_of_ble_eq_true rfl⟩ ?_
    refine ⟨by rw [if_neg (fun z => c6 z.1)], _, _, _, rfl, hI, fun _ _ => rfl⟩
  · obtain ⟨p1, hp1, rfl⟩ := zok_ex c6
    refine aw_aload_n dX10_at_9 rfl ?_
    refine aw_iload_n dX10_at_10 rfl ?_
    refine aw_V0c (As := [_]) dX10_at_11 k10_135 rfl rfl rfl ⟨Nat.le_of_ble_eq_true rfl, Nat.le_of_ble_eq_true rfl⟩ (Nat.le_of_ble_eq_true rfl) ⟨⟨Nat.le_of_ble_eq_true rfl, Nat.le_of_ble_eq_true rfl⟩, ⟨Nat.le_of_ble_eq_true rfl, Nat.le_of_ble_eq_true rfl⟩⟩ ⟨rfl, rfl⟩ (w_cIsCarter G a2 hi6 h8) (fun v h2 hq => ?_)
    obtain ⟨rfl, rfl⟩ := hq
    refine aw_if_eq_B (tgt := 25) dX10_at_14 (by decide) (fun c14 => ?_) (fun c14 => ?_)
    · refine aw_bipush (v := -2) dX10_at_25 (by decide) ?_
      refine aw_reti dX10_at_27 rfl rfl ⟨Nat.le_of_ble_eq_true rfl, Nat.le_of_ble_eq_true rfl⟩ ?_
      refine ⟨by rw [if_neg (fun z => c14 z.2.1)], _, _, _, rfl, hI, fun _ _ => rfl⟩
    · obtain ⟨p2, hp2, rfl⟩ := zok_ex c14
      refine aw_iload_n dX10_at_17 rfl ?_
      refine aw_iconst (v := 4) dX10_at_18 rfl ?_
      refine aw_S0c (As := [_, _]) dX10_at_19 k10_100 rfl rfl (Nat.le_of_ble_eq_true rfl) ⟨⟨Nat.le_of_ble_eq_true rfl, Nat.le_of_ble_eq_true rfl⟩, ⟨Nat.le_of_ble_eq_true rfl, Nat.le_of_ble_eq_true rfl⟩⟩ ⟨rfl, rfl⟩ (w_within G a3 (b := 4) (by omega)) (fun v h2 hq => ?_)
      obtain ⟨rfl, rfl⟩ := hq
      refine aw_if_ne_B (tgt := 28) dX10_at_22 (by decide) (fun c22 => ?_) (fun c22 => ?_)
      · obtain ⟨p3, hp3, rfl⟩ := zok_ex c22
        refine aw_aload_n dX10_at_28 rfl ?_
        refine aw_iload_n dX10_at_29 rfl ?_
        refine aw_iload_n dX10_at_30 rfl ?_
        refine aw_iload_n dX10_at_31 rfl ?_
        refine aw_V0c (As := [_, _, _]) dX10_at_32 k10_161 rfl rfl rfl ⟨Nat.le_of_ble_eq_true rfl, Nat.le_of_ble_eq_true rfl⟩ (Nat.le_of_ble_eq_true rfl) ⟨⟨Nat.le_of_ble_eq_true rfl, Nat.le_of_ble_eq_true rfl⟩, ⟨Nat.le_of_ble_eq_true rfl, Nat.le_of_ble_eq_true rfl⟩⟩ ⟨rfl, rfl⟩ (w_behind G hR hF.1 (k := p2) (h := p1) (by omega) (by omega) (hbd.1.2.2.2.1 p2 (by omega)).2.2.2 (fun i hi => by have := (hbd.2 p2 hp2).2 i hi; omega) (fun i _ => by have := (p_play_ok (m := z0) (u := u) hP.1 hP.2.2.2.1 hP.2.2.2.2.1 hP.2.2.2.2.2 hO).2 i; omega) hp3) (fun v h2 hq => ?_)
        obtain ⟨rfl, rfl⟩ := hq
        refine aw_reti dX10_at_35 rfl rfl ⟨Nat.le_of_ble_eq_true rfl, Nat.le_of_ble_eq_true rfl⟩ ?_
        exact ⟨by rw [if_pos ⟨c6, c14, c22⟩, zt_nI (show p1 < 2147483648 by omega), zt_nI (show p2 < 2147483648 by omega), zt_nI (show p3 < 2147483648 by omega), (hsm.1 p2 hp2).2.2 p1 p3 hp1 hp3], _, _, _, rfl, hI, fun _ _ => rfl⟩
      · refine aw_bipush (v := -2) dX10_at_25 (by decide) ?_
        refine aw_reti dX10_at_27 rfl rfl ⟨Nat.le_of_ble_eq_true rfl, Nat.le_of_ble_eq_true rfl⟩ ?_
        refine ⟨by rw [if_neg (fun z => c22 z.2.2)], _, _, _, rfl, hI, fun _ _ => rfl⟩
theorem c_ends (G : aw_G) {n c : Nat} {I : Nat → Nat → Int32} {L : Nat → Nat → Int64} {b0 b1 : Nat → Nat} {l0 l1 : Nat} {t u x y V g : Nat → Nat → Nat} {kk : Nat} {F S : Nat → Nat} {E : Nat → Nat → Int32} {fd : Int32} (hX : zTx b0 b1 l0 l1 t u x y V kk) (hI : zCI b0 b1 l0 l1 t u x y g F S E fd I) {a1 : Int32} : aw_Met G mX10_ends [.ref 3, .int a1] (zH n I L c) (fun v h2 => v = some (.int (if zok a1 (t 6 0) then nI (o_en x u t (zt a1)) - 1 else -2)) ∧ ∃ I2 L2 c2, h2 = zH n I2 L2 c2 ∧ zCI b0 b1 l0 l1 t u x y g F S E fd I2 ∧ ∀ o, 81 ≤ o → I2 o = I o) := by
  obtain ⟨hW, hC, hF, ⟨s0, hO, hR⟩, ⟨t2, s2, hD⟩, hG, hS, hfd⟩ := id hI
  obtain ⟨hP, h60, h61, htc, hV, hkk, hx, hy⟩ := id hX
  have h8 := hP.1.1
  have hk10 : kk ≤ 10 := by rw [hkk]; exact q_k_leW hW.1.2.2.2.2
  have hi6 : I 6 5 = nI (t 6 0) := by rw [h60]; exact hC.2.2
  have hi4 : I 4 5 = nI kk := by rw [hkk]; exact hW.2.2
  have hVo : f_Vok V kk := by rw [hV, hkk]; exact v_w_ok
  have hsm := zSame hP hO.1
  have hbd := zBd (m := z0) (u := u) hP.1 hP.2.2.2.1 hP.2.2.2.2.1 hP.2.2.2.2.2 hO.1
  have hS0 : p_play s0 t u x 0 0 = t 6 0 := hbd.1.1
  refine aw_Met.of okX10_ends (Nat.le_of_ble_eq_true rfl) ?_
  show aw_W G mX10_ends 0 [.ref 3, .int a1] [] (zH n I L c) (0, 0) _
  refine aw_aload_n dX10_ends_0 rfl ?_
  refine aw_iload_n dX10_ends_1 rfl ?_
  refine aw_V0c (As := [_]) dX10_ends_2 k10_135 rfl rfl rfl ⟨Nat.le_of_ble_eq_true rfl, Nat.le_of_ble_eq_true rfl⟩ (Nat.le_of_ble_eq_true rfl) ⟨⟨Nat.le_of_ble_eq_true rfl, Nat.le_of_ble_eq_true rfl⟩, ⟨Nat.le_of_ble_eq_true rfl, Nat.le_of_ble_eq_true rfl⟩⟩ ⟨rfl, rfl⟩ (w_cIsCarter G a1 hi6 h8) (fun v h2 hq => ?_)
  obtain ⟨rfl, rfl⟩ := hq
  refine aw_if_eq_B (tgt := 20) dX10_ends_5 (by decide) (fun c5 => ?_) (fun c5 => ?_)
  · refine aw_bipush (v := -2) dX10_ends_20 (by decide) ?_
    refine aw_reti dX10_ends_22 rfl rfl ⟨Nat.le_of_ble_eq_true rfl, Nat.le_of_ble_eq_true rfl⟩ ?_
    refine ⟨by rw [if_neg (fun z => c5 z)], _, _, _, rfl, hI, fun _ _ => rfl⟩
  · obtain ⟨p1, hp1, rfl⟩ := zok_ex c5
    refine aw_aload_n dX10_ends_8 rfl ?_
    refine aw_getR dX10_ends_9 f10_58 rfl ⟨Nat.le_of_ble_eq_true rfl, Nat.le_of_ble_eq_true rfl⟩ rfl rfl ?_
    refine aw_getR dX10_ends_12 f10_165 rfl ⟨Nat.le_of_ble_eq_true rfl, Nat.le_of_ble_eq_true rfl⟩ rfl rfl ?_
    refine aw_iload_n dX10_ends_15 rfl ?_
    refine aw_iald_n (j := p1) dX10_ends_16 rfl (Nat.le_of_ble_eq_true rfl) (by decide) (by omega) ?_
    refine aw_top (show _ = nI (o_en x u t p1) - 1 from (hR.at 7 p1 (by decide) (by decide) (by decide) (by omega)).trans (by rw [(hsm.1 p1 hp1).2.1]; rfl)) ?_
    refine aw_goto (tgt := 22) dX10_ends_17 (by decide) ?_
    refine aw_reti dX10_ends_22 rfl rfl ⟨Nat.le_of_ble_eq_true rfl, Nat.le_of_ble_eq_true rfl⟩ ?_
    exact ⟨by rw [if_pos c5, zt_nI (show p1 < 2147483648 by omega)], _, _, _, rfl, hI, fun _ _ => rfl⟩
theorem f_fw_le2 {V : Nat → Nat → Nat} {kk : Nat} (hV : f_Vok V kk) : ∀ j, j < 64 → f_fw (f_e 1000 V kk) 8 j ≤ 1000 := fun j hj => by
  have h := f_e_R hV
  rcases f_R.fw h.1 h.2 (Nat.le_refl 8) j hj with ⟨e, l⟩ | ⟨e, l⟩ <;> omega
theorem c_far (G : aw_G) {n c : Nat} {I : Nat → Nat → Int32} {L : Nat → Nat → Int64} {b0 b1 : Nat → Nat} {l0 l1 : Nat} {t u x y V g : Nat → Nat → Nat} {kk : Nat} {F S : Nat → Nat} {E : Nat → Nat → Int32} {fd : Int32} (hX : zTx b0 b1 l0 l1 t u x y V kk) (hI : zCI b0 b1 l0 l1 t u x y g F S E fd I) {a1 : Int32} {a2 : Int32} : aw_Met G mX10_far [.ref 3, .int a1, .int a2] (zH n I L c) (fun v h2 => v = some (.int (if zok a1 8 ∧ zok a2 8 then nI (z_far y (zt a1) (zt a2)) - 1 else -2)) ∧ ∃ I2 L2 c2, h2 = zH n I2 L2 c2 ∧ zCI b0 b1 l0 l1 t u x y g F S E fd I2 ∧ ∀ o, 81 ≤ o → I2 o = I o) := by
  obtain ⟨hW, hC, hF, ⟨s0, hO, hR⟩, ⟨t2, s2, hD⟩, hG, hS, hfd⟩ := id hI
  obtain ⟨hP, h60, h61, htc, hV, hkk, hx, hy⟩ := id hX
  have h8 := hP.1.1
  have hk10 : kk ≤ 10 := by rw [hkk]; exact q_k_leW hW.1.2.2.2.2
  have hi6 : I 6 5 = nI (t 6 0) := by rw [h60]; exact hC.2.2
  have hi4 : I 4 5 = nI kk := by rw [hkk]; exact hW.2.2
  have hVo : f_Vok V kk := by rw [hV, hkk]; exact v_w_ok
  have hsm := zSame hP hO.1
  have hbd := zBd (m := z0) (u := u) hP.1 hP.2.2.2.1 hP.2.2.2.2.1 hP.2.2.2.2.2 hO.1
  have hS0 : p_play s0 t u x 0 0 = t 6 0 := hbd.1.1
  refine aw_Met.of okX10_far (Nat.le_of_ble_eq_true rfl) ?_
  show aw_W G mX10_far 0 [.ref 3, .int a1, .int a2] [] (zH n I L c) (0, 0) _
  refine aw_iload_n dX10_far_0 rfl ?_
  refine aw_bipush (v := 8) dX10_far_1 (by decide) ?_
  refine aw_S0c (As := [_, _]) dX10_far_3 k10_100 rfl rfl (Nat.le_of_ble_eq_true rfl) ⟨⟨Nat.le_of_ble_eq_true rfl, Nat.le_of_ble_eq_true rfl⟩, ⟨Nat.le_of_ble_eq_true rfl, Nat.le_of_ble_eq_true rfl⟩⟩ ⟨rfl, rfl⟩ (w_within G a1 (b := 8) (by omega)) (fun v h2 hq => ?_)
  obtain ⟨rfl, rfl⟩ := hq
  refine aw_if_eq_B (tgt := 33) dX10_far_6 (by decide) (fun c6 => ?_) (fun c6 => ?_)
  · refine aw_bipush (v := -2) dX10_far_33 (by decide) ?_
    refine aw_reti dX10_far_35 rfl rfl ⟨Nat.le_of_ble_eq_true rfl, Nat.le_of_ble_eq_true rfl⟩ ?_
    refine ⟨by rw [if_neg (fun z => c6 z.1)], _, _, _, rfl, hI, fun _ _ => rfl⟩
  · obtain ⟨p1, hp1, rfl⟩ := zok_ex c6
    refine aw_iload_n dX10_far_9 rfl ?_
    refine aw_bipush (v := 8) dX10_far_10 (by decide) ?_
    refine aw_S0c (As := [_, _]) dX10_far_12 k10_100 rfl rfl (Nat.le_of_ble_eq_true rfl) ⟨⟨Nat.le_of_ble_eq_true rfl, Nat.le_of_ble_eq_true rfl⟩, ⟨Nat.le_of_ble_eq_true rfl, Nat.le_of_ble_eq_true rfl⟩⟩ ⟨rfl, rfl⟩ (w_within G a2 (b := 8) (by omega)) (fun v h2 hq => ?_)
    obtain ⟨rfl, rfl⟩ := hq
    refine aw_if_eq_B (tgt := 33) dX10_far_15 (by decide) (fun c15 => ?_) (fun c15 => ?_)
    · refine aw_bipush (v := -2) dX10_far_33 (by decide) ?_
      refine aw_reti dX10_far_35 rfl rfl ⟨Nat.le_of_ble_eq_true rfl, Nat.le_of_ble_eq_true rfl⟩ ?_
      refine ⟨by rw [if_neg (fun z => c15 z.2)], _, _, _, rfl, hI, fun _ _ => rfl⟩
    · obtain ⟨p2, hp2, rfl⟩ := zok_ex c15
      refine aw_aload_n dX10_far_18 rfl ?_
      refine aw_getR dX10_far_19 f10_43 rfl ⟨Nat.le_of_ble_eq_true rfl, Nat.le_of_ble_eq_true rfl⟩ rfl rfl ?_
      refine aw_getR dX10_far_22 f10_47 rfl ⟨Nat.le_of_ble_eq_true rfl, Nat.le_of_ble_eq_true rfl⟩ rfl rfl ?_
      refine aw_iload_n dX10_far_25 rfl ?_
      refine aw_iload_n dX10_far_26 rfl ?_
      refine aw_V0c (As := [_, _]) dX10_far_27 k10_168 rfl rfl rfl ⟨Nat.le_of_ble_eq_true rfl, Nat.le_of_ble_eq_true rfl⟩ (Nat.le_of_ble_eq_true rfl) ⟨⟨Nat.le_of_ble_eq_true rfl, Nat.le_of_ble_eq_true rfl⟩, ⟨Nat.le_of_ble_eq_true rfl, Nat.le_of_ble_eq_true rfl⟩⟩ ⟨rfl, rfl⟩ (w_distance12 G (p := p1) (g := p2) (e := x 0) (d := x 1) (r := x 2) (I0 := I) ⟨hF.2.2.2.2.2.1, fun _ _ => rfl⟩ hp1 hp2 (fun j hj => by rw [hx, f_x1]; exact f_fw_le2 hVo j hj)) (fun v h2 hq => ?_)
      obtain ⟨rfl, rfl⟩ := hq
      have hfar : (if x 1 (8 * p1 + p2) < 1000 then x 1 (8 * p1 + p2) + 1 else 0) = z_far y p1 p2 := by rw [hx, z_far_x hVo hp1 hp2, ← hy]
      rw [hfar]
      refine aw_goto (tgt := 35) dX10_far_30 (by decide) ?_
      refine aw_reti dX10_far_35 rfl rfl ⟨Nat.le_of_ble_eq_true rfl, Nat.le_of_ble_eq_true rfl⟩ ?_
      exact ⟨by rw [if_pos ⟨c6, c15⟩, zt_nI (show p1 < 2147483648 by omega), zt_nI (show p2 < 2147483648 by omega)], _, _, _, rfl, hI, fun _ _ => rfl⟩
theorem zi_25 {a : Int32} (h1 : ¬ a < 2) (h2 : a ≤ 5) : ∃ p, 2 ≤ p ∧ p ≤ 5 ∧ a = nI p := by
  rw [Int32.lt_iff_toInt_lt] at h1
  rw [Int32.le_iff_toInt_le] at h2
  have h1 : 2 ≤ a.toInt := by simpa using h1
  have h2 : a.toInt ≤ 5 := by simpa using h2
  obtain ⟨p, hp, rfl⟩ := zok_ex (x := a) (b := 6) ⟨by omega, by omega⟩
  rw [nI_toInt (by omega)] at h1 h2
  exact ⟨p, by omega, by omega, rfl⟩
theorem zi_25n {a : Int32} (h : a < 2 ∨ 5 < a) : ¬ (2 ≤ a.toInt ∧ a.toInt ≤ 5) := fun z => by
  rcases h with h | h
  · rw [Int32.lt_iff_toInt_lt] at h; have h : a.toInt < 2 := by simpa using h
    omega
  · rw [Int32.lt_iff_toInt_lt] at h; have h : 5 < a.toInt := by simpa using h
    omega
theorem c_who (G : aw_G) {n c : Nat} {I : Nat → Nat → Int32} {L : Nat → Nat → Int64} {b0 b1 : Nat → Nat} {l0 l1 : Nat} {t u x y V g : Nat → Nat → Nat} {kk : Nat} {F S : Nat → Nat} {E : Nat → Nat → Int32} {fd : Int32} (hX : zTx b0 b1 l0 l1 t u x y V kk) (hI : zCI b0 b1 l0 l1 t u x y g F S E fd I) {a1 : Int32} : aw_Met G mX10_who [.ref 3, .int a1] (zH n I L c) (fun v h2 => v = some (.int (if 2 ≤ a1.toInt ∧ a1.toInt ≤ 5 then nI (o_who x u t (zt a1)) else -2)) ∧ ∃ I2 L2 c2, h2 = zH n I2 L2 c2 ∧ zCI b0 b1 l0 l1 t u x y g F S E fd I2 ∧ ∀ o, 81 ≤ o → I2 o = I o) := by
  obtain ⟨hW, hC, hF, ⟨s0, hO, hR⟩, ⟨t2, s2, hD⟩, hG, hS, hfd⟩ := id hI
  obtain ⟨hP, h60, h61, htc, hV, hkk, hx, hy⟩ := id hX
  have h8 := hP.1.1
  have hk10 : kk ≤ 10 := by rw [hkk]; exact q_k_leW hW.1.2.2.2.2
  have hi6 : I 6 5 = nI (t 6 0) := by rw [h60]; exact hC.2.2
  have hi4 : I 4 5 = nI kk := by rw [hkk]; exact hW.2.2
  have hVo : f_Vok V kk := by rw [hV, hkk]; exact v_w_ok
  have hsm := zSame hP hO.1
  have hbd := zBd (m := z0) (u := u) hP.1 hP.2.2.2.1 hP.2.2.2.2.1 hP.2.2.2.2.2 hO.1
  have hS0 : p_play s0 t u x 0 0 = t 6 0 := hbd.1.1
  refine aw_Met.of okX10_who (Nat.le_of_ble_eq_true rfl) ?_
  show aw_W G mX10_who 0 [.ref 3, .int a1] [] (zH n I L c) (0, 0) _
  refine aw_iload_n dX10_who_0 rfl ?_
  refine aw_iconst (v := 2) dX10_who_1 rfl ?_
  refine aw_ic_lt (tgt := 10) dX10_who_2 (by decide) (fun c2 => ?_) (fun c2 => ?_)
  · refine aw_bipush (v := -2) dX10_who_10 (by decide) ?_
    refine aw_goto (tgt := 23) dX10_who_12 (by decide) ?_
    refine aw_reti dX10_who_23 rfl rfl ⟨Nat.le_of_ble_eq_true rfl, Nat.le_of_ble_eq_true rfl⟩ ?_
    exact ⟨by rw [if_neg (zi_25n (Or.inl c2))], _, _, _, rfl, hI, fun _ _ => rfl⟩
  · refine aw_iload_n dX10_who_5 rfl ?_
    refine aw_iconst (v := 5) dX10_who_6 rfl ?_
    refine aw_ic_le (tgt := 15) dX10_who_7 (by decide) (fun c7 => ?_) (fun c7 => ?_)
    · obtain ⟨p1, hp1, hp2, rfl⟩ := zi_25 c2 c7
      refine aw_aload_n dX10_who_15 rfl ?_
      refine aw_getR dX10_who_16 f10_58 rfl ⟨Nat.le_of_ble_eq_true rfl, Nat.le_of_ble_eq_true rfl⟩ rfl rfl ?_
      refine aw_iload_n dX10_who_19 rfl ?_
      refine aw_V0c (As := [_]) dX10_who_20 k10_171 rfl rfl rfl ⟨Nat.le_of_ble_eq_true rfl, Nat.le_of_ble_eq_true rfl⟩ (Nat.le_of_ble_eq_true rfl) ⟨⟨Nat.le_of_ble_eq_true rfl, Nat.le_of_ble_eq_true rfl⟩, ⟨Nat.le_of_ble_eq_true rfl, Nat.le_of_ble_eq_true rfl⟩⟩ ⟨rfl, rfl⟩ (w_whoIs22 G hR (a := p1) (by omega) (by rw [hS0]; exact h8) (fun k hk => by rw [hS0] at hk; have := (hbd.2 k hk).1; omega)) (fun v h2 hq => ?_)
      obtain ⟨rfl, rfl⟩ := hq
      have hw : z_who (fun k => p_play s0 t u x 6 k == p1) (p_play s0 t u x 0 0) = o_who x u t p1 := by
        rw [hS0]; exact z_who_congr (fun j hj => by rw [(hsm.1 j hj).1])
      rw [hw]
      refine aw_reti dX10_who_23 rfl rfl ⟨Nat.le_of_ble_eq_true rfl, Nat.le_of_ble_eq_true rfl⟩ ?_
      exact ⟨by rw [if_pos (by rw [nI_toInt (by omega)]; omega), zt_nI (by omega)], _, _, _, rfl, hI, fun _ _ => rfl⟩
    · refine aw_bipush (v := -2) dX10_who_10 (by decide) ?_
      refine aw_goto (tgt := 23) dX10_who_12 (by decide) ?_
      refine aw_reti dX10_who_23 rfl rfl ⟨Nat.le_of_ble_eq_true rfl, Nat.le_of_ble_eq_true rfl⟩ ?_
      exact ⟨by rw [if_neg (zi_25n (Or.inr (Int32.not_le.mp c7)))], _, _, _, rfl, hI, fun _ _ => rfl⟩
theorem c_met (G : aw_G) {n c : Nat} {I : Nat → Nat → Int32} {L : Nat → Nat → Int64} {b0 b1 : Nat → Nat} {l0 l1 : Nat} {t u x y V g : Nat → Nat → Nat} {kk : Nat} {F S : Nat → Nat} {E : Nat → Nat → Int32} {fd : Int32} (hX : zTx b0 b1 l0 l1 t u x y V kk) (hI : zCI b0 b1 l0 l1 t u x y g F S E fd I) {a1 : Int32} : aw_Met G mX10_met [.ref 3, .int a1] (zH n I L c) (fun v h2 => v = some (.int (if zok a1 2 then (if zt a1 = 0 then nI (p_play z0 t u x 0 10) - 1 else nI (p_play z0 t u x 0 11) - 1) else -2)) ∧ ∃ I2 L2 c2, h2 = zH n I2 L2 c2 ∧ zCI b0 b1 l0 l1 t u x y g F S E fd I2 ∧ ∀ o, 81 ≤ o → I2 o = I o) := by
  obtain ⟨hW, hC, hF, ⟨s0, hO, hR⟩, ⟨t2, s2, hD⟩, hG, hS, hfd⟩ := id hI
  obtain ⟨hP, h60, h61, htc, hV, hkk, hx, hy⟩ := id hX
  have h8 := hP.1.1
  have hk10 : kk ≤ 10 := by rw [hkk]; exact q_k_leW hW.1.2.2.2.2
  have hi6 : I 6 5 = nI (t 6 0) := by rw [h60]; exact hC.2.2
  have hi4 : I 4 5 = nI kk := by rw [hkk]; exact hW.2.2
  have hVo : f_Vok V kk := by rw [hV, hkk]; exact v_w_ok
  have hsm := zSame hP hO.1
  have hbd := zBd (m := z0) (u := u) hP.1 hP.2.2.2.1 hP.2.2.2.2.1 hP.2.2.2.2.2 hO.1
  have hS0 : p_play s0 t u x 0 0 = t 6 0 := hbd.1.1
  refine aw_Met.of okX10_met (Nat.le_of_ble_eq_true rfl) ?_
  show aw_W G mX10_met 0 [.ref 3, .int a1] [] (zH n I L c) (0, 0) _
  refine aw_iload_n dX10_met_0 rfl ?_
  refine aw_iconst (v := 2) dX10_met_1 rfl ?_
  refine aw_S0c (As := [_, _]) dX10_met_2 k10_100 rfl rfl (Nat.le_of_ble_eq_true rfl) ⟨⟨Nat.le_of_ble_eq_true rfl, Nat.le_of_ble_eq_true rfl⟩, ⟨Nat.le_of_ble_eq_true rfl, Nat.le_of_ble_eq_true rfl⟩⟩ ⟨rfl, rfl⟩ (w_within G a1 (b := 2) (by omega)) (fun v h2 hq => ?_)
  obtain ⟨rfl, rfl⟩ := hq
  refine aw_if_ne_B (tgt := 11) dX10_met_5 (by decide) (fun c5 => ?_) (fun c5 => ?_)
  · obtain ⟨p1, hp1, rfl⟩ := zok_ex c5
    refine aw_iload_n dX10_met_11 rfl ?_
    refine aw_if_ne_n (a := p1) (tgt := 25) dX10_met_12 (by decide) (by omega) (fun c12 => ?_) (fun c12 => ?_)
    · refine aw_aload_n dX10_met_25 rfl ?_
      refine aw_getR dX10_met_26 f10_58 rfl ⟨Nat.le_of_ble_eq_true rfl, Nat.le_of_ble_eq_true rfl⟩ rfl rfl ?_
      refine aw_getI dX10_met_29 f10_177 rfl ⟨Nat.le_of_ble_eq_true rfl, Nat.le_of_ble_eq_true rfl⟩ rfl ?_
      refine aw_top (show _ = nI (p_play s0 t u x 0 11) - 1 from hR.1 0 11 (by decide) (by decide) (fun _ => by decide) (by decide)) ?_
      refine aw_reti dX10_met_32 rfl rfl ⟨Nat.le_of_ble_eq_true rfl, Nat.le_of_ble_eq_true rfl⟩ ?_
      exact ⟨by rw [if_pos c5, zt_nI (show p1 < 2147483648 by omega), if_neg c12, hsm.2.2.2], _, _, _, rfl, hI, fun _ _ => rfl⟩
    · refine aw_aload_n dX10_met_15 rfl ?_
      refine aw_getR dX10_met_16 f10_58 rfl ⟨Nat.le_of_ble_eq_true rfl, Nat.le_of_ble_eq_true rfl⟩ rfl rfl ?_
      refine aw_getI dX10_met_19 f10_174 rfl ⟨Nat.le_of_ble_eq_true rfl, Nat.le_of_ble_eq_true rfl⟩ rfl ?_
      refine aw_top (show _ = nI (p_play s0 t u x 0 10) - 1 from hR.1 0 10 (by decide) (by decide) (fun _ => by decide) (by decide)) ?_
      refine aw_goto (tgt := 32) dX10_met_22 (by decide) ?_
      refine aw_reti dX10_met_32 rfl rfl ⟨Nat.le_of_ble_eq_true rfl, Nat.le_of_ble_eq_true rfl⟩ ?_
      exact ⟨by rw [if_pos c5, zt_nI (show p1 < 2147483648 by omega), if_pos c12, hsm.2.2.1], _, _, _, rfl, hI, fun _ _ => rfl⟩
  · refine aw_bipush (v := -2) dX10_met_8 (by decide) ?_
    refine aw_reti dX10_met_10 rfl rfl ⟨Nat.le_of_ble_eq_true rfl, Nat.le_of_ble_eq_true rfl⟩ ?_
    refine ⟨by rw [if_neg (fun z => c5 z)], _, _, _, rfl, hI, fun _ _ => rfl⟩
theorem c_busiest (G : aw_G) {n c : Nat} {I : Nat → Nat → Int32} {L : Nat → Nat → Int64} {b0 b1 : Nat → Nat} {l0 l1 : Nat} {t u x y V g : Nat → Nat → Nat} {kk : Nat} {F S : Nat → Nat} {E : Nat → Nat → Int32} {fd : Int32} (hX : zTx b0 b1 l0 l1 t u x y V kk) (hI : zCI b0 b1 l0 l1 t u x y g F S E fd I)  : aw_Met G mX10_busiest [.ref 3] (zH n I L c) (fun v h2 => v = some (.int (nI (z_most (p_play z0 t u x 4) 8).1 - 1)) ∧ ∃ I2 L2 c2, h2 = zH n I2 L2 c2 ∧ zCI b0 b1 l0 l1 t u x y g F S E fd I2 ∧ ∀ o, 81 ≤ o → I2 o = I o) := by
  obtain ⟨hW, hC, hF, ⟨s0, hO, hR⟩, ⟨t2, s2, hD⟩, hG, hS, hfd⟩ := id hI
  obtain ⟨hP, h60, h61, htc, hV, hkk, hx, hy⟩ := id hX
  have h8 := hP.1.1
  have hk10 : kk ≤ 10 := by rw [hkk]; exact q_k_leW hW.1.2.2.2.2
  have hi6 : I 6 5 = nI (t 6 0) := by rw [h60]; exact hC.2.2
  have hi4 : I 4 5 = nI kk := by rw [hkk]; exact hW.2.2
  have hVo : f_Vok V kk := by rw [hV, hkk]; exact v_w_ok
  have hsm := zSame hP hO.1
  have hbd := zBd (m := z0) (u := u) hP.1 hP.2.2.2.1 hP.2.2.2.2.1 hP.2.2.2.2.2 hO.1
  have hS0 : p_play s0 t u x 0 0 = t 6 0 := hbd.1.1
  refine aw_Met.of okX10_busiest (Nat.le_of_ble_eq_true rfl) ?_
  show aw_W G mX10_busiest 0 [.ref 3] [] (zH n I L c) (0, 0) _
  refine aw_aload_n dX10_busiest_0 rfl ?_
  refine aw_getR dX10_busiest_1 f10_58 rfl ⟨Nat.le_of_ble_eq_true rfl, Nat.le_of_ble_eq_true rfl⟩ rfl rfl ?_
  refine aw_V0c (As := []) dX10_busiest_4 k10_180 rfl rfl rfl ⟨Nat.le_of_ble_eq_true rfl, Nat.le_of_ble_eq_true rfl⟩ (Nat.le_of_ble_eq_true rfl) ⟨⟨Nat.le_of_ble_eq_true rfl, Nat.le_of_ble_eq_true rfl⟩, ⟨Nat.le_of_ble_eq_true rfl, Nat.le_of_ble_eq_true rfl⟩⟩ ⟨rfl, rfl⟩ (w_mostArr G hR (fun j hj => by have := hbd.1.2.2.2.2 j; omega)) (fun v h2 hq => ?_)
  obtain ⟨rfl, rfl⟩ := hq
  refine aw_reti dX10_busiest_7 rfl rfl ⟨Nat.le_of_ble_eq_true rfl, Nat.le_of_ble_eq_true rfl⟩ ?_
  exact ⟨by rw [z_most_congr (fun j hj => (hsm.2.1 j hj).symm)], _, _, _, rfl, hI, fun _ _ => rfl⟩
theorem c_needs (G : aw_G) {n c : Nat} {I : Nat → Nat → Int32} {L : Nat → Nat → Int64} {b0 b1 : Nat → Nat} {l0 l1 : Nat} {t u x y V g : Nat → Nat → Nat} {kk : Nat} {F S : Nat → Nat} {E : Nat → Nat → Int32} {fd : Int32} (hX : zTx b0 b1 l0 l1 t u x y V kk) (hI : zCI b0 b1 l0 l1 t u x y g F S E fd I) {a1 : Int32} : aw_Met G mX10_needs [.ref 3, .int a1] (zH n I L c) (fun v h2 => v = some (.int (if zok a1 (t 6 0) then nI (zfst (fun w => o_st x u (aw_u t 3 (zt a1) w) (zt a1) == 2) 100) - 1 else -2)) ∧ ∃ I2 L2 c2, h2 = zH n I2 L2 c2 ∧ zCI b0 b1 l0 l1 t u x y g F S E fd I2 ∧ ∀ o, 81 ≤ o → I2 o = I o) := by
  obtain ⟨hW, hC, hF, ⟨s0, hO, hR⟩, ⟨t2, s2, hD⟩, hG, hS, hfd⟩ := id hI
  obtain ⟨hP, h60, h61, htc, hV, hkk, hx, hy⟩ := id hX
  have h8 := hP.1.1
  have hk10 : kk ≤ 10 := by rw [hkk]; exact q_k_leW hW.1.2.2.2.2
  have hi6 : I 6 5 = nI (t 6 0) := by rw [h60]; exact hC.2.2
  have hi4 : I 4 5 = nI kk := by rw [hkk]; exact hW.2.2
  have hVo : f_Vok V kk := by rw [hV, hkk]; exact v_w_ok
  have hsm := zSame hP hO.1
  have hbd := zBd (m := z0) (u := u) hP.1 hP.2.2.2.1 hP.2.2.2.2.1 hP.2.2.2.2.2 hO.1
  have hS0 : p_play s0 t u x 0 0 = t 6 0 := hbd.1.1
  refine aw_Met.of okX10_needs (Nat.le_of_ble_eq_true rfl) ?_
  show aw_W G mX10_needs 0 [.ref 3, .int a1] [] (zH n I L c) (0, 0) _
  refine aw_aload_n dX10_needs_0 rfl ?_
  refine aw_iload_n dX10_needs_1 rfl ?_
  refine aw_V0c (As := [_]) dX10_needs_2 k10_135 rfl rfl rfl ⟨Nat.le_of_ble_eq_true rfl, Nat.le_of_ble_eq_true rfl⟩ (Nat.le_of_ble_eq_true rfl) ⟨⟨Nat.le_of_ble_eq_true rfl, Nat.le_of_ble_eq_true rfl⟩, ⟨Nat.le_of_ble_eq_true rfl, Nat.le_of_ble_eq_true rfl⟩⟩ ⟨rfl, rfl⟩ (w_cIsCarter G a1 hi6 h8) (fun v h2 hq => ?_)
  obtain ⟨rfl, rfl⟩ := hq
  refine aw_if_eq_B (tgt := 19) dX10_needs_5 (by decide) (fun c5 => ?_) (fun c5 => ?_)
  · refine aw_bipush (v := -2) dX10_needs_19 (by decide) ?_
    refine aw_reti dX10_needs_21 rfl rfl ⟨Nat.le_of_ble_eq_true rfl, Nat.le_of_ble_eq_true rfl⟩ ?_
    refine ⟨by rw [if_neg (fun z => c5 z)], _, _, _, rfl, hI, fun _ _ => rfl⟩
  · obtain ⟨p1, hp1, rfl⟩ := zok_ex c5
    refine aw_aload_n dX10_needs_8 rfl ?_
    refine aw_getR dX10_needs_9 f10_71 rfl ⟨Nat.le_of_ble_eq_true rfl, Nat.le_of_ble_eq_true rfl⟩ rfl rfl ?_
    refine aw_iload_n dX10_needs_12 rfl ?_
    refine aw_V0c (As := [_]) dX10_needs_13 k10_184 rfl rfl rfl ⟨Nat.le_of_ble_eq_true rfl, Nat.le_of_ble_eq_true rfl⟩ (Nat.le_of_ble_eq_true rfl) ⟨⟨Nat.le_of_ble_eq_true rfl, Nat.le_of_ble_eq_true rfl⟩, ⟨Nat.le_of_ble_eq_true rfl, Nat.le_of_ble_eq_true rfl⟩⟩ ⟨rfl, rfl⟩ (w_least G hF hD hp1) (fun v h2 hq => ?_)
    obtain ⟨rfl, I2, rfl, t3, s3, hD3⟩ := hq
    refine aw_goto (tgt := 21) dX10_needs_16 (by decide) ?_
    refine aw_reti dX10_needs_21 rfl rfl ⟨Nat.le_of_ble_eq_true rfl, Nat.le_of_ble_eq_true rfl⟩ ?_
    exact ⟨by rw [if_pos c5, zt_nI (show p1 < 2147483648 by omega)], _, _, _, rfl, hI.dy hD3, hD3.fr⟩
theorem c_lend (G : aw_G) {n c : Nat} {I : Nat → Nat → Int32} {L : Nat → Nat → Int64} {b0 b1 : Nat → Nat} {l0 l1 : Nat} {t u x y V g : Nat → Nat → Nat} {kk : Nat} {F S : Nat → Nat} {E : Nat → Nat → Int32} {fd : Int32} (hX : zTx b0 b1 l0 l1 t u x y V kk) (hI : zCI b0 b1 l0 l1 t u x y g F S E fd I) {a1 : Int32} : aw_Met G mX10_lend [.ref 3, .int a1] (zH n I L c) (fun v h2 => v = some (.int (if zok a1 3 then r_lend (z_ld (fun a b => o_cm x u (t_swap t a b)) (t 6 0) 64) (zt a1) else -2)) ∧ ∃ I2 L2 c2, h2 = zH n I2 L2 c2 ∧ zCI b0 b1 l0 l1 t u x y g F S E fd I2 ∧ ∀ o, 81 ≤ o → I2 o = I o) := by
  obtain ⟨hW, hC, hF, ⟨s0, hO, hR⟩, ⟨t2, s2, hD⟩, hG, hS, hfd⟩ := id hI
  obtain ⟨hP, h60, h61, htc, hV, hkk, hx, hy⟩ := id hX
  have h8 := hP.1.1
  have hk10 : kk ≤ 10 := by rw [hkk]; exact q_k_leW hW.1.2.2.2.2
  have hi6 : I 6 5 = nI (t 6 0) := by rw [h60]; exact hC.2.2
  have hi4 : I 4 5 = nI kk := by rw [hkk]; exact hW.2.2
  have hVo : f_Vok V kk := by rw [hV, hkk]; exact v_w_ok
  have hsm := zSame hP hO.1
  have hbd := zBd (m := z0) (u := u) hP.1 hP.2.2.2.1 hP.2.2.2.2.1 hP.2.2.2.2.2 hO.1
  have hS0 : p_play s0 t u x 0 0 = t 6 0 := hbd.1.1
  refine aw_Met.of okX10_lend (Nat.le_of_ble_eq_true rfl) ?_
  show aw_W G mX10_lend 0 [.ref 3, .int a1] [] (zH n I L c) (0, 0) _
  refine aw_iload_n dX10_lend_0 rfl ?_
  refine aw_iconst (v := 3) dX10_lend_1 rfl ?_
  refine aw_S0c (As := [_, _]) dX10_lend_2 k10_100 rfl rfl (Nat.le_of_ble_eq_true rfl) ⟨⟨Nat.le_of_ble_eq_true rfl, Nat.le_of_ble_eq_true rfl⟩, ⟨Nat.le_of_ble_eq_true rfl, Nat.le_of_ble_eq_true rfl⟩⟩ ⟨rfl, rfl⟩ (w_within G a1 (b := 3) (by omega)) (fun v h2 hq => ?_)
  obtain ⟨rfl, rfl⟩ := hq
  refine aw_if_ne_B (tgt := 11) dX10_lend_5 (by decide) (fun c5 => ?_) (fun c5 => ?_)
  · obtain ⟨p1, hp1, rfl⟩ := zok_ex c5
    refine aw_aload_n dX10_lend_11 rfl ?_
    refine aw_getR dX10_lend_12 f10_71 rfl ⟨Nat.le_of_ble_eq_true rfl, Nat.le_of_ble_eq_true rfl⟩ rfl rfl ?_
    refine aw_V0c (As := []) dX10_lend_15 k10_187 rfl rfl rfl ⟨Nat.le_of_ble_eq_true rfl, Nat.le_of_ble_eq_true rfl⟩ (Nat.le_of_ble_eq_true rfl) ⟨⟨Nat.le_of_ble_eq_true rfl, Nat.le_of_ble_eq_true rfl⟩, ⟨Nat.le_of_ble_eq_true rfl, Nat.le_of_ble_eq_true rfl⟩⟩ ⟨rfl, rfl⟩ (w_pSwap G hF hD) (fun v h2 hq => ?_)
    obtain ⟨rfl, I2, rfl, ⟨t3, s3, hD3⟩, hPl⟩ := hq
    refine aw_iload_n dX10_lend_18 rfl ?_
    refine aw_iconst (v := 2) dX10_lend_19 rfl ?_
    refine aw_ic_ne_n (a := p1) (b := 2) (tgt := 31) dX10_lend_20 (by decide) (by omega) (by omega) (fun c20 => ?_) (fun c20 => ?_)
    · refine aw_iload_n dX10_lend_31 rfl ?_
      refine aw_if_ne_n (a := p1) (tgt := 45) dX10_lend_32 (by decide) (by omega) (fun c32 => ?_) (fun c32 => ?_)
      · refine aw_aload_n dX10_lend_45 rfl ?_
        refine aw_getR dX10_lend_46 f10_71 rfl ⟨Nat.le_of_ble_eq_true rfl, Nat.le_of_ble_eq_true rfl⟩ rfl rfl ?_
        refine aw_getI dX10_lend_49 f10_196 rfl ⟨Nat.le_of_ble_eq_true rfl, Nat.le_of_ble_eq_true rfl⟩ rfl ?_
        refine aw_top hPl.2.1 ?_
        refine aw_reti dX10_lend_52 rfl rfl ⟨Nat.le_of_ble_eq_true rfl, Nat.le_of_ble_eq_true rfl⟩ ?_
        exact ⟨by rw [if_pos c5, zt_nI (show p1 < 2147483648 by omega)]; unfold r_lend; rw [if_neg c32, if_pos (show p1 = 1 by omega)], _, _, _, rfl, hI.dy hD3, hD3.fr⟩
      · refine aw_aload_n dX10_lend_35 rfl ?_
        refine aw_getR dX10_lend_36 f10_71 rfl ⟨Nat.le_of_ble_eq_true rfl, Nat.le_of_ble_eq_true rfl⟩ rfl rfl ?_
        refine aw_getI dX10_lend_39 f10_193 rfl ⟨Nat.le_of_ble_eq_true rfl, Nat.le_of_ble_eq_true rfl⟩ rfl ?_
        refine aw_top hPl.1 ?_
        refine aw_goto (tgt := 52) dX10_lend_42 (by decide) ?_
        refine aw_reti dX10_lend_52 rfl rfl ⟨Nat.le_of_ble_eq_true rfl, Nat.le_of_ble_eq_true rfl⟩ ?_
        exact ⟨by rw [if_pos c5, zt_nI (show p1 < 2147483648 by omega)]; unfold r_lend; rw [if_pos c32], _, _, _, rfl, hI.dy hD3, hD3.fr⟩
    · refine aw_aload_n dX10_lend_23 rfl ?_
      refine aw_getR dX10_lend_24 f10_71 rfl ⟨Nat.le_of_ble_eq_true rfl, Nat.le_of_ble_eq_true rfl⟩ rfl rfl ?_
      refine aw_getI dX10_lend_27 f10_190 rfl ⟨Nat.le_of_ble_eq_true rfl, Nat.le_of_ble_eq_true rfl⟩ rfl ?_
      refine aw_top hPl.2.2 ?_
      refine aw_reti dX10_lend_30 rfl rfl ⟨Nat.le_of_ble_eq_true rfl, Nat.le_of_ble_eq_true rfl⟩ ?_
      exact ⟨by rw [if_pos c5, zt_nI (show p1 < 2147483648 by omega)]; unfold r_lend; rw [if_neg (show ¬ p1 = 0 by omega), if_neg (show ¬ p1 = 1 by omega)], _, _, _, rfl, hI.dy hD3, hD3.fr⟩
  · refine aw_bipush (v := -2) dX10_lend_8 (by decide) ?_
    refine aw_reti dX10_lend_10 rfl rfl ⟨Nat.le_of_ble_eq_true rfl, Nat.le_of_ble_eq_true rfl⟩ ?_
    refine ⟨by rw [if_neg (fun z => c5 z)], _, _, _, rfl, hI, fun _ _ => rfl⟩
theorem c_delay (G : aw_G) {n c : Nat} {I : Nat → Nat → Int32} {L : Nat → Nat → Int64} {b0 b1 : Nat → Nat} {l0 l1 : Nat} {t u x y V g : Nat → Nat → Nat} {kk : Nat} {F S : Nat → Nat} {E : Nat → Nat → Int32} {fd : Int32} (hX : zTx b0 b1 l0 l1 t u x y V kk) (hI : zCI b0 b1 l0 l1 t u x y g F S E fd I) {a1 : Int32} {a2 : Int32} : aw_Met G mX10_delay [.ref 3, .int a1, .int a2] (zH n I L c) (fun v h2 => v = some (.int (if zok a1 (t 6 0) ∧ zok a2 2 then r_pl (z_best (fun v => o_cm x u (aw_u t 5 (zt a1) v)) 10) (zt a2) else -2)) ∧ ∃ I2 L2 c2, h2 = zH n I2 L2 c2 ∧ zCI b0 b1 l0 l1 t u x y g F S E fd I2 ∧ ∀ o, 81 ≤ o → I2 o = I o) := by
  obtain ⟨hW, hC, hF, ⟨s0, hO, hR⟩, ⟨t2, s2, hD⟩, hG, hS, hfd⟩ := id hI
  obtain ⟨hP, h60, h61, htc, hV, hkk, hx, hy⟩ := id hX
  have h8 := hP.1.1
  have hk10 : kk ≤ 10 := by rw [hkk]; exact q_k_leW hW.1.2.2.2.2
  have hi6 : I 6 5 = nI (t 6 0) := by rw [h60]; exact hC.2.2
  have hi4 : I 4 5 = nI kk := by rw [hkk]; exact hW.2.2
  have hVo : f_Vok V kk := by rw [hV, hkk]; exact v_w_ok
  have hsm := zSame hP hO.1
  have hbd := zBd (m := z0) (u := u) hP.1 hP.2.2.2.1 hP.2.2.2.2.1 hP.2.2.2.2.2 hO.1
  have hS0 : p_play s0 t u x 0 0 = t 6 0 := hbd.1.1
  refine aw_Met.of okX10_delay (Nat.le_of_ble_eq_true rfl) ?_
  show aw_W G mX10_delay 0 [.ref 3, .int a1, .int a2] [] (zH n I L c) (0, 0) _
  refine aw_aload_n dX10_delay_0 rfl ?_
  refine aw_iload_n dX10_delay_1 rfl ?_
  refine aw_V0c (As := [_]) dX10_delay_2 k10_135 rfl rfl rfl ⟨Nat.le_of_ble_eq_true rfl, Nat.le_of_ble_eq_true rfl⟩ (Nat.le_of_ble_eq_true rfl) ⟨⟨Nat.le_of_ble_eq_true rfl, Nat.le_of_ble_eq_true rfl⟩, ⟨Nat.le_of_ble_eq_true rfl, Nat.le_of_ble_eq_true rfl⟩⟩ ⟨rfl, rfl⟩ (w_cIsCarter G a1 hi6 h8) (fun v h2 hq => ?_)
  obtain ⟨rfl, rfl⟩ := hq
  refine aw_if_eq_B (tgt := 16) dX10_delay_5 (by decide) (fun c5 => ?_) (fun c5 => ?_)
  · refine aw_bipush (v := -2) dX10_delay_16 (by decide) ?_
    refine aw_reti dX10_delay_18 rfl rfl ⟨Nat.le_of_ble_eq_true rfl, Nat.le_of_ble_eq_true rfl⟩ ?_
    refine ⟨by rw [if_neg (fun z => c5 z.1)], _, _, _, rfl, hI, fun _ _ => rfl⟩
  · obtain ⟨p1, hp1, rfl⟩ := zok_ex c5
    refine aw_iload_n dX10_delay_8 rfl ?_
    refine aw_iconst (v := 2) dX10_delay_9 rfl ?_
    refine aw_S0c (As := [_, _]) dX10_delay_10 k10_100 rfl rfl (Nat.le_of_ble_eq_true rfl) ⟨⟨Nat.le_of_ble_eq_true rfl, Nat.le_of_ble_eq_true rfl⟩, ⟨Nat.le_of_ble_eq_true rfl, Nat.le_of_ble_eq_true rfl⟩⟩ ⟨rfl, rfl⟩ (w_within G a2 (b := 2) (by omega)) (fun v h2 hq => ?_)
    obtain ⟨rfl, rfl⟩ := hq
    refine aw_if_ne_B (tgt := 19) dX10_delay_13 (by decide) (fun c13 => ?_) (fun c13 => ?_)
    · obtain ⟨p2, hp2, rfl⟩ := zok_ex c13
      refine aw_aload_n dX10_delay_19 rfl ?_
      refine aw_getR dX10_delay_20 f10_71 rfl ⟨Nat.le_of_ble_eq_true rfl, Nat.le_of_ble_eq_true rfl⟩ rfl rfl ?_
      refine aw_iload_n dX10_delay_23 rfl ?_
      refine aw_V0c (As := [_]) dX10_delay_24 k10_199 rfl rfl rfl ⟨Nat.le_of_ble_eq_true rfl, Nat.le_of_ble_eq_true rfl⟩ (Nat.le_of_ble_eq_true rfl) ⟨⟨Nat.le_of_ble_eq_true rfl, Nat.le_of_ble_eq_true rfl⟩, ⟨Nat.le_of_ble_eq_true rfl, Nat.le_of_ble_eq_true rfl⟩⟩ ⟨rfl, rfl⟩ (w_postpone G hF hD (k := p1) (by omega)) (fun v h2 hq => ?_)
      obtain ⟨rfl, I2, rfl, ⟨t3, s3, hD3⟩, hPl⟩ := hq
      refine aw_iload_n dX10_delay_27 rfl ?_
      refine aw_if_ne_n (a := p2) (tgt := 41) dX10_delay_28 (by decide) (by omega) (fun c28 => ?_) (fun c28 => ?_)
      · refine aw_aload_n dX10_delay_41 rfl ?_
        refine aw_getR dX10_delay_42 f10_71 rfl ⟨Nat.le_of_ble_eq_true rfl, Nat.le_of_ble_eq_true rfl⟩ rfl rfl ?_
        refine aw_getI dX10_delay_45 f10_190 rfl ⟨Nat.le_of_ble_eq_true rfl, Nat.le_of_ble_eq_true rfl⟩ rfl ?_
        refine aw_top hPl.2.2 ?_
        refine aw_reti dX10_delay_48 rfl rfl ⟨Nat.le_of_ble_eq_true rfl, Nat.le_of_ble_eq_true rfl⟩ ?_
        exact ⟨by rw [if_pos ⟨c5, c13⟩, zt_nI (show p1 < 2147483648 by omega), zt_nI (show p2 < 2147483648 by omega)]; unfold r_pl; rw [if_neg c28], _, _, _, rfl, hI.dy hD3, hD3.fr⟩
      · refine aw_aload_n dX10_delay_31 rfl ?_
        refine aw_getR dX10_delay_32 f10_71 rfl ⟨Nat.le_of_ble_eq_true rfl, Nat.le_of_ble_eq_true rfl⟩ rfl rfl ?_
        refine aw_getI dX10_delay_35 f10_193 rfl ⟨Nat.le_of_ble_eq_true rfl, Nat.le_of_ble_eq_true rfl⟩ rfl ?_
        refine aw_top hPl.1 ?_
        refine aw_goto (tgt := 48) dX10_delay_38 (by decide) ?_
        refine aw_reti dX10_delay_48 rfl rfl ⟨Nat.le_of_ble_eq_true rfl, Nat.le_of_ble_eq_true rfl⟩ ?_
        exact ⟨by rw [if_pos ⟨c5, c13⟩, zt_nI (show p1 < 2147483648 by omega), zt_nI (show p2 < 2147483648 by omega)]; unfold r_pl; rw [if_pos c28], _, _, _, rfl, hI.dy hD3, hD3.fr⟩
    · refine aw_bipush (v := -2) dX10_delay_16 (by decide) ?_
      refine aw_reti dX10_delay_18 rfl rfl ⟨Nat.le_of_ble_eq_true rfl, Nat.le_of_ble_eq_true rfl⟩ ?_
      refine ⟨by rw [if_neg (fun z => c13 z.2)], _, _, _, rfl, hI, fun _ _ => rfl⟩
theorem c_level (G : aw_G) {n c : Nat} {I : Nat → Nat → Int32} {L : Nat → Nat → Int64} {b0 b1 : Nat → Nat} {l0 l1 : Nat} {t u x y V g : Nat → Nat → Nat} {kk : Nat} {F S : Nat → Nat} {E : Nat → Nat → Int32} {fd : Int32} (hX : zTx b0 b1 l0 l1 t u x y V kk) (hI : zCI b0 b1 l0 l1 t u x y g F S E fd I) {a1 : Int32} : aw_Met G mX10_level [.ref 3, .int a1] (zH n I L c) (fun v h2 => v = some (.int (if zok a1 2 then r_pl (z_best (fun w => o_cm (f_x (f_lv V (w + 1)) kk) u t) kk) (zt a1) else -2)) ∧ ∃ I2 L2 c2, h2 = zH n I2 L2 c2 ∧ zCI b0 b1 l0 l1 t u x y g F S E fd I2 ∧ ∀ o, 81 ≤ o → I2 o = I o) := by
  obtain ⟨hW, hC, hF, ⟨s0, hO, hR⟩, ⟨t2, s2, hD⟩, hG, hS, hfd⟩ := id hI
  obtain ⟨hP, h60, h61, htc, hV, hkk, hx, hy⟩ := id hX
  have h8 := hP.1.1
  have hk10 : kk ≤ 10 := by rw [hkk]; exact q_k_leW hW.1.2.2.2.2
  have hi6 : I 6 5 = nI (t 6 0) := by rw [h60]; exact hC.2.2
  have hi4 : I 4 5 = nI kk := by rw [hkk]; exact hW.2.2
  have hVo : f_Vok V kk := by rw [hV, hkk]; exact v_w_ok
  have hsm := zSame hP hO.1
  have hbd := zBd (m := z0) (u := u) hP.1 hP.2.2.2.1 hP.2.2.2.2.1 hP.2.2.2.2.2 hO.1
  have hS0 : p_play s0 t u x 0 0 = t 6 0 := hbd.1.1
  refine aw_Met.of okX10_level (Nat.le_of_ble_eq_true rfl) ?_
  show aw_W G mX10_level 0 [.ref 3, .int a1] [] (zH n I L c) (0, 0) _
  refine aw_iload_n dX10_level_0 rfl ?_
  refine aw_iconst (v := 2) dX10_level_1 rfl ?_
  refine aw_S0c (As := [_, _]) dX10_level_2 k10_100 rfl rfl (Nat.le_of_ble_eq_true rfl) ⟨⟨Nat.le_of_ble_eq_true rfl, Nat.le_of_ble_eq_true rfl⟩, ⟨Nat.le_of_ble_eq_true rfl, Nat.le_of_ble_eq_true rfl⟩⟩ ⟨rfl, rfl⟩ (w_within G a1 (b := 2) (by omega)) (fun v h2 hq => ?_)
  obtain ⟨rfl, rfl⟩ := hq
  refine aw_if_ne_B (tgt := 11) dX10_level_5 (by decide) (fun c5 => ?_) (fun c5 => ?_)
  · obtain ⟨p1, hp1, rfl⟩ := zok_ex c5
    refine aw_aload_n dX10_level_11 rfl ?_
    refine aw_getR dX10_level_12 f10_71 rfl ⟨Nat.le_of_ble_eq_true rfl, Nat.le_of_ble_eq_true rfl⟩ rfl rfl ?_
    refine aw_aload_n dX10_level_15 rfl ?_
    refine aw_getR dX10_level_16 f10_18 rfl ⟨Nat.le_of_ble_eq_true rfl, Nat.le_of_ble_eq_true rfl⟩ rfl rfl ?_
    refine aw_V0c (As := [_]) dX10_level_19 k10_202 rfl rfl rfl ⟨Nat.le_of_ble_eq_true rfl, Nat.le_of_ble_eq_true rfl⟩ (Nat.le_of_ble_eq_true rfl) ⟨⟨Nat.le_of_ble_eq_true rfl, Nat.le_of_ble_eq_true rfl⟩, ⟨Nat.le_of_ble_eq_true rfl, Nat.le_of_ble_eq_true rfl⟩⟩ ⟨rfl, rfl⟩ (w_flatten G hF hD hW hkk) (fun v h2 hq => ?_)
    obtain ⟨rfl, I2, rfl, ⟨t3, s3, hD3⟩, hPl⟩ := hq
    rw [← hV] at hPl
    refine aw_iload_n dX10_level_22 rfl ?_
    refine aw_if_ne_n (a := p1) (tgt := 36) dX10_level_23 (by decide) (by omega) (fun c23 => ?_) (fun c23 => ?_)
    · refine aw_aload_n dX10_level_36 rfl ?_
      refine aw_getR dX10_level_37 f10_71 rfl ⟨Nat.le_of_ble_eq_true rfl, Nat.le_of_ble_eq_true rfl⟩ rfl rfl ?_
      refine aw_getI dX10_level_40 f10_190 rfl ⟨Nat.le_of_ble_eq_true rfl, Nat.le_of_ble_eq_true rfl⟩ rfl ?_
      refine aw_top hPl.2.2 ?_
      refine aw_reti dX10_level_43 rfl rfl ⟨Nat.le_of_ble_eq_true rfl, Nat.le_of_ble_eq_true rfl⟩ ?_
      exact ⟨by rw [if_pos c5, zt_nI (show p1 < 2147483648 by omega)]; unfold r_pl; rw [if_neg c23], _, _, _, rfl, hI.dy hD3, hD3.fr⟩
    · refine aw_aload_n dX10_level_26 rfl ?_
      refine aw_getR dX10_level_27 f10_71 rfl ⟨Nat.le_of_ble_eq_true rfl, Nat.le_of_ble_eq_true rfl⟩ rfl rfl ?_
      refine aw_getI dX10_level_30 f10_193 rfl ⟨Nat.le_of_ble_eq_true rfl, Nat.le_of_ble_eq_true rfl⟩ rfl ?_
      refine aw_top hPl.1 ?_
      refine aw_goto (tgt := 43) dX10_level_33 (by decide) ?_
      refine aw_reti dX10_level_43 rfl rfl ⟨Nat.le_of_ble_eq_true rfl, Nat.le_of_ble_eq_true rfl⟩ ?_
      exact ⟨by rw [if_pos c5, zt_nI (show p1 < 2147483648 by omega)]; unfold r_pl; rw [if_pos c23], _, _, _, rfl, hI.dy hD3, hD3.fr⟩
  · refine aw_bipush (v := -2) dX10_level_8 (by decide) ?_
    refine aw_reti dX10_level_10 rfl rfl ⟨Nat.le_of_ble_eq_true rfl, Nat.le_of_ble_eq_true rfl⟩ ?_
    refine ⟨by rw [if_neg (fun z => c5 z)], _, _, _, rfl, hI, fun _ _ => rfl⟩
theorem c_never (G : aw_G) {n c : Nat} {I : Nat → Nat → Int32} {L : Nat → Nat → Int64} {b0 b1 : Nat → Nat} {l0 l1 : Nat} {t u x y V g : Nat → Nat → Nat} {kk : Nat} {F S : Nat → Nat} {E : Nat → Nat → Int32} {fd : Int32} (hX : zTx b0 b1 l0 l1 t u x y V kk) (hI : zCI b0 b1 l0 l1 t u x y g F S E fd I)  : aw_Met G mX10_never [.ref 3] (zH n I L c) (fun v h2 => v = some (.int (nI (z_who (fun a => z_fit x u g (aw_u t 6 1 (2 ^ a))) (u 2 0)))) ∧ ∃ I2 L2 c2, h2 = zH n I2 L2 c2 ∧ zCI b0 b1 l0 l1 t u x y g F S E fd I2 ∧ ∀ o, 81 ≤ o → I2 o = I o) := by
  obtain ⟨hW, hC, hF, ⟨s0, hO, hR⟩, ⟨t2, s2, hD⟩, hG, hS, hfd⟩ := id hI
  obtain ⟨hP, h60, h61, htc, hV, hkk, hx, hy⟩ := id hX
  have h8 := hP.1.1
  have hk10 : kk ≤ 10 := by rw [hkk]; exact q_k_leW hW.1.2.2.2.2
  have hi6 : I 6 5 = nI (t 6 0) := by rw [h60]; exact hC.2.2
  have hi4 : I 4 5 = nI kk := by rw [hkk]; exact hW.2.2
  have hVo : f_Vok V kk := by rw [hV, hkk]; exact v_w_ok
  have hsm := zSame hP hO.1
  have hbd := zBd (m := z0) (u := u) hP.1 hP.2.2.2.1 hP.2.2.2.2.1 hP.2.2.2.2.2 hO.1
  have hS0 : p_play s0 t u x 0 0 = t 6 0 := hbd.1.1
  refine aw_Met.of okX10_never (Nat.le_of_ble_eq_true rfl) ?_
  show aw_W G mX10_never 0 [.ref 3] [] (zH n I L c) (0, 0) _
  refine aw_aload_n dX10_never_0 rfl ?_
  refine aw_getR dX10_never_1 f10_78 rfl ⟨Nat.le_of_ble_eq_true rfl, Nat.le_of_ble_eq_true rfl⟩ rfl rfl ?_
  refine aw_V0c (As := []) dX10_never_4 k10_210 rfl rfl rfl ⟨Nat.le_of_ble_eq_true rfl, Nat.le_of_ble_eq_true rfl⟩ (Nat.le_of_ble_eq_true rfl) ⟨⟨Nat.le_of_ble_eq_true rfl, Nat.le_of_ble_eq_true rfl⟩, ⟨Nat.le_of_ble_eq_true rfl, Nat.le_of_ble_eq_true rfl⟩⟩ ⟨rfl, rfl⟩ (w_never G hF hG hD) (fun v h2 hq => ?_)
  obtain ⟨rfl, I2, rfl, t3, s3, hD3⟩ := hq
  refine aw_reti dX10_never_7 rfl rfl ⟨Nat.le_of_ble_eq_true rfl, Nat.le_of_ble_eq_true rfl⟩ ?_
  exact ⟨rfl, _, _, _, rfl, hI.dy hD3, hD3.fr⟩
theorem c_sort (G : aw_G) {n c : Nat} {I : Nat → Nat → Int32} {L : Nat → Nat → Int64} {b0 b1 : Nat → Nat} {l0 l1 : Nat} {t u x y V g : Nat → Nat → Nat} {kk : Nat} {F S : Nat → Nat} {E : Nat → Nat → Int32} {fd : Int32} (hX : zTx b0 b1 l0 l1 t u x y V kk) (hI : zCI b0 b1 l0 l1 t u x y g F S E fd I) {a1 : Int32} : aw_Met G mX10_sort [.ref 3, .int a1] (zH n I L c) (fun v h2 => v = some (.int (if zok a1 (t 6 0) then nI (z_who (fun v => z_fit x u g (aw_u t 2 (zt a1) v)) 3) else -2)) ∧ ∃ I2 L2 c2, h2 = zH n I2 L2 c2 ∧ zCI b0 b1 l0 l1 t u x y g F S E fd I2 ∧ ∀ o, 81 ≤ o → I2 o = I o) := by
  obtain ⟨hW, hC, hF, ⟨s0, hO, hR⟩, ⟨t2, s2, hD⟩, hG, hS, hfd⟩ := id hI
  obtain ⟨hP, h60, h61, htc, hV, hkk, hx, hy⟩ := id hX
  have h8 := hP.1.1
  have hk10 : kk ≤ 10 := by rw [hkk]; exact q_k_leW hW.1.2.2.2.2
  have hi6 : I 6 5 = nI (t 6 0) := by rw [h60]; exact hC.2.2
  have hi4 : I 4 5 = nI kk := by rw [hkk]; exact hW.2.2
  have hVo : f_Vok V kk := by rw [hV, hkk]; exact v_w_ok
  have hsm := zSame hP hO.1
  have hbd := zBd (m := z0) (u := u) hP.1 hP.2.2.2.1 hP.2.2.2.2.1 hP.2.2.2.2.2 hO.1
  have hS0 : p_play s0 t u x 0 0 = t 6 0 := hbd.1.1
  refine aw_Met.of okX10_sort (Nat.le_of_ble_eq_true rfl) ?_
  show aw_W G mX10_sort 0 [.ref 3, .int a1] [] (zH n I L c) (0, 0) _
  refine aw_aload_n dX10_sort_0 rfl ?_
  refine aw_iload_n dX10_sort_1 rfl ?_
  refine aw_V0c (As := [_]) dX10_sort_2 k10_135 rfl rfl rfl ⟨Nat.le_of_ble_eq_true rfl, Nat.le_of_ble_eq_true rfl⟩ (Nat.le_of_ble_eq_true rfl) ⟨⟨Nat.le_of_ble_eq_true rfl, Nat.le_of_ble_eq_true rfl⟩, ⟨Nat.le_of_ble_eq_true rfl, Nat.le_of_ble_eq_true rfl⟩⟩ ⟨rfl, rfl⟩ (w_cIsCarter G a1 hi6 h8) (fun v h2 hq => ?_)
  obtain ⟨rfl, rfl⟩ := hq
  refine aw_if_eq_B (tgt := 19) dX10_sort_5 (by decide) (fun c5 => ?_) (fun c5 => ?_)
  · refine aw_bipush (v := -2) dX10_sort_19 (by decide) ?_
    refine aw_reti dX10_sort_21 rfl rfl ⟨Nat.le_of_ble_eq_true rfl, Nat.le_of_ble_eq_true rfl⟩ ?_
    refine ⟨by rw [if_neg (fun z => c5 z)], _, _, _, rfl, hI, fun _ _ => rfl⟩
  · obtain ⟨p1, hp1, rfl⟩ := zok_ex c5
    refine aw_aload_n dX10_sort_8 rfl ?_
    refine aw_getR dX10_sort_9 f10_78 rfl ⟨Nat.le_of_ble_eq_true rfl, Nat.le_of_ble_eq_true rfl⟩ rfl rfl ?_
    refine aw_iload_n dX10_sort_12 rfl ?_
    refine aw_V0c (As := [_]) dX10_sort_13 k10_213 rfl rfl rfl ⟨Nat.le_of_ble_eq_true rfl, Nat.le_of_ble_eq_true rfl⟩ (Nat.le_of_ble_eq_true rfl) ⟨⟨Nat.le_of_ble_eq_true rfl, Nat.le_of_ble_eq_true rfl⟩, ⟨Nat.le_of_ble_eq_true rfl, Nat.le_of_ble_eq_true rfl⟩⟩ ⟨rfl, rfl⟩ (w_sortsOf G hF hG hD hp1) (fun v h2 hq => ?_)
    obtain ⟨rfl, I2, rfl, ⟨t3, s3, hD3⟩, hEr⟩ := hq
    refine aw_goto (tgt := 21) dX10_sort_16 (by decide) ?_
    refine aw_reti dX10_sort_21 rfl rfl ⟨Nat.le_of_ble_eq_true rfl, Nat.le_of_ble_eq_true rfl⟩ ?_
    exact ⟨by rw [if_pos c5, zt_nI (show p1 < 2147483648 by omega)], _, _, _, rfl, hI.dy hD3, hD3.fr⟩
theorem c_force (G : aw_G) {n c : Nat} {I : Nat → Nat → Int32} {L : Nat → Nat → Int64} {b0 b1 : Nat → Nat} {l0 l1 : Nat} {t u x y V g : Nat → Nat → Nat} {kk : Nat} {F S : Nat → Nat} {E : Nat → Nat → Int32} {fd : Int32} (hX : zTx b0 b1 l0 l1 t u x y V kk) (hI : zCI b0 b1 l0 l1 t u x y g F S E fd I) {a1 : Int32} {a2 : Int32} : aw_Met G mX10_force [.ref 3, .int a1, .int a2] (zH n I L c) (fun v h2 => v = some (.int (if zok a1 (t 6 0) ∧ zok a2 3 then r_force (fun v => z_fit x u g (aw_u t 3 (zt a1) v)) (zt a2) else -2)) ∧ ∃ I2 L2 c2, h2 = zH n I2 L2 c2 ∧ zCI b0 b1 l0 l1 t u x y g F S E fd I2 ∧ ∀ o, 81 ≤ o → I2 o = I o) := by
  obtain ⟨hW, hC, hF, ⟨s0, hO, hR⟩, ⟨t2, s2, hD⟩, hG, hS, hfd⟩ := id hI
  obtain ⟨hP, h60, h61, htc, hV, hkk, hx, hy⟩ := id hX
  have h8 := hP.1.1
  have hk10 : kk ≤ 10 := by rw [hkk]; exact q_k_leW hW.1.2.2.2.2
  have hi6 : I 6 5 = nI (t 6 0) := by rw [h60]; exact hC.2.2
  have hi4 : I 4 5 = nI kk := by rw [hkk]; exact hW.2.2
  have hVo : f_Vok V kk := by rw [hV, hkk]; exact v_w_ok
  have hsm := zSame hP hO.1
  have hbd := zBd (m := z0) (u := u) hP.1 hP.2.2.2.1 hP.2.2.2.2.1 hP.2.2.2.2.2 hO.1
  have hS0 : p_play s0 t u x 0 0 = t 6 0 := hbd.1.1
  refine aw_Met.of okX10_force (Nat.le_of_ble_eq_true rfl) ?_
  show aw_W G mX10_force 0 [.ref 3, .int a1, .int a2] [] (zH n I L c) (0, 0) _
  refine aw_aload_n dX10_force_0 rfl ?_
  refine aw_iload_n dX10_force_1 rfl ?_
  refine aw_V0c (As := [_]) dX10_force_2 k10_135 rfl rfl rfl ⟨Nat.le_of_ble_eq_true rfl, Nat.le_of_ble_eq_true rfl⟩ (Nat.le_of_ble_eq_true rfl) ⟨⟨Nat.le_of_ble_eq_true rfl, Nat.le_of_ble_eq_true rfl⟩, ⟨Nat.le_of_ble_eq_true rfl, Nat.le_of_ble_eq_true rfl⟩⟩ ⟨rfl, rfl⟩ (w_cIsCarter G a1 hi6 h8) (fun v h2 hq => ?_)
  obtain ⟨rfl, rfl⟩ := hq
  refine aw_if_eq_B (tgt := 16) dX10_force_5 (by decide) (fun c5 => ?_) (fun c5 => ?_)
  · refine aw_bipush (v := -2) dX10_force_16 (by decide) ?_
    refine aw_reti dX10_force_18 rfl rfl ⟨Nat.le_of_ble_eq_true rfl, Nat.le_of_ble_eq_true rfl⟩ ?_
    refine ⟨by rw [if_neg (fun z => c5 z.1)], _, _, _, rfl, hI, fun _ _ => rfl⟩
  · obtain ⟨p1, hp1, rfl⟩ := zok_ex c5
    refine aw_iload_n dX10_force_8 rfl ?_
    refine aw_iconst (v := 3) dX10_force_9 rfl ?_
    refine aw_S0c (As := [_, _]) dX10_force_10 k10_100 rfl rfl (Nat.le_of_ble_eq_true rfl) ⟨⟨Nat.le_of_ble_eq_true rfl, Nat.le_of_ble_eq_true rfl⟩, ⟨Nat.le_of_ble_eq_true rfl, Nat.le_of_ble_eq_true rfl⟩⟩ ⟨rfl, rfl⟩ (w_within G a2 (b := 3) (by omega)) (fun v h2 hq => ?_)
    obtain ⟨rfl, rfl⟩ := hq
    refine aw_if_ne_B (tgt := 19) dX10_force_13 (by decide) (fun c13 => ?_) (fun c13 => ?_)
    · obtain ⟨p2, hp2, rfl⟩ := zok_ex c13
      refine aw_aload_n dX10_force_19 rfl ?_
      refine aw_getR dX10_force_20 f10_78 rfl ⟨Nat.le_of_ble_eq_true rfl, Nat.le_of_ble_eq_true rfl⟩ rfl rfl ?_
      refine aw_iload_n dX10_force_23 rfl ?_
      refine aw_V0c (As := [_]) dX10_force_24 k10_216 rfl rfl rfl ⟨Nat.le_of_ble_eq_true rfl, Nat.le_of_ble_eq_true rfl⟩ (Nat.le_of_ble_eq_true rfl) ⟨⟨Nat.le_of_ble_eq_true rfl, Nat.le_of_ble_eq_true rfl⟩, ⟨Nat.le_of_ble_eq_true rfl, Nat.le_of_ble_eq_true rfl⟩⟩ ⟨rfl, rfl⟩ (w_strengthsOf G hF hG hD hp1) (fun v h2 hq => ?_)
      obtain ⟨rfl, I2, rfl, ⟨t3, s3, hD3⟩, e10, e11, e12⟩ := hq
      refine aw_iload_n dX10_force_27 rfl ?_
      refine aw_if_ne_n (a := p2) (tgt := 39) dX10_force_28 (by decide) (by omega) (fun c28 => ?_) (fun c28 => ?_)
      · refine aw_iload_n dX10_force_39 rfl ?_
        refine aw_iconst (v := 1) dX10_force_40 rfl ?_
        refine aw_ic_ne_n (a := p2) (b := 1) (tgt := 54) dX10_force_41 (by decide) (by omega) (by omega) (fun c41 => ?_) (fun c41 => ?_)
        · refine aw_aload_n dX10_force_54 rfl ?_
          refine aw_getR dX10_force_55 f10_78 rfl ⟨Nat.le_of_ble_eq_true rfl, Nat.le_of_ble_eq_true rfl⟩ rfl rfl ?_
          refine aw_getI dX10_force_58 f10_225 rfl ⟨Nat.le_of_ble_eq_true rfl, Nat.le_of_ble_eq_true rfl⟩ rfl ?_
          refine aw_top e12 ?_
          refine aw_reti dX10_force_61 rfl rfl ⟨Nat.le_of_ble_eq_true rfl, Nat.le_of_ble_eq_true rfl⟩ ?_
          exact ⟨by rw [if_pos ⟨c5, c13⟩, zt_nI (show p1 < 2147483648 by omega), zt_nI (show p2 < 2147483648 by omega)]; unfold r_force; rw [if_neg c28, if_neg c41], _, _, _, rfl, hI.dy hD3, hD3.fr⟩
        · refine aw_aload_n dX10_force_44 rfl ?_
          refine aw_getR dX10_force_45 f10_78 rfl ⟨Nat.le_of_ble_eq_true rfl, Nat.le_of_ble_eq_true rfl⟩ rfl rfl ?_
          refine aw_getI dX10_force_48 f10_222 rfl ⟨Nat.le_of_ble_eq_true rfl, Nat.le_of_ble_eq_true rfl⟩ rfl ?_
          refine aw_top e11 ?_
          refine aw_goto (tgt := 61) dX10_force_51 (by decide) ?_
          refine aw_reti dX10_force_61 rfl rfl ⟨Nat.le_of_ble_eq_true rfl, Nat.le_of_ble_eq_true rfl⟩ ?_
          exact ⟨by rw [if_pos ⟨c5, c13⟩, zt_nI (show p1 < 2147483648 by omega), zt_nI (show p2 < 2147483648 by omega)]; unfold r_force; rw [if_neg c28, if_pos c41], _, _, _, rfl, hI.dy hD3, hD3.fr⟩
      · refine aw_aload_n dX10_force_31 rfl ?_
        refine aw_getR dX10_force_32 f10_78 rfl ⟨Nat.le_of_ble_eq_true rfl, Nat.le_of_ble_eq_true rfl⟩ rfl rfl ?_
        refine aw_getI dX10_force_35 f10_219 rfl ⟨Nat.le_of_ble_eq_true rfl, Nat.le_of_ble_eq_true rfl⟩ rfl ?_
        refine aw_top e10 ?_
        refine aw_reti dX10_force_38 rfl rfl ⟨Nat.le_of_ble_eq_true rfl, Nat.le_of_ble_eq_true rfl⟩ ?_
        exact ⟨by rw [if_pos ⟨c5, c13⟩, zt_nI (show p1 < 2147483648 by omega), zt_nI (show p2 < 2147483648 by omega)]; unfold r_force; rw [if_pos c28], _, _, _, rfl, hI.dy hD3, hD3.fr⟩
    · refine aw_bipush (v := -2) dX10_force_16 (by decide) ?_
      refine aw_reti dX10_force_18 rfl rfl ⟨Nat.le_of_ble_eq_true rfl, Nat.le_of_ble_eq_true rfl⟩ ?_
      refine ⟨by rw [if_neg (fun z => c13 z.2)], _, _, _, rfl, hI, fun _ _ => rfl⟩
theorem c_ask (G : aw_G) {n c : Nat} {I : Nat → Nat → Int32} {L : Nat → Nat → Int64} {b0 b1 : Nat → Nat} {l0 l1 : Nat} {t u x y V g : Nat → Nat → Nat} {kk : Nat} {F S : Nat → Nat} {E : Nat → Nat → Int32} {fd : Int32} (hX : zTx b0 b1 l0 l1 t u x y V kk) (hI : zCI b0 b1 l0 l1 t u x y g F S E fd I) {a1 : Int32} : aw_Met G mX10_ask [.ref 3, .int a1] (zH n I L c) (fun v h2 => v = some (.int (if zok a1 (t 6 0) then nI (z_mp (z_al (fun v => z_fit x u g (aw_u t 2 (zt a1) v)) (fun v => o_pl x u (aw_u t 2 (zt a1) v) (zt a1)) (fun v => o_en x u (aw_u t 2 (zt a1) v) (zt a1))) 40).1 else -2)) ∧ ∃ I2 L2 c2, h2 = zH n I2 L2 c2 ∧ zCI b0 b1 l0 l1 t u x y g F S E fd I2 ∧ ∀ o, 81 ≤ o → I2 o = I o) := by
  obtain ⟨hW, hC, hF, ⟨s0, hO, hR⟩, ⟨t2, s2, hD⟩, hG, hS, hfd⟩ := id hI
  obtain ⟨hP, h60, h61, htc, hV, hkk, hx, hy⟩ := id hX
  have h8 := hP.1.1
  have hk10 : kk ≤ 10 := by rw [hkk]; exact q_k_leW hW.1.2.2.2.2
  have hi6 : I 6 5 = nI (t 6 0) := by rw [h60]; exact hC.2.2
  have hi4 : I 4 5 = nI kk := by rw [hkk]; exact hW.2.2
  have hVo : f_Vok V kk := by rw [hV, hkk]; exact v_w_ok
  have hsm := zSame hP hO.1
  have hbd := zBd (m := z0) (u := u) hP.1 hP.2.2.2.1 hP.2.2.2.2.1 hP.2.2.2.2.2 hO.1
  have hS0 : p_play s0 t u x 0 0 = t 6 0 := hbd.1.1
  refine aw_Met.of okX10_ask (Nat.le_of_ble_eq_true rfl) ?_
  show aw_W G mX10_ask 0 [.ref 3, .int a1] [] (zH n I L c) (0, 0) _
  refine aw_aload_n dX10_ask_0 rfl ?_
  refine aw_iload_n dX10_ask_1 rfl ?_
  refine aw_V0c (As := [_]) dX10_ask_2 k10_135 rfl rfl rfl ⟨Nat.le_of_ble_eq_true rfl, Nat.le_of_ble_eq_true rfl⟩ (Nat.le_of_ble_eq_true rfl) ⟨⟨Nat.le_of_ble_eq_true rfl, Nat.le_of_ble_eq_true rfl⟩, ⟨Nat.le_of_ble_eq_true rfl, Nat.le_of_ble_eq_true rfl⟩⟩ ⟨rfl, rfl⟩ (w_cIsCarter G a1 hi6 h8) (fun v h2 hq => ?_)
  obtain ⟨rfl, rfl⟩ := hq
  refine aw_if_ne_B (tgt := 11) dX10_ask_5 (by decide) (fun c5 => ?_) (fun c5 => ?_)
  · obtain ⟨p1, hp1, rfl⟩ := zok_ex c5
    have hob := o_bd2 hP hp1
    refine aw_aload_n dX10_ask_11 rfl ?_
    refine aw_getR dX10_ask_12 f10_78 rfl ⟨Nat.le_of_ble_eq_true rfl, Nat.le_of_ble_eq_true rfl⟩ rfl rfl ?_
    refine aw_iload_n dX10_ask_15 rfl ?_
    refine aw_V0c (As := [_]) dX10_ask_16 k10_213 rfl rfl rfl ⟨Nat.le_of_ble_eq_true rfl, Nat.le_of_ble_eq_true rfl⟩ (Nat.le_of_ble_eq_true rfl) ⟨⟨Nat.le_of_ble_eq_true rfl, Nat.le_of_ble_eq_true rfl⟩, ⟨Nat.le_of_ble_eq_true rfl, Nat.le_of_ble_eq_true rfl⟩⟩ ⟨rfl, rfl⟩ (w_sortsOf G hF hG hD hp1) (fun v h2 hq => ?_)
    obtain ⟨rfl, I2, rfl, ⟨t3, s3, hD3⟩, hEr⟩ := hq
    refine aw_pop dX10_ask_19 rfl ?_
    refine aw_aload_n dX10_ask_20 rfl ?_
    refine aw_getR dX10_ask_21 f10_78 rfl ⟨Nat.le_of_ble_eq_true rfl, Nat.le_of_ble_eq_true rfl⟩ rfl rfl ?_
    refine aw_V0c (As := []) dX10_ask_24 k10_228 rfl rfl rfl ⟨Nat.le_of_ble_eq_true rfl, Nat.le_of_ble_eq_true rfl⟩ (Nat.le_of_ble_eq_true rfl) ⟨⟨Nat.le_of_ble_eq_true rfl, Nat.le_of_ble_eq_true rfl⟩, ⟨Nat.le_of_ble_eq_true rfl, Nat.le_of_ble_eq_true rfl⟩⟩ ⟨rfl, rfl⟩ (w_hourToLook G hEr.cut hob) (fun v h2 hq => ?_)
    obtain ⟨rfl, rfl⟩ := hq
    rw [z_al_cut]
    refine aw_reti dX10_ask_27 rfl rfl ⟨Nat.le_of_ble_eq_true rfl, Nat.le_of_ble_eq_true rfl⟩ ?_
    exact ⟨by rw [if_pos c5, zt_nI (show p1 < 2147483648 by omega)], _, _, _, rfl, hI.dy hD3, hD3.fr⟩
  · refine aw_bipush (v := -2) dX10_ask_8 (by decide) ?_
    refine aw_reti dX10_ask_10 rfl rfl ⟨Nat.le_of_ble_eq_true rfl, Nat.le_of_ble_eq_true rfl⟩ ?_
    refine ⟨by rw [if_neg (fun z => c5 z)], _, _, _, rfl, hI, fun _ _ => rfl⟩
