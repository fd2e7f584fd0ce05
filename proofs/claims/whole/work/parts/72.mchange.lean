/-! CHANGES of the reference -/
section ZMC
variable {b0 b1 c0 c1 : Nat → Nat} {l0 l1 k0 k1 : Nat} {t u t3 u3 g g3 : Nat → Nat → Nat} {F S : Nat → Nat} {E : Nat → Nat → Int32} {fd : Int32} {I I2 : Nat → Nat → Int32}
theorem zMI.mv (h : zMI b0 b1 l0 l1 t u g F S E fd I) (hB : zBm c0 c1 k0 k1 I2) (h5 : ∀ k, k < 8 → I2 90 k = nI (t3 5 k)) (hA : zAm u3 I2) (hg : I2 81 14 = nI (t3 6 1)) (hS : zSm g3 I2) (hr : ∀ o, 92 ≤ o → o ≤ 102 → I2 o = I o) (hf : ∀ j, j ≠ 12 → j ≠ 28 → I2 81 j = I 81 j) (h82 : ∀ o, 82 ≤ o → o < 85 → I2 o = I o) : zMI c0 c1 k0 k1 t3 u3 g3 F S E fd I2 := by
  obtain ⟨⟨-, -, -, -, -, m, hm, hmo⟩, h7, h8⟩ := h
  exact ⟨⟨hB, h5, hA, hg, hS, m, hm.mv2 (fun i hi => hr _ (by omega) (by omega)) (hf 26 (by decide) (by decide)) (hf 27 (by decide) (by decide)), hmo⟩, h7.mv (h82 82 (by decide) (by decide)) (h82 83 (by decide) (by decide)) (h82 84 (by decide) (by decide)), by rw [hf 4 (by decide) (by decide)]; exact h8⟩
/-- the rows of the texts -/
theorem zMI.tx (h : zMI b0 b1 l0 l1 t u g F S E fd I) (hB : zBm c0 c1 k0 k1 I2) (h5 : ∀ k, k < 8 → t3 5 k = t 5 k) (h61 : t3 6 1 = t 6 1) (hF : ∀ o, o ≠ 86 → o ≠ 87 → I2 o = I o) : zMI c0 c1 k0 k1 t3 u g F S E fd I2 :=
  h.mv hB (fun k hk => by rw [h5 k hk, hF 90 (by decide) (by decide)]; exact h.1.2.1 k hk) ⟨by rw [hF 81 (by decide) (by decide)]; exact h.1.2.2.1.1, fun a ha => by rw [hF 91 (by decide) (by decide)]; exact h.1.2.2.1.2 a ha⟩ (by rw [hF 81 (by decide) (by decide), h61]; exact h.1.2.2.2.1) (by
    obtain ⟨s1, s2, s3⟩ := h.1.2.2.2.2.1
    exact ⟨by rw [hF 81 (by decide) (by decide)]; exact s1, s2, fun i hi => by rw [hF 103 (by decide) (by decide)]; exact s3 i hi⟩) (fun o a b => hF o (by omega) (by omega)) (fun j _ _ => by rw [hF 81 (by decide) (by decide)]) (fun o a b => hF o (by omega) (by omega))
end ZMC
theorem m_typeB (G : aw_G) {n c : Nat} {I : Nat → Nat → Int32} {L : Nat → Nat → Int64} {b0 b1 : Nat → Nat} {l0 l1 : Nat} {t u x y V g : Nat → Nat → Nat} {kk : Nat} {F S : Nat → Nat} {E : Nat → Nat → Int32} {fd : Int32} (hX : zTx b0 b1 l0 l1 t u x y V kk) (hI : zMI b0 b1 l0 l1 t u g F S E fd I) {a1 : Int32} {a2 : Int32} (hz : ¬ (zok a1 2 ∧ zok a2 256)) : aw_Met G mX11_type [.ref 81, .int a1, .int a2] (zH n I L c) (fun v h2 => v = some (.int (-2)) ∧ ∃ I2, h2 = zH n I2 L c ∧ zMI b0 b1 l0 l1 t u g F S E fd I2 ∧ ∀ o, o < 81 → I2 o = I o) := by
  obtain ⟨hP, h60, h61, htc, hV, hkk, hx, hy⟩ := id hX
  have h8 := hP.1.1
  have hB := hI.1.1
  have hk10 : kk ≤ 10 := by rw [hkk]; exact q_k_leW hB.2.2.2.2.1
  have hVo : f_Vok V kk := by rw [hV, hkk]; exact v_w_ok
  refine aw_Met.of okX11_type (Nat.le_of_ble_eq_true rfl) ?_
  show aw_W G mX11_type 0 [.ref 81, .int a1, .int a2] [] (zH n I L c) (0, 0) _
  refine aw_iload_n dX11_type_0 rfl ?_
  refine aw_S0c (As := [_]) dX11_type_1 k11_110 rfl rfl (Nat.le_of_ble_eq_true rfl) ⟨⟨Nat.le_of_ble_eq_true rfl, Nat.le_of_ble_eq_true rfl⟩, ⟨Nat.le_of_ble_eq_true rfl, Nat.le_of_ble_eq_true rfl⟩⟩ ⟨rfl, rfl⟩ (w_isTwo G a1) (fun v h2 hq => ?_)
  obtain ⟨rfl, rfl⟩ := hq
  refine aw_if_eq_B (tgt := 19) dX11_type_4 (by decide) (fun c4 => ?_) (fun c4 => ?_)
  · refine aw_bipush (v := -2) dX11_type_19 (by decide) ?_
    refine aw_reti dX11_type_21 rfl rfl ⟨Nat.le_of_ble_eq_true rfl, Nat.le_of_ble_eq_true rfl⟩ ?_
    exact ⟨rfl, _, rfl, hI, fun _ _ => rfl⟩
  · refine aw_iload_n dX11_type_7 rfl ?_
    refine aw_i2l dX11_type_8 ?_
    refine aw_lconst (v := 0) dX11_type_9 rfl ?_
    refine aw_ldc2 dX11_type_10 co11_113 ?_
    refine aw_S0c (As := [_, _, _]) dX11_type_13 k11_81 rfl rfl (Nat.le_of_ble_eq_true rfl) ⟨⟨Nat.le_of_ble_eq_true rfl, Nat.le_of_ble_eq_true rfl⟩, ⟨Nat.le_of_ble_eq_true rfl, Nat.le_of_ble_eq_true rfl⟩⟩ ⟨rfl, rfl⟩ (w_in G a2 (b := 256) rfl rfl) (fun v h2 hq => ?_)
    obtain ⟨rfl, rfl⟩ := hq
    refine aw_if_ne_B (tgt := 22) dX11_type_16 (by decide) (fun z => absurd z (fun q => hz ⟨c4, q⟩)) (fun c16 => ?_)
    refine aw_bipush (v := -2) dX11_type_19 (by decide) ?_
    refine aw_reti dX11_type_21 rfl rfl ⟨Nat.le_of_ble_eq_true rfl, Nat.le_of_ble_eq_true rfl⟩ ?_
    exact ⟨rfl, _, rfl, hI, fun _ _ => rfl⟩
theorem m_wipeB (G : aw_G) {n c : Nat} {I : Nat → Nat → Int32} {L : Nat → Nat → Int64} {b0 b1 : Nat → Nat} {l0 l1 : Nat} {t u x y V g : Nat → Nat → Nat} {kk : Nat} {F S : Nat → Nat} {E : Nat → Nat → Int32} {fd : Int32} (hX : zTx b0 b1 l0 l1 t u x y V kk) (hI : zMI b0 b1 l0 l1 t u g F S E fd I) {a1 : Int32} (hz : ¬ (zok a1 2)) : aw_Met G mX11_wipe [.ref 81, .int a1] (zH n I L c) (fun v h2 => v = some (.int (-2)) ∧ ∃ I2, h2 = zH n I2 L c ∧ zMI b0 b1 l0 l1 t u g F S E fd I2 ∧ ∀ o, o < 81 → I2 o = I o) := by
  obtain ⟨hP, h60, h61, htc, hV, hkk, hx, hy⟩ := id hX
  have h8 := hP.1.1
  have hB := hI.1.1
  have hk10 : kk ≤ 10 := by rw [hkk]; exact q_k_leW hB.2.2.2.2.1
  have hVo : f_Vok V kk := by rw [hV, hkk]; exact v_w_ok
  refine aw_Met.of okX11_wipe (Nat.le_of_ble_eq_true rfl) ?_
  show aw_W G mX11_wipe 0 [.ref 81, .int a1, aw_x] [] (zH n I L c) (0, 0) _
  refine aw_iload_n dX11_wipe_0 rfl ?_
  refine aw_S0c (As := [_]) dX11_wipe_1 k11_110 rfl rfl (Nat.le_of_ble_eq_true rfl) ⟨⟨Nat.le_of_ble_eq_true rfl, Nat.le_of_ble_eq_true rfl⟩, ⟨Nat.le_of_ble_eq_true rfl, Nat.le_of_ble_eq_true rfl⟩⟩ ⟨rfl, rfl⟩ (w_isTwo G a1) (fun v h2 hq => ?_)
  obtain ⟨rfl, rfl⟩ := hq
  refine aw_if_ne_B (tgt := 10) dX11_wipe_4 (by decide) (fun z => absurd z hz) (fun c4 => ?_)
  refine aw_bipush (v := -2) dX11_wipe_7 (by decide) ?_
  refine aw_reti dX11_wipe_9 rfl rfl ⟨Nat.le_of_ble_eq_true rfl, Nat.le_of_ble_eq_true rfl⟩ ?_
  exact ⟨rfl, _, rfl, hI, fun _ _ => rfl⟩
theorem m_undoB (G : aw_G) {n c : Nat} {I : Nat → Nat → Int32} {L : Nat → Nat → Int64} {b0 b1 : Nat → Nat} {l0 l1 : Nat} {t u x y V g : Nat → Nat → Nat} {kk : Nat} {F S : Nat → Nat} {E : Nat → Nat → Int32} {fd : Int32} (hX : zTx b0 b1 l0 l1 t u x y V kk) (hI : zMI b0 b1 l0 l1 t u g F S E fd I) {a1 : Int32} (hz : ¬ (zok a1 2)) : aw_Met G mX11_undo [.ref 81, .int a1] (zH n I L c) (fun v h2 => v = some (.int (-2)) ∧ ∃ I2, h2 = zH n I2 L c ∧ zMI b0 b1 l0 l1 t u g F S E fd I2 ∧ ∀ o, o < 81 → I2 o = I o) := by
  obtain ⟨hP, h60, h61, htc, hV, hkk, hx, hy⟩ := id hX
  have h8 := hP.1.1
  have hB := hI.1.1
  have hk10 : kk ≤ 10 := by rw [hkk]; exact q_k_leW hB.2.2.2.2.1
  have hVo : f_Vok V kk := by rw [hV, hkk]; exact v_w_ok
  refine aw_Met.of okX11_undo (Nat.le_of_ble_eq_true rfl) ?_
  show aw_W G mX11_undo 0 [.ref 81, .int a1] [] (zH n I L c) (0, 0) _
  refine aw_iload_n dX11_undo_0 rfl ?_
  refine aw_S0c (As := [_]) dX11_undo_1 k11_110 rfl rfl (Nat.le_of_ble_eq_true rfl) ⟨⟨Nat.le_of_ble_eq_true rfl, Nat.le_of_ble_eq_true rfl⟩, ⟨Nat.le_of_ble_eq_true rfl, Nat.le_of_ble_eq_true rfl⟩⟩ ⟨rfl, rfl⟩ (w_isTwo G a1) (fun v h2 hq => ?_)
  obtain ⟨rfl, rfl⟩ := hq
  refine aw_if_ne_B (tgt := 10) dX11_undo_4 (by decide) (fun z => absurd z hz) (fun c4 => ?_)
  refine aw_bipush (v := -2) dX11_undo_7 (by decide) ?_
  refine aw_reti dX11_undo_9 rfl rfl ⟨Nat.le_of_ble_eq_true rfl, Nat.le_of_ble_eq_true rfl⟩ ?_
  exact ⟨rfl, _, rfl, hI, fun _ _ => rfl⟩
theorem zBm.w {b0 b1 : Nat → Nat} {l0 l1 x : Nat} {I : Nat → Nat → Int32} (h : zBm b0 b1 l0 l1 I) (hx : x < 256) (hl : l0 < 49) : zBm (va_up b0 l0 x) b1 (l0 + 1) l1 (aw_u (aw_u I 86 l0 (nI x)) 87 0 (nI (l0 + 1))) := by
  obtain ⟨h1, h2, h3, h4, h5, h6⟩ := h
  refine ⟨fun j hj => ?_, fun j hj => ?_, by rw [aw_u_eq], by rw [aw_u_nj (by decide), aw_u_ne (by decide)]; exact h4, by omega, h6⟩
  · rw [aw_u_ne (by decide)]
    by_cases e : j = l0
    · subst e; rw [aw_u_eq, va_up_at]; exact ⟨rfl, hx⟩
    · rw [aw_u_nj e, va_up_nat e]; exact h1 j hj
  · rw [aw_u_ne (by decide), aw_u_nj (by omega)]; exact h2 j hj
theorem zBm.c {b0 b1 : Nat → Nat} {l0 l1 x : Nat} {I : Nat → Nat → Int32} (h : zBm b0 b1 l0 l1 I) (hx : x < 256) (hl : l1 < 55) : zBm b0 (va_up b1 l1 x) l0 (l1 + 1) (aw_u (aw_u I 86 (56 + l1) (nI x)) 87 1 (nI (l1 + 1))) := by
  obtain ⟨h1, h2, h3, h4, h5, h6⟩ := h
  refine ⟨fun j hj => ?_, fun j hj => ?_, by rw [aw_u_nj (by decide), aw_u_ne (by decide)]; exact h3, by rw [aw_u_eq], h5, by omega⟩
  · rw [aw_u_ne (by decide), aw_u_nj (by omega)]; exact h1 j hj
  · rw [aw_u_ne (by decide)]
    by_cases e : j = l1
    · subst e; rw [aw_u_eq, va_up_at]; exact ⟨rfl, hx⟩
    · rw [aw_u_nj (by omega), va_up_nat e]; exact h2 j hj
theorem zBm.l0 {b0 b1 : Nat → Nat} {l0 l1 l : Nat} {I : Nat → Nat → Int32} (h : zBm b0 b1 l0 l1 I) (hl : l ≤ 49) : zBm b0 b1 l l1 (aw_u I 87 0 (nI l)) := by
  obtain ⟨h1, h2, h3, h4, h5, h6⟩ := h
  exact ⟨fun j hj => by rw [aw_u_ne (by decide)]; exact h1 j hj, fun j hj => by rw [aw_u_ne (by decide)]; exact h2 j hj, by rw [aw_u_eq], by rw [aw_u_nj (by decide)]; exact h4, hl, h6⟩
theorem zBm.l1 {b0 b1 : Nat → Nat} {l0 l1 l : Nat} {I : Nat → Nat → Int32} (h : zBm b0 b1 l0 l1 I) (hl : l ≤ 55) : zBm b0 b1 l0 l (aw_u I 87 1 (nI l)) := by
  obtain ⟨h1, h2, h3, h4, h5, h6⟩ := h
  exact ⟨fun j hj => by rw [aw_u_ne (by decide)]; exact h1 j hj, fun j hj => by rw [aw_u_ne (by decide)]; exact h2 j hj, by rw [aw_u_nj (by decide)]; exact h3, by rw [aw_u_eq], h5, hl⟩
theorem m_type0 (G : aw_G) {n c : Nat} {I : Nat → Nat → Int32} {L : Nat → Nat → Int64} {b0 b1 : Nat → Nat} {l0 l1 : Nat} {t u x y V g : Nat → Nat → Nat} {kk : Nat} {F S : Nat → Nat} {E : Nat → Nat → Int32} {fd : Int32} (hX : zTx b0 b1 l0 l1 t u x y V kk) (hI : zMI b0 b1 l0 l1 t u g F S E fd I) {p2 : Nat} (hp2 : p2 < 256) (hl : l0 < 49) : aw_Met G mX11_type [.ref 81, .int 0, .int (nI p2)] (zH n I L c) (fun v h2 => v = some (.int (nI (l0 + 1))) ∧ ∃ I2, h2 = zH n I2 L c ∧ (∀ t3 : Nat → Nat → Nat, (∀ k, k < 8 → t3 5 k = t 5 k) → t3 6 1 = 0 → zMI (va_up b0 l0 p2) b1 (l0 + 1) l1 t3 u g F S E fd I2) ∧ ∀ o, o < 81 → I2 o = I o) := by
  obtain ⟨hP, h60, h61, htc, hV, hkk, hx, hy⟩ := id hX
  have h8 := hP.1.1
  have hB := hI.1.1
  have hk10 : kk ≤ 10 := by rw [hkk]; exact q_k_leW hB.2.2.2.2.1
  have hVo : f_Vok V kk := by rw [hV, hkk]; exact v_w_ok
  refine aw_Met.of okX11_type (Nat.le_of_ble_eq_true rfl) ?_
  show aw_W G mX11_type 0 [.ref 81, .int 0, .int (nI p2)] [] (zH n I L c) (0, 0) _
  refine aw_iload_n dX11_type_0 rfl ?_
  refine aw_S0c (As := [_]) dX11_type_1 k11_110 rfl rfl (Nat.le_of_ble_eq_true rfl) ⟨⟨Nat.le_of_ble_eq_true rfl, Nat.le_of_ble_eq_true rfl⟩, ⟨Nat.le_of_ble_eq_true rfl, Nat.le_of_ble_eq_true rfl⟩⟩ ⟨rfl, rfl⟩ (w_isTwo G 0) (fun v h2 hq => ?_)
  obtain ⟨rfl, rfl⟩ := hq
  refine aw_if_eq_B (tgt := 19) dX11_type_4 (by decide) (fun z => absurd z (fun q => q (by decide))) (fun c4 => ?_)
  refine aw_iload_n dX11_type_7 rfl ?_
  refine aw_i2l dX11_type_8 ?_
  refine aw_lconst (v := 0) dX11_type_9 rfl ?_
  refine aw_ldc2 dX11_type_10 co11_113 ?_
  refine aw_S0c (As := [_, _, _]) dX11_type_13 k11_81 rfl rfl (Nat.le_of_ble_eq_true rfl) ⟨⟨Nat.le_of_ble_eq_true rfl, Nat.le_of_ble_eq_true rfl⟩, ⟨Nat.le_of_ble_eq_true rfl, Nat.le_of_ble_eq_true rfl⟩⟩ ⟨rfl, rfl⟩ (w_in G (nI p2) (b := 256) rfl rfl) (fun v h2 hq => ?_)
  obtain ⟨rfl, rfl⟩ := hq
  refine aw_if_ne_B (tgt := 22) dX11_type_16 (by decide) (fun c16 => ?_) (fun z => absurd z (fun q => q ((zok_nI (by omega)).mpr hp2)))
  refine aw_aload_n dX11_type_22 rfl ?_
  refine aw_getR dX11_type_23 f11_25 rfl ⟨Nat.le_of_ble_eq_true rfl, Nat.le_of_ble_eq_true rfl⟩ rfl rfl ?_
  refine aw_iload_n dX11_type_26 rfl ?_
  refine aw_iald_n (j := 0) dX11_type_27 rfl (Nat.le_of_ble_eq_true rfl) (by decide) (by omega) ?_
  refine aw_top hB.2.2.1 ?_
  refine aw_iload_n dX11_type_28 rfl ?_
  refine aw_if_ne (tgt := 37) dX11_type_29 (by decide) (fun z => absurd (by decide) z) (fun _ => ?_)
  refine aw_bipush (v := 49) dX11_type_32 (by decide) ?_
  refine aw_goto (tgt := 39) dX11_type_34 (by decide) ?_
  refine aw_ic_ne_n (a := l0) (b := 49) (tgt := 45) dX11_type_39 (by decide) (by omega) (by omega) (fun c39 => ?_) (fun z => absurd z (by omega))
  refine aw_aload_n dX11_type_45 rfl ?_
  refine aw_getR dX11_type_46 f11_22 rfl ⟨Nat.le_of_ble_eq_true rfl, Nat.le_of_ble_eq_true rfl⟩ rfl rfl ?_
  refine aw_bipush (v := 56) dX11_type_49 (by decide) ?_
  refine aw_iload_n dX11_type_51 rfl ?_
  refine aw_imul_n (a := 56) (b := 0) dX11_type_52 ?_
  refine aw_aload_n dX11_type_53 rfl ?_
  refine aw_getR dX11_type_54 f11_25 rfl ⟨Nat.le_of_ble_eq_true rfl, Nat.le_of_ble_eq_true rfl⟩ rfl rfl ?_
  refine aw_iload_n dX11_type_57 rfl ?_
  refine aw_iald_n (j := 0) dX11_type_58 rfl (Nat.le_of_ble_eq_true rfl) (by decide) (by omega) ?_
  refine aw_top hB.2.2.1 ?_
  refine aw_iadd_n (a := 56 * 0) (b := l0) dX11_type_59 ?_
  refine aw_iload_n dX11_type_60 rfl ?_
  refine aw_iast_n (j := (56 * 0) + l0) dX11_type_61 rfl ⟨Nat.le_of_ble_eq_true rfl, Nat.le_of_ble_eq_true rfl⟩ (by decide) (by omega) ?_
  rw [show 56 * 0 + l0 = l0 by omega]
  refine aw_aload_n dX11_type_62 rfl ?_
  refine aw_getR dX11_type_63 f11_25 rfl ⟨Nat.le_of_ble_eq_true rfl, Nat.le_of_ble_eq_true rfl⟩ rfl rfl ?_
  refine aw_iload_n dX11_type_66 rfl ?_
  refine aw_dup2 dX11_type_67 rfl rfl ?_
  refine aw_iald_n (j := 0) dX11_type_68 rfl (Nat.le_of_ble_eq_true rfl) (by decide) (by omega) ?_
  refine aw_top ((congrFun (aw_u_ne (show 87 ≠ 86 by decide)) _).trans hB.2.2.1) ?_
  refine aw_iconst (v := 1) dX11_type_69 rfl ?_
  refine aw_iadd_n (a := l0) (b := 1) dX11_type_70 ?_
  refine aw_iast_n (j := 0) dX11_type_71 rfl ⟨Nat.le_of_ble_eq_true rfl, Nat.le_of_ble_eq_true rfl⟩ (by decide) (by omega) ?_
  refine aw_aload_n dX11_type_72 rfl ?_
  refine aw_getR dX11_type_73 f11_25 rfl ⟨Nat.le_of_ble_eq_true rfl, Nat.le_of_ble_eq_true rfl⟩ rfl rfl ?_
  refine aw_iload_n dX11_type_76 rfl ?_
  refine aw_iald_n (j := 0) dX11_type_77 rfl (Nat.le_of_ble_eq_true rfl) (by decide) (by omega) ?_
  refine aw_top (show _ = nI (l0 + 1) from aw_u_eq) ?_
  refine aw_reti dX11_type_78 rfl rfl ⟨Nat.le_of_ble_eq_true rfl, Nat.le_of_ble_eq_true rfl⟩ ?_
  refine ⟨rfl, _, rfl, fun t3 h5 h6 => hI.tx (c0 := (va_up b0 l0 p2)) (c1 := b1) (k0 := (l0 + 1)) (k1 := l1) ?_ h5 (h6.trans h61.symm) (fun o a b => by rw [aw_u_ne b, aw_u_ne a]), fun o ho => by rw [aw_u_ne (by omega), aw_u_ne (by omega)]⟩
  exact hB.w hp2 hl
theorem m_type0F (G : aw_G) {n c : Nat} {I : Nat → Nat → Int32} {L : Nat → Nat → Int64} {b0 b1 : Nat → Nat} {l0 l1 : Nat} {t u x y V g : Nat → Nat → Nat} {kk : Nat} {F S : Nat → Nat} {E : Nat → Nat → Int32} {fd : Int32} (hX : zTx b0 b1 l0 l1 t u x y V kk) (hI : zMI b0 b1 l0 l1 t u g F S E fd I) {p2 : Nat} (hp2 : p2 < 256) (hl : l0 = 49) : aw_Met G mX11_type [.ref 81, .int 0, .int (nI p2)] (zH n I L c) (fun v h2 => v = some (.int (-4)) ∧ ∃ I2, h2 = zH n I2 L c ∧ zMI b0 b1 l0 l1 t u g F S E fd I2 ∧ ∀ o, o < 81 → I2 o = I o) := by
  obtain ⟨hP, h60, h61, htc, hV, hkk, hx, hy⟩ := id hX
  have h8 := hP.1.1
  have hB := hI.1.1
  have hk10 : kk ≤ 10 := by rw [hkk]; exact q_k_leW hB.2.2.2.2.1
  have hVo : f_Vok V kk := by rw [hV, hkk]; exact v_w_ok
  refine aw_Met.of okX11_type (Nat.le_of_ble_eq_true rfl) ?_
  show aw_W G mX11_type 0 [.ref 81, .int 0, .int (nI p2)] [] (zH n I L c) (0, 0) _
  refine aw_iload_n dX11_type_0 rfl ?_
  refine aw_S0c (As := [_]) dX11_type_1 k11_110 rfl rfl (Nat.le_of_ble_eq_true rfl) ⟨⟨Nat.le_of_ble_eq_true rfl, Nat.le_of_ble_eq_true rfl⟩, ⟨Nat.le_of_ble_eq_true rfl, Nat.le_of_ble_eq_true rfl⟩⟩ ⟨rfl, rfl⟩ (w_isTwo G 0) (fun v h2 hq => ?_)
  obtain ⟨rfl, rfl⟩ := hq
  refine aw_if_eq_B (tgt := 19) dX11_type_4 (by decide) (fun z => absurd z (fun q => q (by decide))) (fun c4 => ?_)
  refine aw_iload_n dX11_type_7 rfl ?_
  refine aw_i2l dX11_type_8 ?_
  refine aw_lconst (v := 0) dX11_type_9 rfl ?_
  refine aw_ldc2 dX11_type_10 co11_113 ?_
  refine aw_S0c (As := [_, _, _]) dX11_type_13 k11_81 rfl rfl (Nat.le_of_ble_eq_true rfl) ⟨⟨Nat.le_of_ble_eq_true rfl, Nat.le_of_ble_eq_true rfl⟩, ⟨Nat.le_of_ble_eq_true rfl, Nat.le_of_ble_eq_true rfl⟩⟩ ⟨rfl, rfl⟩ (w_in G (nI p2) (b := 256) rfl rfl) (fun v h2 hq => ?_)
  obtain ⟨rfl, rfl⟩ := hq
  refine aw_if_ne_B (tgt := 22) dX11_type_16 (by decide) (fun c16 => ?_) (fun z => absurd z (fun q => q ((zok_nI (by omega)).mpr hp2)))
  refine aw_aload_n dX11_type_22 rfl ?_
  refine aw_getR dX11_type_23 f11_25 rfl ⟨Nat.le_of_ble_eq_true rfl, Nat.le_of_ble_eq_true rfl⟩ rfl rfl ?_
  refine aw_iload_n dX11_type_26 rfl ?_
  refine aw_iald_n (j := 0) dX11_type_27 rfl (Nat.le_of_ble_eq_true rfl) (by decide) (by omega) ?_
  refine aw_top hB.2.2.1 ?_
  refine aw_iload_n dX11_type_28 rfl ?_
  refine aw_if_ne (tgt := 37) dX11_type_29 (by decide) (fun z => absurd (by decide) z) (fun _ => ?_)
  refine aw_bipush (v := 49) dX11_type_32 (by decide) ?_
  refine aw_goto (tgt := 39) dX11_type_34 (by decide) ?_
  refine aw_ic_ne_n (a := l0) (b := 49) (tgt := 45) dX11_type_39 (by decide) (by omega) (by omega) (fun z => absurd z (fun q => q hl)) (fun c39 => ?_)
  refine aw_bipush (v := -4) dX11_type_42 (by decide) ?_
  refine aw_reti dX11_type_44 rfl rfl ⟨Nat.le_of_ble_eq_true rfl, Nat.le_of_ble_eq_true rfl⟩ ?_
  exact ⟨rfl, _, rfl, hI, fun _ _ => rfl⟩
theorem m_wipe0 (G : aw_G) {n c : Nat} {I : Nat → Nat → Int32} {L : Nat → Nat → Int64} {b0 b1 : Nat → Nat} {l0 l1 : Nat} {t u x y V g : Nat → Nat → Nat} {kk : Nat} {F S : Nat → Nat} {E : Nat → Nat → Int32} {fd : Int32} (hX : zTx b0 b1 l0 l1 t u x y V kk) (hI : zMI b0 b1 l0 l1 t u g F S E fd I)  : aw_Met G mX11_wipe [.ref 81, .int 0] (zH n I L c) (fun v h2 => v = some (.int (nI l0)) ∧ ∃ I2, h2 = zH n I2 L c ∧ (∀ t3 : Nat → Nat → Nat, (∀ k, k < 8 → t3 5 k = t 5 k) → t3 6 1 = 0 → zMI b0 b1 0 l1 t3 u g F S E fd I2) ∧ ∀ o, o < 81 → I2 o = I o) := by
  obtain ⟨hP, h60, h61, htc, hV, hkk, hx, hy⟩ := id hX
  have h8 := hP.1.1
  have hB := hI.1.1
  have hk10 : kk ≤ 10 := by rw [hkk]; exact q_k_leW hB.2.2.2.2.1
  have hVo : f_Vok V kk := by rw [hV, hkk]; exact v_w_ok
  refine aw_Met.of okX11_wipe (Nat.le_of_ble_eq_true rfl) ?_
  show aw_W G mX11_wipe 0 [.ref 81, .int 0, aw_x] [] (zH n I L c) (0, 0) _
  refine aw_iload_n dX11_wipe_0 rfl ?_
  refine aw_S0c (As := [_]) dX11_wipe_1 k11_110 rfl rfl (Nat.le_of_ble_eq_true rfl) ⟨⟨Nat.le_of_ble_eq_true rfl, Nat.le_of_ble_eq_true rfl⟩, ⟨Nat.le_of_ble_eq_true rfl, Nat.le_of_ble_eq_true rfl⟩⟩ ⟨rfl, rfl⟩ (w_isTwo G 0) (fun v h2 hq => ?_)
  obtain ⟨rfl, rfl⟩ := hq
  refine aw_if_ne_B (tgt := 10) dX11_wipe_4 (by decide) (fun c4 => ?_) (fun z => absurd z (fun q => q (by decide)))
  refine aw_aload_n dX11_wipe_10 rfl ?_
  refine aw_getR dX11_wipe_11 f11_25 rfl ⟨Nat.le_of_ble_eq_true rfl, Nat.le_of_ble_eq_true rfl⟩ rfl rfl ?_
  refine aw_iload_n dX11_wipe_14 rfl ?_
  refine aw_iald_n (j := 0) dX11_wipe_15 rfl (Nat.le_of_ble_eq_true rfl) (by decide) (by omega) ?_
  refine aw_top hB.2.2.1 ?_
  refine aw_istore_n (ls2 := [_, _, _]) dX11_wipe_16 (by decide) rfl rfl ?_
  refine aw_aload_n dX11_wipe_17 rfl ?_
  refine aw_getR dX11_wipe_18 f11_25 rfl ⟨Nat.le_of_ble_eq_true rfl, Nat.le_of_ble_eq_true rfl⟩ rfl rfl ?_
  refine aw_iload_n dX11_wipe_21 rfl ?_
  refine aw_iconst (v := 0) dX11_wipe_22 rfl ?_
  refine aw_iast_n (j := 0) dX11_wipe_23 rfl ⟨Nat.le_of_ble_eq_true rfl, Nat.le_of_ble_eq_true rfl⟩ (by decide) (by omega) ?_
  refine aw_iload_n dX11_wipe_24 rfl ?_
  refine aw_reti dX11_wipe_25 rfl rfl ⟨Nat.le_of_ble_eq_true rfl, Nat.le_of_ble_eq_true rfl⟩ ?_
  refine ⟨rfl, _, rfl, fun t3 h5 h6 => hI.tx (c0 := b0) (c1 := b1) (k0 := 0) (k1 := l1) ?_ h5 (h6.trans h61.symm) (fun o a b => by rw [aw_u_ne b]), fun o ho => by rw [aw_u_ne (by omega)]⟩
  exact hB.l0 (l := 0) (by omega)
theorem m_undo0N (G : aw_G) {n c : Nat} {I : Nat → Nat → Int32} {L : Nat → Nat → Int64} {b0 b1 : Nat → Nat} {l0 l1 : Nat} {t u x y V g : Nat → Nat → Nat} {kk : Nat} {F S : Nat → Nat} {E : Nat → Nat → Int32} {fd : Int32} (hX : zTx b0 b1 l0 l1 t u x y V kk) (hI : zMI b0 b1 l0 l1 t u g F S E fd I) (hl : l0 = 0) : aw_Met G mX11_undo [.ref 81, .int 0] (zH n I L c) (fun v h2 => v = some (.int (-3)) ∧ ∃ I2, h2 = zH n I2 L c ∧ zMI b0 b1 l0 l1 t u g F S E fd I2 ∧ ∀ o, o < 81 → I2 o = I o) := by
  obtain ⟨hP, h60, h61, htc, hV, hkk, hx, hy⟩ := id hX
  have h8 := hP.1.1
  have hB := hI.1.1
  have hk10 : kk ≤ 10 := by rw [hkk]; exact q_k_leW hB.2.2.2.2.1
  have hVo : f_Vok V kk := by rw [hV, hkk]; exact v_w_ok
  have hl9 := hB.2.2.2.2
  refine aw_Met.of okX11_undo (Nat.le_of_ble_eq_true rfl) ?_
  show aw_W G mX11_undo 0 [.ref 81, .int 0] [] (zH n I L c) (0, 0) _
  refine aw_iload_n dX11_undo_0 rfl ?_
  refine aw_S0c (As := [_]) dX11_undo_1 k11_110 rfl rfl (Nat.le_of_ble_eq_true rfl) ⟨⟨Nat.le_of_ble_eq_true rfl, Nat.le_of_ble_eq_true rfl⟩, ⟨Nat.le_of_ble_eq_true rfl, Nat.le_of_ble_eq_true rfl⟩⟩ ⟨rfl, rfl⟩ (w_isTwo G 0) (fun v h2 hq => ?_)
  obtain ⟨rfl, rfl⟩ := hq
  refine aw_if_ne_B (tgt := 10) dX11_undo_4 (by decide) (fun c4 => ?_) (fun z => absurd z (fun q => q (by decide)))
  refine aw_aload_n dX11_undo_10 rfl ?_
  refine aw_getR dX11_undo_11 f11_25 rfl ⟨Nat.le_of_ble_eq_true rfl, Nat.le_of_ble_eq_true rfl⟩ rfl rfl ?_
  refine aw_iload_n dX11_undo_14 rfl ?_
  refine aw_iald_n (j := 0) dX11_undo_15 rfl (Nat.le_of_ble_eq_true rfl) (by decide) (by omega) ?_
  refine aw_top hB.2.2.1 ?_
  refine aw_if_ne_n (a := l0) (tgt := 22) dX11_undo_16 (by decide) (by omega) (fun z => absurd z (fun q => q hl)) (fun c16 => ?_)
  refine aw_bipush (v := -3) dX11_undo_19 (by decide) ?_
  refine aw_reti dX11_undo_21 rfl rfl ⟨Nat.le_of_ble_eq_true rfl, Nat.le_of_ble_eq_true rfl⟩ ?_
  exact ⟨rfl, _, rfl, hI, fun _ _ => rfl⟩
theorem m_undo0 (G : aw_G) {n c : Nat} {I : Nat → Nat → Int32} {L : Nat → Nat → Int64} {b0 b1 : Nat → Nat} {l0 l1 : Nat} {t u x y V g : Nat → Nat → Nat} {kk : Nat} {F S : Nat → Nat} {E : Nat → Nat → Int32} {fd : Int32} (hX : zTx b0 b1 l0 l1 t u x y V kk) (hI : zMI b0 b1 l0 l1 t u g F S E fd I) (hl : ¬ l0 = 0) : aw_Met G mX11_undo [.ref 81, .int 0] (zH n I L c) (fun v h2 => v = some (.int (nI (l0 - 1))) ∧ ∃ I2, h2 = zH n I2 L c ∧ (∀ t3 : Nat → Nat → Nat, (∀ k, k < 8 → t3 5 k = t 5 k) → t3 6 1 = 0 → zMI b0 b1 (l0 - 1) l1 t3 u g F S E fd I2) ∧ ∀ o, o < 81 → I2 o = I o) := by
  obtain ⟨hP, h60, h61, htc, hV, hkk, hx, hy⟩ := id hX
  have h8 := hP.1.1
  have hB := hI.1.1
  have hk10 : kk ≤ 10 := by rw [hkk]; exact q_k_leW hB.2.2.2.2.1
  have hVo : f_Vok V kk := by rw [hV, hkk]; exact v_w_ok
  have hl9 := hB.2.2.2.2
  refine aw_Met.of okX11_undo (Nat.le_of_ble_eq_true rfl) ?_
  show aw_W G mX11_undo 0 [.ref 81, .int 0] [] (zH n I L c) (0, 0) _
  refine aw_iload_n dX11_undo_0 rfl ?_
  refine aw_S0c (As := [_]) dX11_undo_1 k11_110 rfl rfl (Nat.le_of_ble_eq_true rfl) ⟨⟨Nat.le_of_ble_eq_true rfl, Nat.le_of_ble_eq_true rfl⟩, ⟨Nat.le_of_ble_eq_true rfl, Nat.le_of_ble_eq_true rfl⟩⟩ ⟨rfl, rfl⟩ (w_isTwo G 0) (fun v h2 hq => ?_)
  obtain ⟨rfl, rfl⟩ := hq
  refine aw_if_ne_B (tgt := 10) dX11_undo_4 (by decide) (fun c4 => ?_) (fun z => absurd z (fun q => q (by decide)))
  refine aw_aload_n dX11_undo_10 rfl ?_
  refine aw_getR dX11_undo_11 f11_25 rfl ⟨Nat.le_of_ble_eq_true rfl, Nat.le_of_ble_eq_true rfl⟩ rfl rfl ?_
  refine aw_iload_n dX11_undo_14 rfl ?_
  refine aw_iald_n (j := 0) dX11_undo_15 rfl (Nat.le_of_ble_eq_true rfl) (by decide) (by omega) ?_
  refine aw_top hB.2.2.1 ?_
  refine aw_if_ne_n (a := l0) (tgt := 22) dX11_undo_16 (by decide) (by omega) (fun c16 => ?_) (fun z => absurd z hl)
  refine aw_aload_n dX11_undo_22 rfl ?_
  refine aw_getR dX11_undo_23 f11_25 rfl ⟨Nat.le_of_ble_eq_true rfl, Nat.le_of_ble_eq_true rfl⟩ rfl rfl ?_
  refine aw_iload_n dX11_undo_26 rfl ?_
  refine aw_dup2 dX11_undo_27 rfl rfl ?_
  refine aw_iald_n (j := 0) dX11_undo_28 rfl (Nat.le_of_ble_eq_true rfl) (by decide) (by omega) ?_
  refine aw_top hB.2.2.1 ?_
  refine aw_iconst (v := 1) dX11_undo_29 rfl ?_
  refine aw_isub_n (a := l0) (b := 1) dX11_undo_30 (by omega) ?_
  refine aw_iast_n (j := 0) dX11_undo_31 rfl ⟨Nat.le_of_ble_eq_true rfl, Nat.le_of_ble_eq_true rfl⟩ (by decide) (by omega) ?_
  refine aw_aload_n dX11_undo_32 rfl ?_
  refine aw_getR dX11_undo_33 f11_25 rfl ⟨Nat.le_of_ble_eq_true rfl, Nat.le_of_ble_eq_true rfl⟩ rfl rfl ?_
  refine aw_iload_n dX11_undo_36 rfl ?_
  refine aw_iald_n (j := 0) dX11_undo_37 rfl (Nat.le_of_ble_eq_true rfl) (by decide) (by omega) ?_
  refine aw_top aw_u_eq ?_
  refine aw_reti dX11_undo_38 rfl rfl ⟨Nat.le_of_ble_eq_true rfl, Nat.le_of_ble_eq_true rfl⟩ ?_
  refine ⟨rfl, _, rfl, fun t3 h5 h6 => hI.tx (c0 := b0) (c1 := b1) (k0 := (l0 - 1)) (k1 := l1) ?_ h5 (h6.trans h61.symm) (fun o a b => by rw [aw_u_ne b]), fun o ho => by rw [aw_u_ne (by omega)]⟩
  exact hB.l0 (l := l0 - 1) (by omega)
theorem m_type1 (G : aw_G) {n c : Nat} {I : Nat → Nat → Int32} {L : Nat → Nat → Int64} {b0 b1 : Nat → Nat} {l0 l1 : Nat} {t u x y V g : Nat → Nat → Nat} {kk : Nat} {F S : Nat → Nat} {E : Nat → Nat → Int32} {fd : Int32} (hX : zTx b0 b1 l0 l1 t u x y V kk) (hI : zMI b0 b1 l0 l1 t u g F S E fd I) {p2 : Nat} (hp2 : p2 < 256) (hl : l1 < 55) : aw_Met G mX11_type [.ref 81, .int 1, .int (nI p2)] (zH n I L c) (fun v h2 => v = some (.int (nI (l1 + 1))) ∧ ∃ I2, h2 = zH n I2 L c ∧ (∀ t3 : Nat → Nat → Nat, (∀ k, k < 8 → t3 5 k = t 5 k) → t3 6 1 = 0 → zMI b0 (va_up b1 l1 p2) l0 (l1 + 1) t3 u g F S E fd I2) ∧ ∀ o, o < 81 → I2 o = I o) := by
  obtain ⟨hP, h60, h61, htc, hV, hkk, hx, hy⟩ := id hX
  have h8 := hP.1.1
  have hB := hI.1.1
  have hk10 : kk ≤ 10 := by rw [hkk]; exact q_k_leW hB.2.2.2.2.1
  have hVo : f_Vok V kk := by rw [hV, hkk]; exact v_w_ok
  refine aw_Met.of okX11_type (Nat.le_of_ble_eq_true rfl) ?_
  show aw_W G mX11_type 0 [.ref 81, .int 1, .int (nI p2)] [] (zH n I L c) (0, 0) _
  refine aw_iload_n dX11_type_0 rfl ?_
  refine aw_S0c (As := [_]) dX11_type_1 k11_110 rfl rfl (Nat.le_of_ble_eq_true rfl) ⟨⟨Nat.le_of_ble_eq_true rfl, Nat.le_of_ble_eq_true rfl⟩, ⟨Nat.le_of_ble_eq_true rfl, Nat.le_of_ble_eq_true rfl⟩⟩ ⟨rfl, rfl⟩ (w_isTwo G 1) (fun v h2 hq => ?_)
  obtain ⟨rfl, rfl⟩ := hq
  refine aw_if_eq_B (tgt := 19) dX11_type_4 (by decide) (fun z => absurd z (fun q => q (by decide))) (fun c4 => ?_)
  refine aw_iload_n dX11_type_7 rfl ?_
  refine aw_i2l dX11_type_8 ?_
  refine aw_lconst (v := 0) dX11_type_9 rfl ?_
  refine aw_ldc2 dX11_type_10 co11_113 ?_
  refine aw_S0c (As := [_, _, _]) dX11_type_13 k11_81 rfl rfl (Nat.le_of_ble_eq_true rfl) ⟨⟨Nat.le_of_ble_eq_true rfl, Nat.le_of_ble_eq_true rfl⟩, ⟨Nat.le_of_ble_eq_true rfl, Nat.le_of_ble_eq_true rfl⟩⟩ ⟨rfl, rfl⟩ (w_in G (nI p2) (b := 256) rfl rfl) (fun v h2 hq => ?_)
  obtain ⟨rfl, rfl⟩ := hq
  refine aw_if_ne_B (tgt := 22) dX11_type_16 (by decide) (fun c16 => ?_) (fun z => absurd z (fun q => q ((zok_nI (by omega)).mpr hp2)))
  refine aw_aload_n dX11_type_22 rfl ?_
  refine aw_getR dX11_type_23 f11_25 rfl ⟨Nat.le_of_ble_eq_true rfl, Nat.le_of_ble_eq_true rfl⟩ rfl rfl ?_
  refine aw_iload_n dX11_type_26 rfl ?_
  refine aw_iald_n (j := 1) dX11_type_27 rfl (Nat.le_of_ble_eq_true rfl) (by decide) (by omega) ?_
  refine aw_top hB.2.2.2.1 ?_
  refine aw_iload_n dX11_type_28 rfl ?_
  refine aw_if_ne (tgt := 37) dX11_type_29 (by decide) (fun _ => ?_) (fun z => absurd z (by decide))
  refine aw_bipush (v := 55) dX11_type_37 (by decide) ?_
  refine aw_ic_ne_n (a := l1) (b := 55) (tgt := 45) dX11_type_39 (by decide) (by omega) (by omega) (fun c39 => ?_) (fun z => absurd z (by omega))
  refine aw_aload_n dX11_type_45 rfl ?_
  refine aw_getR dX11_type_46 f11_22 rfl ⟨Nat.le_of_ble_eq_true rfl, Nat.le_of_ble_eq_true rfl⟩ rfl rfl ?_
  refine aw_bipush (v := 56) dX11_type_49 (by decide) ?_
  refine aw_iload_n dX11_type_51 rfl ?_
  refine aw_imul_n (a := 56) (b := 1) dX11_type_52 ?_
  refine aw_aload_n dX11_type_53 rfl ?_
  refine aw_getR dX11_type_54 f11_25 rfl ⟨Nat.le_of_ble_eq_true rfl, Nat.le_of_ble_eq_true rfl⟩ rfl rfl ?_
  refine aw_iload_n dX11_type_57 rfl ?_
  refine aw_iald_n (j := 1) dX11_type_58 rfl (Nat.le_of_ble_eq_true rfl) (by decide) (by omega) ?_
  refine aw_top hB.2.2.2.1 ?_
  refine aw_iadd_n (a := 56 * 1) (b := l1) dX11_type_59 ?_
  refine aw_iload_n dX11_type_60 rfl ?_
  refine aw_iast_n (j := (56 * 1) + l1) dX11_type_61 rfl ⟨Nat.le_of_ble_eq_true rfl, Nat.le_of_ble_eq_true rfl⟩ (by decide) (by omega) ?_
  rw [show 56 * 1 + l1 = 56 + l1 by omega]
  refine aw_aload_n dX11_type_62 rfl ?_
  refine aw_getR dX11_type_63 f11_25 rfl ⟨Nat.le_of_ble_eq_true rfl, Nat.le_of_ble_eq_true rfl⟩ rfl rfl ?_
  refine aw_iload_n dX11_type_66 rfl ?_
  refine aw_dup2 dX11_type_67 rfl rfl ?_
  refine aw_iald_n (j := 1) dX11_type_68 rfl (Nat.le_of_ble_eq_true rfl) (by decide) (by omega) ?_
  refine aw_top ((congrFun (aw_u_ne (show 87 ≠ 86 by decide)) _).trans hB.2.2.2.1) ?_
  refine aw_iconst (v := 1) dX11_type_69 rfl ?_
  refine aw_iadd_n (a := l1) (b := 1) dX11_type_70 ?_
  refine aw_iast_n (j := 1) dX11_type_71 rfl ⟨Nat.le_of_ble_eq_true rfl, Nat.le_of_ble_eq_true rfl⟩ (by decide) (by omega) ?_
  refine aw_aload_n dX11_type_72 rfl ?_
  refine aw_getR dX11_type_73 f11_25 rfl ⟨Nat.le_of_ble_eq_true rfl, Nat.le_of_ble_eq_true rfl⟩ rfl rfl ?_
  refine aw_iload_n dX11_type_76 rfl ?_
  refine aw_iald_n (j := 1) dX11_type_77 rfl (Nat.le_of_ble_eq_true rfl) (by decide) (by omega) ?_
  refine aw_top (show _ = nI (l1 + 1) from aw_u_eq) ?_
  refine aw_reti dX11_type_78 rfl rfl ⟨Nat.le_of_ble_eq_true rfl, Nat.le_of_ble_eq_true rfl⟩ ?_
  refine ⟨rfl, _, rfl, fun t3 h5 h6 => hI.tx (c0 := b0) (c1 := (va_up b1 l1 p2)) (k0 := l0) (k1 := (l1 + 1)) ?_ h5 (h6.trans h61.symm) (fun o a b => by rw [aw_u_ne b, aw_u_ne a]), fun o ho => by rw [aw_u_ne (by omega), aw_u_ne (by omega)]⟩
  exact hB.c hp2 hl
theorem m_type1F (G : aw_G) {n c : Nat} {I : Nat → Nat → Int32} {L : Nat → Nat → Int64} {b0 b1 : Nat → Nat} {l0 l1 : Nat} {t u x y V g : Nat → Nat → Nat} {kk : Nat} {F S : Nat → Nat} {E : Nat → Nat → Int32} {fd : Int32} (hX : zTx b0 b1 l0 l1 t u x y V kk) (hI : zMI b0 b1 l0 l1 t u g F S E fd I) {p2 : Nat} (hp2 : p2 < 256) (hl : l1 = 55) : aw_Met G mX11_type [.ref 81, .int 1, .int (nI p2)] (zH n I L c) (fun v h2 => v = some (.int (-4)) ∧ ∃ I2, h2 = zH n I2 L c ∧ zMI b0 b1 l0 l1 t u g F S E fd I2 ∧ ∀ o, o < 81 → I2 o = I o) := by
  obtain ⟨hP, h60, h61, htc, hV, hkk, hx, hy⟩ := id hX
  have h8 := hP.1.1
  have hB := hI.1.1
  have hk10 : kk ≤ 10 := by rw [hkk]; exact q_k_leW hB.2.2.2.2.1
  have hVo : f_Vok V kk := by rw [hV, hkk]; exact v_w_ok
  refine aw_Met.of okX11_type (Nat.le_of_ble_eq_true rfl) ?_
  show aw_W G mX11_type 0 [.ref 81, .int 1, .int (nI p2)] [] (zH n I L c) (0, 0) _
  refine aw_iload_n dX11_type_0 rfl ?_
  refine aw_S0c (As := [_]) dX11_type_1 k11_110 rfl rfl (Nat.le_of_ble_eq_true rfl) ⟨⟨Nat.le_of_ble_eq_true rfl, Nat.le_of_ble_eq_true rfl⟩, ⟨Nat.le_of_ble_eq_true rfl, Nat.le_of_ble_eq_true rfl⟩⟩ ⟨rfl, rfl⟩ (w_isTwo G 1) (fun v h2 hq => ?_)
  obtain ⟨rfl, rfl⟩ := hq
  refine aw_if_eq_B (tgt := 19) dX11_type_4 (by decide) (fun z => absurd z (fun q => q (by decide))) (fun c4 => ?_)
  refine aw_iload_n dX11_type_7 rfl ?_
  refine aw_i2l dX11_type_8 ?_
  refine aw_lconst (v := 0) dX11_type_9 rfl ?_
  refine aw_ldc2 dX11_type_10 co11_113 ?_
  refine aw_S0c (As := [_, _, _]) dX11_type_13 k11_81 rfl rfl (Nat.le_of_ble_eq_true rfl) ⟨⟨Nat.le_of_ble_eq_true rfl, Nat.le_of_ble_eq_true rfl⟩, ⟨Nat.le_of_ble_eq_true rfl, Nat.le_of_ble_eq_true rfl⟩⟩ ⟨rfl, rfl⟩ (w_in G (nI p2) (b := 256) rfl rfl) (fun v h2 hq => ?_)
  obtain ⟨rfl, rfl⟩ := hq
  refine aw_if_ne_B (tgt := 22) dX11_type_16 (by decide) (fun c16 => ?_) (fun z => absurd z (fun q => q ((zok_nI (by omega)).mpr hp2)))
  refine aw_aload_n dX11_type_22 rfl ?_
  refine aw_getR dX11_type_23 f11_25 rfl ⟨Nat.le_of_ble_eq_true rfl, Nat.le_of_ble_eq_true rfl⟩ rfl rfl ?_
  refine aw_iload_n dX11_type_26 rfl ?_
  refine aw_iald_n (j := 1) dX11_type_27 rfl (Nat.le_of_ble_eq_true rfl) (by decide) (by omega) ?_
  refine aw_top hB.2.2.2.1 ?_
  refine aw_iload_n dX11_type_28 rfl ?_
  refine aw_if_ne (tgt := 37) dX11_type_29 (by decide) (fun _ => ?_) (fun z => absurd z (by decide))
  refine aw_bipush (v := 55) dX11_type_37 (by decide) ?_
  refine aw_ic_ne_n (a := l1) (b := 55) (tgt := 45) dX11_type_39 (by decide) (by omega) (by omega) (fun z => absurd z (fun q => q hl)) (fun c39 => ?_)
  refine aw_bipush (v := -4) dX11_type_42 (by decide) ?_
  refine aw_reti dX11_type_44 rfl rfl ⟨Nat.le_of_ble_eq_true rfl, Nat.le_of_ble_eq_true rfl⟩ ?_
  exact ⟨rfl, _, rfl, hI, fun _ _ => rfl⟩
theorem m_wipe1 (G : aw_G) {n c : Nat} {I : Nat → Nat → Int32} {L : Nat → Nat → Int64} {b0 b1 : Nat → Nat} {l0 l1 : Nat} {t u x y V g : Nat → Nat → Nat} {kk : Nat} {F S : Nat → Nat} {E : Nat → Nat → Int32} {fd : Int32} (hX : zTx b0 b1 l0 l1 t u x y V kk) (hI : zMI b0 b1 l0 l1 t u g F S E fd I)  : aw_Met G mX11_wipe [.ref 81, .int 1] (zH n I L c) (fun v h2 => v = some (.int (nI l1)) ∧ ∃ I2, h2 = zH n I2 L c ∧ (∀ t3 : Nat → Nat → Nat, (∀ k, k < 8 → t3 5 k = t 5 k) → t3 6 1 = 0 → zMI b0 b1 l0 0 t3 u g F S E fd I2) ∧ ∀ o, o < 81 → I2 o = I o) := by
  obtain ⟨hP, h60, h61, htc, hV, hkk, hx, hy⟩ := id hX
  have h8 := hP.1.1
  have hB := hI.1.1
  have hk10 : kk ≤ 10 := by rw [hkk]; exact q_k_leW hB.2.2.2.2.1
  have hVo : f_Vok V kk := by rw [hV, hkk]; exact v_w_ok
  refine aw_Met.of okX11_wipe (Nat.le_of_ble_eq_true rfl) ?_
  show aw_W G mX11_wipe 0 [.ref 81, .int 1, aw_x] [] (zH n I L c) (0, 0) _
  refine aw_iload_n dX11_wipe_0 rfl ?_
  refine aw_S0c (As := [_]) dX11_wipe_1 k11_110 rfl rfl (Nat.le_of_ble_eq_true rfl) ⟨⟨Nat.le_of_ble_eq_true rfl, Nat.le_of_ble_eq_true rfl⟩, ⟨Nat.le_of_ble_eq_true rfl, Nat.le_of_ble_eq_true rfl⟩⟩ ⟨rfl, rfl⟩ (w_isTwo G 1) (fun v h2 hq => ?_)
  obtain ⟨rfl, rfl⟩ := hq
  refine aw_if_ne_B (tgt := 10) dX11_wipe_4 (by decide) (fun c4 => ?_) (fun z => absurd z (fun q => q (by decide)))
  refine aw_aload_n dX11_wipe_10 rfl ?_
  refine aw_getR dX11_wipe_11 f11_25 rfl ⟨Nat.le_of_ble_eq_true rfl, Nat.le_of_ble_eq_true rfl⟩ rfl rfl ?_
  refine aw_iload_n dX11_wipe_14 rfl ?_
  refine aw_iald_n (j := 1) dX11_wipe_15 rfl (Nat.le_of_ble_eq_true rfl) (by decide) (by omega) ?_
  refine aw_top hB.2.2.2.1 ?_
  refine aw_istore_n (ls2 := [_, _, _]) dX11_wipe_16 (by decide) rfl rfl ?_
  refine aw_aload_n dX11_wipe_17 rfl ?_
  refine aw_getR dX11_wipe_18 f11_25 rfl ⟨Nat.le_of_ble_eq_true rfl, Nat.le_of_ble_eq_true rfl⟩ rfl rfl ?_
  refine aw_iload_n dX11_wipe_21 rfl ?_
  refine aw_iconst (v := 0) dX11_wipe_22 rfl ?_
  refine aw_iast_n (j := 1) dX11_wipe_23 rfl ⟨Nat.le_of_ble_eq_true rfl, Nat.le_of_ble_eq_true rfl⟩ (by decide) (by omega) ?_
  refine aw_iload_n dX11_wipe_24 rfl ?_
  refine aw_reti dX11_wipe_25 rfl rfl ⟨Nat.le_of_ble_eq_true rfl, Nat.le_of_ble_eq_true rfl⟩ ?_
  refine ⟨rfl, _, rfl, fun t3 h5 h6 => hI.tx (c0 := b0) (c1 := b1) (k0 := l0) (k1 := 0) ?_ h5 (h6.trans h61.symm) (fun o a b => by rw [aw_u_ne b]), fun o ho => by rw [aw_u_ne (by omega)]⟩
  exact hB.l1 (l := 0) (by omega)
theorem m_undo1N (G : aw_G) {n c : Nat} {I : Nat → Nat → Int32} {L : Nat → Nat → Int64} {b0 b1 : Nat → Nat} {l0 l1 : Nat} {t u x y V g : Nat → Nat → Nat} {kk : Nat} {F S : Nat → Nat} {E : Nat → Nat → Int32} {fd : Int32} (hX : zTx b0 b1 l0 l1 t u x y V kk) (hI : zMI b0 b1 l0 l1 t u g F S E fd I) (hl : l1 = 0) : aw_Met G mX11_undo [.ref 81, .int 1] (zH n I L c) (fun v h2 => v = some (.int (-3)) ∧ ∃ I2, h2 = zH n I2 L c ∧ zMI b0 b1 l0 l1 t u g F S E fd I2 ∧ ∀ o, o < 81 → I2 o = I o) := by
  obtain ⟨hP, h60, h61, htc, hV, hkk, hx, hy⟩ := id hX
  have h8 := hP.1.1
  have hB := hI.1.1
  have hk10 : kk ≤ 10 := by rw [hkk]; exact q_k_leW hB.2.2.2.2.1
  have hVo : f_Vok V kk := by rw [hV, hkk]; exact v_w_ok
  have hl9 := hB.2.2.2.2
  refine aw_Met.of okX11_undo (Nat.le_of_ble_eq_true rfl) ?_
  show aw_W G mX11_undo 0 [.ref 81, .int 1] [] (zH n I L c) (0, 0) _
  refine aw_iload_n dX11_undo_0 rfl ?_
  refine aw_S0c (As := [_]) dX11_undo_1 k11_110 rfl rfl (Nat.le_of_ble_eq_true rfl) ⟨⟨Nat.le_of_ble_eq_true rfl, Nat.le_of_ble_eq_true rfl⟩, ⟨Nat.le_of_ble_eq_true rfl, Nat.le_of_ble_eq_true rfl⟩⟩ ⟨rfl, rfl⟩ (w_isTwo G 1) (fun v h2 hq => ?_)
  obtain ⟨rfl, rfl⟩ := hq
  refine aw_if_ne_B (tgt := 10) dX11_undo_4 (by decide) (fun c4 => ?_) (fun z => absurd z (fun q => q (by decide)))
  refine aw_aload_n dX11_undo_10 rfl ?_
  refine aw_getR dX11_undo_11 f11_25 rfl ⟨Nat.le_of_ble_eq_true rfl, Nat.le_of_ble_eq_true rfl⟩ rfl rfl ?_
  refine aw_iload_n dX11_undo_14 rfl ?_
  refine aw_iald_n (j := 1) dX11_undo_15 rfl (Nat.le_of_ble_eq_true rfl) (by decide) (by omega) ?_
  refine aw_top hB.2.2.2.1 ?_
  refine aw_if_ne_n (a := l1) (tgt := 22) dX11_undo_16 (by decide) (by omega) (fun z => absurd z (fun q => q hl)) (fun c16 => ?_)
  refine aw_bipush (v := -3) dX11_undo_19 (by decide) ?_
  refine aw_reti dX11_undo_21 rfl rfl ⟨Nat.le_of_ble_eq_true rfl, Nat.le_of_ble_eq_true rfl⟩ ?_
  exact ⟨rfl, _, rfl, hI, fun _ _ => rfl⟩
theorem m_undo1 (G : aw_G) {n c : Nat} {I : Nat → Nat → Int32} {L : Nat → Nat → Int64} {b0 b1 : Nat → Nat} {l0 l1 : Nat} {t u x y V g : Nat → Nat → Nat} {kk : Nat} {F S : Nat → Nat} {E : Nat → Nat → Int32} {fd : Int32} (hX : zTx b0 b1 l0 l1 t u x y V kk) (hI : zMI b0 b1 l0 l1 t u g F S E fd I) (hl : ¬ l1 = 0) : aw_Met G mX11_undo [.ref 81, .int 1] (zH n I L c) (fun v h2 => v = some (.int (nI (l1 - 1))) ∧ ∃ I2, h2 = zH n I2 L c ∧ (∀ t3 : Nat → Nat → Nat, (∀ k, k < 8 → t3 5 k = t 5 k) → t3 6 1 = 0 → zMI b0 b1 l0 (l1 - 1) t3 u g F S E fd I2) ∧ ∀ o, o < 81 → I2 o = I o) := by
  obtain ⟨hP, h60, h61, htc, hV, hkk, hx, hy⟩ := id hX
  have h8 := hP.1.1
  have hB := hI.1.1
  have hk10 : kk ≤ 10 := by rw [hkk]; exact q_k_leW hB.2.2.2.2.1
  have hVo : f_Vok V kk := by rw [hV, hkk]; exact v_w_ok
  have hl9 := hB.2.2.2.2
  refine aw_Met.of okX11_undo (Nat.le_of_ble_eq_true rfl) ?_
  show aw_W G mX11_undo 0 [.ref 81, .int 1] [] (zH n I L c) (0, 0) _
  refine aw_iload_n dX11_undo_0 rfl ?_
  refine aw_S0c (As := [_]) dX11_undo_1 k11_110 rfl rfl (Nat.le_of_ble_eq_true rfl) ⟨⟨Nat.le_of_ble_eq_true rfl, Nat.le_of_ble_eq_true rfl⟩, ⟨Nat.le_of_ble_eq_true rfl, Nat.le_of_ble_eq_true rfl⟩⟩ ⟨rfl, rfl⟩ (w_isTwo G 1) (fun v h2 hq => ?_)
  obtain ⟨rfl, rfl⟩ := hq
  refine aw_if_ne_B (tgt := 10) dX11_undo_4 (by decide) (fun c4 => ?_) (fun z => absurd z (fun q => q (by decide)))
  refine aw_aload_n dX11_undo_10 rfl ?_
  refine aw_getR dX11_undo_11 f11_25 rfl ⟨Nat.le_of_ble_eq_true rfl, Nat.le_of_ble_eq_true rfl⟩ rfl rfl ?_
  refine aw_iload_n dX11_undo_14 rfl ?_
  refine aw_iald_n (j := 1) dX11_undo_15 rfl (Nat.le_of_ble_eq_true rfl) (by decide) (by omega) ?_
  refine aw_top hB.2.2.2.1 ?_
  refine aw_if_ne_n (a := l1) (tgt := 22) dX11_undo_16 (by decide) (by omega) (fun c16 => ?_) (fun z => absurd z hl)
  refine aw_aload_n dX11_undo_22 rfl ?_
  refine aw_getR dX11_undo_23 f11_25 rfl ⟨Nat.le_of_ble_eq_true rfl, Nat.le_of_ble_eq_true rfl⟩ rfl rfl ?_
  refine aw_iload_n dX11_undo_26 rfl ?_
  refine aw_dup2 dX11_undo_27 rfl rfl ?_
  refine aw_iald_n (j := 1) dX11_undo_28 rfl (Nat.le_of_ble_eq_true rfl) (by decide) (by omega) ?_
  refine aw_top hB.2.2.2.1 ?_
  refine aw_iconst (v := 1) dX11_undo_29 rfl ?_
  refine aw_isub_n (a := l1) (b := 1) dX11_undo_30 (by omega) ?_
  refine aw_iast_n (j := 1) dX11_undo_31 rfl ⟨Nat.le_of_ble_eq_true rfl, Nat.le_of_ble_eq_true rfl⟩ (by decide) (by omega) ?_
  refine aw_aload_n dX11_undo_32 rfl ?_
  refine aw_getR dX11_undo_33 f11_25 rfl ⟨Nat.le_of_ble_eq_true rfl, Nat.le_of_ble_eq_true rfl⟩ rfl rfl ?_
  refine aw_iload_n dX11_undo_36 rfl ?_
  refine aw_iald_n (j := 1) dX11_undo_37 rfl (Nat.le_of_ble_eq_true rfl) (by decide) (by omega) ?_
  refine aw_top aw_u_eq ?_
  refine aw_reti dX11_undo_38 rfl rfl ⟨Nat.le_of_ble_eq_true rfl, Nat.le_of_ble_eq_true rfl⟩ ?_
  refine ⟨rfl, _, rfl, fun t3 h5 h6 => hI.tx (c0 := b0) (c1 := b1) (k0 := l0) (k1 := (l1 - 1)) ?_ h5 (h6.trans h61.symm) (fun o a b => by rw [aw_u_ne b]), fun o ho => by rw [aw_u_ne (by omega)]⟩
  exact hB.l1 (l := l1 - 1) (by omega)
theorem m_lateB (G : aw_G) {n c : Nat} {I : Nat → Nat → Int32} {L : Nat → Nat → Int64} {b0 b1 : Nat → Nat} {l0 l1 : Nat} {t u x y V g : Nat → Nat → Nat} {kk : Nat} {F S : Nat → Nat} {E : Nat → Nat → Int32} {fd : Int32} (hX : zTx b0 b1 l0 l1 t u x y V kk) (hI : zMI b0 b1 l0 l1 t u g F S E fd I) {a1 : Int32} {a2 : Int32} (hz : ¬ (zok a1 8 ∧ zok a2 10)) : aw_Met G mX11_late [.ref 81, .int a1, .int a2] (zH n I L c) (fun v h2 => v = some (.int (-2)) ∧ ∃ I2, h2 = zH n I2 L c ∧ zMI b0 b1 l0 l1 t u g F S E fd I2 ∧ ∀ o, o < 81 → I2 o = I o) := by
  obtain ⟨hP, h60, h61, htc, hV, hkk, hx, hy⟩ := id hX
  have h8 := hP.1.1
  have hB := hI.1.1
  have hk10 : kk ≤ 10 := by rw [hkk]; exact q_k_leW hB.2.2.2.2.1
  have hVo : f_Vok V kk := by rw [hV, hkk]; exact v_w_ok
  refine aw_Met.of okX11_late (Nat.le_of_ble_eq_true rfl) ?_
  show aw_W G mX11_late 0 [.ref 81, .int a1, .int a2, aw_x] [] (zH n I L c) (0, 0) _
  refine aw_iload_n dX11_late_0 rfl ?_
  refine aw_i2l dX11_late_1 ?_
  refine aw_lconst (v := 0) dX11_late_2 rfl ?_
  refine aw_ldc2 dX11_late_3 co11_151 ?_
  refine aw_S0c (As := [_, _, _]) dX11_late_6 k11_81 rfl rfl (Nat.le_of_ble_eq_true rfl) ⟨⟨Nat.le_of_ble_eq_true rfl, Nat.le_of_ble_eq_true rfl⟩, ⟨Nat.le_of_ble_eq_true rfl, Nat.le_of_ble_eq_true rfl⟩⟩ ⟨rfl, rfl⟩ (w_in G a1 (b := 8) rfl rfl) (fun v h2 hq => ?_)
  obtain ⟨rfl, rfl⟩ := hq
  refine aw_if_eq_B (tgt := 24) dX11_late_9 (by decide) (fun c9 => ?_) (fun c9 => ?_)
  · refine aw_bipush (v := -2) dX11_late_24 (by decide) ?_
    refine aw_reti dX11_late_26 rfl rfl ⟨Nat.le_of_ble_eq_true rfl, Nat.le_of_ble_eq_true rfl⟩ ?_
    exact ⟨rfl, _, rfl, hI, fun _ _ => rfl⟩
  · refine aw_iload_n dX11_late_12 rfl ?_
    refine aw_i2l dX11_late_13 ?_
    refine aw_lconst (v := 0) dX11_late_14 rfl ?_
    refine aw_ldc2 dX11_late_15 co11_158 ?_
    refine aw_S0c (As := [_, _, _]) dX11_late_18 k11_81 rfl rfl (Nat.le_of_ble_eq_true rfl) ⟨⟨Nat.le_of_ble_eq_true rfl, Nat.le_of_ble_eq_true rfl⟩, ⟨Nat.le_of_ble_eq_true rfl, Nat.le_of_ble_eq_true rfl⟩⟩ ⟨rfl, rfl⟩ (w_in G a2 (b := 10) rfl rfl) (fun v h2 hq => ?_)
    obtain ⟨rfl, rfl⟩ := hq
    refine aw_if_ne_B (tgt := 27) dX11_late_21 (by decide) (fun z => absurd z (fun q => hz ⟨c9, q⟩)) (fun c21 => ?_)
    refine aw_bipush (v := -2) dX11_late_24 (by decide) ?_
    refine aw_reti dX11_late_26 rfl rfl ⟨Nat.le_of_ble_eq_true rfl, Nat.le_of_ble_eq_true rfl⟩ ?_
    exact ⟨rfl, _, rfl, hI, fun _ _ => rfl⟩
theorem zAm.mv3 {u : Nat → Nat → Nat} {I I2 : Nat → Nat → Int32} (h : zAm u I) (h1 : I2 81 12 = I 81 12) (h2 : I2 91 = I 91) : zAm u I2 := ⟨by rw [h1]; exact h.1, fun a ha => by rw [h2]; exact h.2 a ha⟩
theorem zSm.mv3 {g : Nat → Nat → Nat} {I I2 : Nat → Nat → Int32} (h : zSm g I) (h1 : I2 81 28 = I 81 28) (h2 : I2 103 = I 103) : zSm g I2 := ⟨by rw [h1]; exact h.1, h.2.1, fun a ha => by rw [h2]; exact h.2.2 a ha⟩
theorem m_late (G : aw_G) {n c : Nat} {I : Nat → Nat → Int32} {L : Nat → Nat → Int64} {b0 b1 : Nat → Nat} {l0 l1 : Nat} {t u x y V g : Nat → Nat → Nat} {kk : Nat} {F S : Nat → Nat} {E : Nat → Nat → Int32} {fd : Int32} (hX : zTx b0 b1 l0 l1 t u x y V kk) (hI : zMI b0 b1 l0 l1 t u g F S E fd I) {p1 p2 : Nat} (hp1 : p1 < 8) (hp2 : p2 < 10) : aw_Met G mX11_late [.ref 81, .int (nI p1), .int (nI p2)] (zH n I L c) (fun v h2 => v = some (.int (nI (t 5 p1))) ∧ ∃ I2, h2 = zH n I2 L c ∧ zMI b0 b1 l0 l1 (aw_u t 5 p1 p2) u g F S E fd I2 ∧ ∀ o, o < 81 → I2 o = I o) := by
  obtain ⟨hP, h60, h61, htc, hV, hkk, hx, hy⟩ := id hX
  have h8 := hP.1.1
  have hB := hI.1.1
  have hk10 : kk ≤ 10 := by rw [hkk]; exact q_k_leW hB.2.2.2.2.1
  have hVo : f_Vok V kk := by rw [hV, hkk]; exact v_w_ok
  refine aw_Met.of okX11_late (Nat.le_of_ble_eq_true rfl) ?_
  show aw_W G mX11_late 0 [.ref 81, .int (nI p1), .int (nI p2), aw_x] [] (zH n I L c) (0, 0) _
  refine aw_iload_n dX11_late_0 rfl ?_
  refine aw_i2l dX11_late_1 ?_
  refine aw_lconst (v := 0) dX11_late_2 rfl ?_
  refine aw_ldc2 dX11_late_3 co11_151 ?_
  refine aw_S0c (As := [_, _, _]) dX11_late_6 k11_81 rfl rfl (Nat.le_of_ble_eq_true rfl) ⟨⟨Nat.le_of_ble_eq_true rfl, Nat.le_of_ble_eq_true rfl⟩, ⟨Nat.le_of_ble_eq_true rfl, Nat.le_of_ble_eq_true rfl⟩⟩ ⟨rfl, rfl⟩ (w_in G (nI p1) (b := 8) rfl rfl) (fun v h2 hq => ?_)
  obtain ⟨rfl, rfl⟩ := hq
  refine aw_if_eq_B (tgt := 24) dX11_late_9 (by decide) (fun z => absurd z (fun q => q ((zok_nI (by omega)).mpr hp1))) (fun c9 => ?_)
  refine aw_iload_n dX11_late_12 rfl ?_
  refine aw_i2l dX11_late_13 ?_
  refine aw_lconst (v := 0) dX11_late_14 rfl ?_
  refine aw_ldc2 dX11_late_15 co11_158 ?_
  refine aw_S0c (As := [_, _, _]) dX11_late_18 k11_81 rfl rfl (Nat.le_of_ble_eq_true rfl) ⟨⟨Nat.le_of_ble_eq_true rfl, Nat.le_of_ble_eq_true rfl⟩, ⟨Nat.le_of_ble_eq_true rfl, Nat.le_of_ble_eq_true rfl⟩⟩ ⟨rfl, rfl⟩ (w_in G (nI p2) (b := 10) rfl rfl) (fun v h2 hq => ?_)
  obtain ⟨rfl, rfl⟩ := hq
  refine aw_if_ne_B (tgt := 27) dX11_late_21 (by decide) (fun c21 => ?_) (fun z => absurd z (fun q => q ((zok_nI (by omega)).mpr hp2)))
  refine aw_aload_n dX11_late_27 rfl ?_
  refine aw_getR dX11_late_28 f11_34 rfl ⟨Nat.le_of_ble_eq_true rfl, Nat.le_of_ble_eq_true rfl⟩ rfl rfl ?_
  refine aw_iload_n dX11_late_31 rfl ?_
  refine aw_iald_n (j := p1) dX11_late_32 rfl (Nat.le_of_ble_eq_true rfl) (by decide) (by omega) ?_
  refine aw_top (hI.1.2.1 p1 hp1) ?_
  refine aw_istore_n (ls2 := [_, _, _, _]) dX11_late_33 (by decide) rfl rfl ?_
  refine aw_aload_n dX11_late_34 rfl ?_
  refine aw_getR dX11_late_35 f11_34 rfl ⟨Nat.le_of_ble_eq_true rfl, Nat.le_of_ble_eq_true rfl⟩ rfl rfl ?_
  refine aw_iload_n dX11_late_38 rfl ?_
  refine aw_iload_n dX11_late_39 rfl ?_
  refine aw_iast_n (j := p1) dX11_late_40 rfl ⟨Nat.le_of_ble_eq_true rfl, Nat.le_of_ble_eq_true rfl⟩ (by decide) (by omega) ?_
  refine aw_iload_n dX11_late_41 rfl ?_
  refine aw_reti dX11_late_42 rfl rfl ⟨Nat.le_of_ble_eq_true rfl, Nat.le_of_ble_eq_true rfl⟩ ?_
  refine ⟨rfl, _, rfl, hI.mv (hB.mv (aw_u_ne (by decide)) (aw_u_ne (by decide))) (fun k hk => ?_) (hI.1.2.2.1.mv3 (by rw [aw_u_ne (by decide)]) (aw_u_ne (by decide))) (by rw [aw_u_ne (by decide), aw_u_ne (by decide)]; exact hI.1.2.2.2.1) (hI.1.2.2.2.2.1.mv3 (by rw [aw_u_ne (by decide)]) (aw_u_ne (by decide))) (fun o a b => aw_u_ne (by omega)) (fun j _ _ => by rw [aw_u_ne (by decide)]) (fun o a b => aw_u_ne (by omega)), fun o ho => aw_u_ne (by omega)⟩
  by_cases e : k = p1
  · subst e; rw [aw_u_eq, aw_u_eq]
  · rw [aw_u_nj e, aw_u_nj e]; exact hI.1.2.1 k hk
theorem m_answerB (G : aw_G) {n c : Nat} {I : Nat → Nat → Int32} {L : Nat → Nat → Int64} {b0 b1 : Nat → Nat} {l0 l1 : Nat} {t u x y V g : Nat → Nat → Nat} {kk : Nat} {F S : Nat → Nat} {E : Nat → Nat → Int32} {fd : Int32} (hX : zTx b0 b1 l0 l1 t u x y V kk) (hI : zMI b0 b1 l0 l1 t u g F S E fd I) {a1 : Int32} {a2 : Int32} (hz : ¬ (zok a1 40 ∧ zok a2 8)) : aw_Met G mX11_answer [.ref 81, .int a1, .int a2] (zH n I L c) (fun v h2 => v = some (.int (-2)) ∧ ∃ I2, h2 = zH n I2 L c ∧ zMI b0 b1 l0 l1 t u g F S E fd I2 ∧ ∀ o, o < 81 → I2 o = I o) := by
  obtain ⟨hP, h60, h61, htc, hV, hkk, hx, hy⟩ := id hX
  have h8 := hP.1.1
  have hB := hI.1.1
  have hk10 : kk ≤ 10 := by rw [hkk]; exact q_k_leW hB.2.2.2.2.1
  have hVo : f_Vok V kk := by rw [hV, hkk]; exact v_w_ok
  refine aw_Met.of okX11_answer (Nat.le_of_ble_eq_true rfl) ?_
  show aw_W G mX11_answer 0 [.ref 81, .int a1, .int a2] [] (zH n I L c) (0, 0) _
  refine aw_iload_n dX11_answer_0 rfl ?_
  refine aw_S0c (As := [_]) dX11_answer_1 k11_160 rfl rfl (Nat.le_of_ble_eq_true rfl) ⟨⟨Nat.le_of_ble_eq_true rfl, Nat.le_of_ble_eq_true rfl⟩, ⟨Nat.le_of_ble_eq_true rfl, Nat.le_of_ble_eq_true rfl⟩⟩ ⟨rfl, rfl⟩ (w_isHour G a1) (fun v h2 hq => ?_)
  obtain ⟨rfl, rfl⟩ := hq
  refine aw_if_eq_B (tgt := 14) dX11_answer_4 (by decide) (fun c4 => ?_) (fun c4 => ?_)
  · refine aw_bipush (v := -2) dX11_answer_14 (by decide) ?_
    refine aw_reti dX11_answer_16 rfl rfl ⟨Nat.le_of_ble_eq_true rfl, Nat.le_of_ble_eq_true rfl⟩ ?_
    exact ⟨rfl, _, rfl, hI, fun _ _ => rfl⟩
  · refine aw_iload_n dX11_answer_7 rfl ?_
    refine aw_S0c (As := [_]) dX11_answer_8 k11_163 rfl rfl (Nat.le_of_ble_eq_true rfl) ⟨⟨Nat.le_of_ble_eq_true rfl, Nat.le_of_ble_eq_true rfl⟩, ⟨Nat.le_of_ble_eq_true rfl, Nat.le_of_ble_eq_true rfl⟩⟩ ⟨rfl, rfl⟩ (w_isPlace G a2) (fun v h2 hq => ?_)
    obtain ⟨rfl, rfl⟩ := hq
    refine aw_if_ne_B (tgt := 17) dX11_answer_11 (by decide) (fun z => absurd z (fun q => hz ⟨c4, q⟩)) (fun c11 => ?_)
    refine aw_bipush (v := -2) dX11_answer_14 (by decide) ?_
    refine aw_reti dX11_answer_16 rfl rfl ⟨Nat.le_of_ble_eq_true rfl, Nat.le_of_ble_eq_true rfl⟩ ?_
    exact ⟨rfl, _, rfl, hI, fun _ _ => rfl⟩
theorem m_answerF (G : aw_G) {n c : Nat} {I : Nat → Nat → Int32} {L : Nat → Nat → Int64} {b0 b1 : Nat → Nat} {l0 l1 : Nat} {t u x y V g : Nat → Nat → Nat} {kk : Nat} {F S : Nat → Nat} {E : Nat → Nat → Int32} {fd : Int32} (hX : zTx b0 b1 l0 l1 t u x y V kk) (hI : zMI b0 b1 l0 l1 t u g F S E fd I) {p1 p2 : Nat} (hp1 : p1 < 40) (hp2 : p2 < 8) (hn : u 2 0 = 8) : aw_Met G mX11_answer [.ref 81, .int (nI p1), .int (nI p2)] (zH n I L c) (fun v h2 => v = some (.int (-4)) ∧ ∃ I2, h2 = zH n I2 L c ∧ zMI b0 b1 l0 l1 t u g F S E fd I2 ∧ ∀ o, o < 81 → I2 o = I o) := by
  obtain ⟨hP, h60, h61, htc, hV, hkk, hx, hy⟩ := id hX
  have h8 := hP.1.1
  have hB := hI.1.1
  have hk10 : kk ≤ 10 := by rw [hkk]; exact q_k_leW hB.2.2.2.2.1
  have hVo : f_Vok V kk := by rw [hV, hkk]; exact v_w_ok
  refine aw_Met.of okX11_answer (Nat.le_of_ble_eq_true rfl) ?_
  show aw_W G mX11_answer 0 [.ref 81, .int (nI p1), .int (nI p2)] [] (zH n I L c) (0, 0) _
  refine aw_iload_n dX11_answer_0 rfl ?_
  refine aw_S0c (As := [_]) dX11_answer_1 k11_160 rfl rfl (Nat.le_of_ble_eq_true rfl) ⟨⟨Nat.le_of_ble_eq_true rfl, Nat.le_of_ble_eq_true rfl⟩, ⟨Nat.le_of_ble_eq_true rfl, Nat.le_of_ble_eq_true rfl⟩⟩ ⟨rfl, rfl⟩ (w_isHour G ((nI p1))) (fun v h2 hq => ?_)
  obtain ⟨rfl, rfl⟩ := hq
  refine aw_if_eq_B (tgt := 14) dX11_answer_4 (by decide) (fun z => absurd z (fun q => q ((zok_nI (by omega)).mpr hp1))) (fun c4 => ?_)
  refine aw_iload_n dX11_answer_7 rfl ?_
  refine aw_S0c (As := [_]) dX11_answer_8 k11_163 rfl rfl (Nat.le_of_ble_eq_true rfl) ⟨⟨Nat.le_of_ble_eq_true rfl, Nat.le_of_ble_eq_true rfl⟩, ⟨Nat.le_of_ble_eq_true rfl, Nat.le_of_ble_eq_true rfl⟩⟩ ⟨rfl, rfl⟩ (w_isPlace G ((nI p2))) (fun v h2 hq => ?_)
  obtain ⟨rfl, rfl⟩ := hq
  refine aw_if_ne_B (tgt := 17) dX11_answer_11 (by decide) (fun c11 => ?_) (fun z => absurd z (fun q => q ((zok_nI (by omega)).mpr hp2)))
  refine aw_aload_n dX11_answer_17 rfl ?_
  refine aw_getI dX11_answer_18 f11_166 rfl ⟨Nat.le_of_ble_eq_true rfl, Nat.le_of_ble_eq_true rfl⟩ rfl ?_
  refine aw_top hI.1.2.2.1.1 ?_
  refine aw_bipush (v := 8) dX11_answer_21 (by decide) ?_
  refine aw_ic_ne_n (a := u 2 0) (b := 8) (tgt := 29) dX11_answer_23 (by decide) (by omega) (by omega) (fun z => absurd z (fun q => q hn)) (fun c23 => ?_)
  refine aw_bipush (v := -4) dX11_answer_26 (by decide) ?_
  refine aw_reti dX11_answer_28 rfl rfl ⟨Nat.le_of_ble_eq_true rfl, Nat.le_of_ble_eq_true rfl⟩ ?_
  exact ⟨rfl, _, rfl, hI, fun _ _ => rfl⟩
theorem u_push_am {u : Nat → Nat → Nat} {h p : Nat} {I : Nat → Nat → Int32} (hA : zAm u I) : zAm (u_push u h p) (aw_u (aw_u (aw_u I 91 (2 * u 2 0) (nI h)) 91 (2 * u 2 0 + 1) (nI p)) 81 12 (nI (u 2 0 + 1))) := by
  unfold u_push
  refine ⟨by rw [aw_u_eq, aw_u_eq], fun a ha => ?_⟩
  rw [aw_u_ne (show 0 ≠ 2 by decide), aw_u_ne (show 1 ≠ 2 by decide), aw_u_ne (show 0 ≠ 1 by decide), aw_u_ne (show 91 ≠ 81 by decide)]
  have := hA.2 a ha
  by_cases he : a = u 2 0
  · subst he; rw [aw_u_nj (show 2 * u 2 0 ≠ 2 * u 2 0 + 1 by omega), aw_u_eq, aw_u_eq, aw_u_eq, aw_u_eq]; exact ⟨rfl, rfl⟩
  · rw [aw_u_nj (show 2 * a ≠ 2 * u 2 0 + 1 by omega), aw_u_nj (show 2 * a ≠ 2 * u 2 0 by omega), aw_u_nj (show 2 * a + 1 ≠ 2 * u 2 0 + 1 by omega), aw_u_nj (show 2 * a + 1 ≠ 2 * u 2 0 by omega), aw_u_nj he, aw_u_nj he, aw_u_ne (show 1 ≠ 0 by decide)]; exact this
theorem m_answer (G : aw_G) {n c : Nat} {I : Nat → Nat → Int32} {L : Nat → Nat → Int64} {b0 b1 : Nat → Nat} {l0 l1 : Nat} {t u x y V g : Nat → Nat → Nat} {kk : Nat} {F S : Nat → Nat} {E : Nat → Nat → Int32} {fd : Int32} (hX : zTx b0 b1 l0 l1 t u x y V kk) (hI : zMI b0 b1 l0 l1 t u g F S E fd I) {p1 p2 : Nat} (hp1 : p1 < 40) (hp2 : p2 < 8) (hn : u 2 0 < 8) : aw_Met G mX11_answer [.ref 81, .int (nI p1), .int (nI p2)] (zH n I L c) (fun v h2 => v = some (.int (nI (u 2 0 + 1))) ∧ ∃ I2, h2 = zH n I2 L c ∧ zMI b0 b1 l0 l1 t (u_push u p1 p2) g F S E fd I2 ∧ ∀ o, o < 81 → I2 o = I o) := by
  obtain ⟨hP, h60, h61, htc, hV, hkk, hx, hy⟩ := id hX
  have h8 := hP.1.1
  have hB := hI.1.1
  have hk10 : kk ≤ 10 := by rw [hkk]; exact q_k_leW hB.2.2.2.2.1
  have hVo : f_Vok V kk := by rw [hV, hkk]; exact v_w_ok
  refine aw_Met.of okX11_answer (Nat.le_of_ble_eq_true rfl) ?_
  show aw_W G mX11_answer 0 [.ref 81, .int (nI p1), .int (nI p2)] [] (zH n I L c) (0, 0) _
  refine aw_iload_n dX11_answer_0 rfl ?_
  refine aw_S0c (As := [_]) dX11_answer_1 k11_160 rfl rfl (Nat.le_of_ble_eq_true rfl) ⟨⟨Nat.le_of_ble_eq_true rfl, Nat.le_of_ble_eq_true rfl⟩, ⟨Nat.le_of_ble_eq_true rfl, Nat.le_of_ble_eq_true rfl⟩⟩ ⟨rfl, rfl⟩ (w_isHour G ((nI p1))) (fun v h2 hq => ?_)
  obtain ⟨rfl, rfl⟩ := hq
  refine aw_if_eq_B (tgt := 14) dX11_answer_4 (by decide) (fun z => absurd z (fun q => q ((zok_nI (by omega)).mpr hp1))) (fun c4 => ?_)
  refine aw_iload_n dX11_answer_7 rfl ?_
  refine aw_S0c (As := [_]) dX11_answer_8 k11_163 rfl rfl (Nat.le_of_ble_eq_true rfl) ⟨⟨Nat.le_of_ble_eq_true rfl, Nat.le_of_ble_eq_true rfl⟩, ⟨Nat.le_of_ble_eq_true rfl, Nat.le_of_ble_eq_true rfl⟩⟩ ⟨rfl, rfl⟩ (w_isPlace G ((nI p2))) (fun v h2 hq => ?_)
  obtain ⟨rfl, rfl⟩ := hq
  refine aw_if_ne_B (tgt := 17) dX11_answer_11 (by decide) (fun c11 => ?_) (fun z => absurd z (fun q => q ((zok_nI (by omega)).mpr hp2)))
  refine aw_aload_n dX11_answer_17 rfl ?_
  refine aw_getI dX11_answer_18 f11_166 rfl ⟨Nat.le_of_ble_eq_true rfl, Nat.le_of_ble_eq_true rfl⟩ rfl ?_
  refine aw_top hI.1.2.2.1.1 ?_
  refine aw_bipush (v := 8) dX11_answer_21 (by decide) ?_
  refine aw_ic_ne_n (a := u 2 0) (b := 8) (tgt := 29) dX11_answer_23 (by decide) (by omega) (by omega) (fun c23 => ?_) (fun z => absurd z (by omega))
  refine aw_aload_n dX11_answer_29 rfl ?_
  refine aw_getR dX11_answer_30 f11_37 rfl ⟨Nat.le_of_ble_eq_true rfl, Nat.le_of_ble_eq_true rfl⟩ rfl rfl ?_
  refine aw_iconst (v := 2) dX11_answer_33 rfl ?_
  refine aw_aload_n dX11_answer_34 rfl ?_
  refine aw_getI dX11_answer_35 f11_166 rfl ⟨Nat.le_of_ble_eq_true rfl, Nat.le_of_ble_eq_true rfl⟩ rfl ?_
  refine aw_top hI.1.2.2.1.1 ?_
  refine aw_imul_n (a := 2) (b := u 2 0) dX11_answer_38 ?_
  refine aw_iload_n dX11_answer_39 rfl ?_
  refine aw_iast_n (j := 2 * (u 2 0)) dX11_answer_40 rfl ⟨Nat.le_of_ble_eq_true rfl, Nat.le_of_ble_eq_true rfl⟩ (by decide) (by omega) ?_
  refine aw_aload_n dX11_answer_41 rfl ?_
  refine aw_getR dX11_answer_42 f11_37 rfl ⟨Nat.le_of_ble_eq_true rfl, Nat.le_of_ble_eq_true rfl⟩ rfl rfl ?_
  refine aw_iconst (v := 2) dX11_answer_45 rfl ?_
  refine aw_aload_n dX11_answer_46 rfl ?_
  refine aw_getI dX11_answer_47 f11_166 rfl ⟨Nat.le_of_ble_eq_true rfl, Nat.le_of_ble_eq_true rfl⟩ rfl ?_
  refine aw_top ((congrFun (aw_u_ne (show 81 ≠ 91 by decide)) 12).trans hI.1.2.2.1.1) ?_
  refine aw_imul_n (a := 2) (b := u 2 0) dX11_answer_50 ?_
  refine aw_iconst (v := 1) dX11_answer_51 rfl ?_
  refine aw_iadd_n (a := 2 * (u 2 0)) (b := 1) dX11_answer_52 ?_
  refine aw_iload_n dX11_answer_53 rfl ?_
  refine aw_iast_n (j := (2 * (u 2 0)) + 1) dX11_answer_54 rfl ⟨Nat.le_of_ble_eq_true rfl, Nat.le_of_ble_eq_true rfl⟩ (by decide) (by omega) ?_
  refine aw_aload_n dX11_answer_55 rfl ?_
  refine aw_dup dX11_answer_56 rfl ?_
  refine aw_getI dX11_answer_57 f11_166 rfl ⟨Nat.le_of_ble_eq_true rfl, Nat.le_of_ble_eq_true rfl⟩ rfl ?_
  refine aw_top ((congrFun (aw_u_ne (show 81 ≠ 91 by decide)) 12).trans ((congrFun (aw_u_ne (show 81 ≠ 91 by decide)) 12).trans hI.1.2.2.1.1)) ?_
  refine aw_iconst (v := 1) dX11_answer_60 rfl ?_
  refine aw_iadd_n (a := u 2 0) (b := 1) dX11_answer_61 ?_
  refine aw_putI dX11_answer_62 f11_166 rfl ⟨Nat.le_of_ble_eq_true rfl, Nat.le_of_ble_eq_true rfl⟩ (Or.inl rfl) rfl ?_
  refine aw_aload_n dX11_answer_65 rfl ?_
  refine aw_getI dX11_answer_66 f11_166 rfl ⟨Nat.le_of_ble_eq_true rfl, Nat.le_of_ble_eq_true rfl⟩ rfl ?_
  refine aw_top aw_u_eq ?_
  refine aw_reti dX11_answer_69 rfl rfl ⟨Nat.le_of_ble_eq_true rfl, Nat.le_of_ble_eq_true rfl⟩ ?_
  exact ⟨rfl, _, rfl, hI.mv (hB.mv (by rw [aw_u_ne (by decide), aw_u_ne (by decide), aw_u_ne (by decide)]) (by rw [aw_u_ne (by decide), aw_u_ne (by decide), aw_u_ne (by decide)])) (fun k hk => by rw [aw_u_ne (by decide), aw_u_ne (by decide), aw_u_ne (by decide)]; exact hI.1.2.1 k hk) (u_push_am hI.1.2.2.1) (by rw [aw_u_nj (by decide), aw_u_ne (by decide), aw_u_ne (by decide)]; exact hI.1.2.2.2.1) (hI.1.2.2.2.2.1.mv3 (by rw [aw_u_nj (by decide), aw_u_ne (by decide), aw_u_ne (by decide)]) (by rw [aw_u_ne (by decide), aw_u_ne (by decide), aw_u_ne (by decide)])) (fun o a b => by rw [aw_u_ne (by omega), aw_u_ne (by omega), aw_u_ne (by omega)]) (fun j a _ => by rw [aw_u_nj a, aw_u_ne (by decide), aw_u_ne (by decide)]) (fun o a b => by rw [aw_u_ne (by omega), aw_u_ne (by omega), aw_u_ne (by omega)]), fun o ho => by rw [aw_u_ne (by omega), aw_u_ne (by omega), aw_u_ne (by omega)]⟩
theorem m_backN (G : aw_G) {n c : Nat} {I : Nat → Nat → Int32} {L : Nat → Nat → Int64} {b0 b1 : Nat → Nat} {l0 l1 : Nat} {t u x y V g : Nat → Nat → Nat} {kk : Nat} {F S : Nat → Nat} {E : Nat → Nat → Int32} {fd : Int32} (hX : zTx b0 b1 l0 l1 t u x y V kk) (hI : zMI b0 b1 l0 l1 t u g F S E fd I) (hn : u 2 0 = 0) : aw_Met G mX11_back [.ref 81] (zH n I L c) (fun v h2 => v = some (.int (-3)) ∧ ∃ I2, h2 = zH n I2 L c ∧ zMI b0 b1 l0 l1 t u g F S E fd I2 ∧ ∀ o, o < 81 → I2 o = I o) := by
  obtain ⟨hP, h60, h61, htc, hV, hkk, hx, hy⟩ := id hX
  have h8 := hP.1.1
  have hB := hI.1.1
  have hk10 : kk ≤ 10 := by rw [hkk]; exact q_k_leW hB.2.2.2.2.1
  have hVo : f_Vok V kk := by rw [hV, hkk]; exact v_w_ok
  have hu8 := hP.2.2.1.1
  refine aw_Met.of okX11_back (Nat.le_of_ble_eq_true rfl) ?_
  show aw_W G mX11_back 0 [.ref 81] [] (zH n I L c) (0, 0) _
  refine aw_aload_n dX11_back_0 rfl ?_
  refine aw_getI dX11_back_1 f11_166 rfl ⟨Nat.le_of_ble_eq_true rfl, Nat.le_of_ble_eq_true rfl⟩ rfl ?_
  refine aw_top hI.1.2.2.1.1 ?_
  refine aw_if_ne_n (a := u 2 0) (tgt := 10) dX11_back_4 (by decide) (by omega) (fun z => absurd z (fun q => q hn)) (fun c4 => ?_)
  refine aw_bipush (v := -3) dX11_back_7 (by decide) ?_
  refine aw_reti dX11_back_9 rfl rfl ⟨Nat.le_of_ble_eq_true rfl, Nat.le_of_ble_eq_true rfl⟩ ?_
  exact ⟨rfl, _, rfl, hI, fun _ _ => rfl⟩
theorem m_back (G : aw_G) {n c : Nat} {I : Nat → Nat → Int32} {L : Nat → Nat → Int64} {b0 b1 : Nat → Nat} {l0 l1 : Nat} {t u x y V g : Nat → Nat → Nat} {kk : Nat} {F S : Nat → Nat} {E : Nat → Nat → Int32} {fd : Int32} (hX : zTx b0 b1 l0 l1 t u x y V kk) (hI : zMI b0 b1 l0 l1 t u g F S E fd I) (hn : ¬ u 2 0 = 0) : aw_Met G mX11_back [.ref 81] (zH n I L c) (fun v h2 => v = some (.int (nI (u 2 0 - 1))) ∧ ∃ I2, h2 = zH n I2 L c ∧ zMI b0 b1 l0 l1 t (aw_u u 2 0 (u 2 0 - 1)) g F S E fd I2 ∧ ∀ o, o < 81 → I2 o = I o) := by
  obtain ⟨hP, h60, h61, htc, hV, hkk, hx, hy⟩ := id hX
  have h8 := hP.1.1
  have hB := hI.1.1
  have hk10 : kk ≤ 10 := by rw [hkk]; exact q_k_leW hB.2.2.2.2.1
  have hVo : f_Vok V kk := by rw [hV, hkk]; exact v_w_ok
  have hu8 := hP.2.2.1.1
  refine aw_Met.of okX11_back (Nat.le_of_ble_eq_true rfl) ?_
  show aw_W G mX11_back 0 [.ref 81] [] (zH n I L c) (0, 0) _
  refine aw_aload_n dX11_back_0 rfl ?_
  refine aw_getI dX11_back_1 f11_166 rfl ⟨Nat.le_of_ble_eq_true rfl, Nat.le_of_ble_eq_true rfl⟩ rfl ?_
  refine aw_top hI.1.2.2.1.1 ?_
  refine aw_if_ne_n (a := u 2 0) (tgt := 10) dX11_back_4 (by decide) (by omega) (fun c4 => ?_) (fun z => absurd z hn)
  refine aw_aload_n dX11_back_10 rfl ?_
  refine aw_dup dX11_back_11 rfl ?_
  refine aw_getI dX11_back_12 f11_166 rfl ⟨Nat.le_of_ble_eq_true rfl, Nat.le_of_ble_eq_true rfl⟩ rfl ?_
  refine aw_top hI.1.2.2.1.1 ?_
  refine aw_iconst (v := 1) dX11_back_15 rfl ?_
  refine aw_isub_n (a := u 2 0) (b := 1) dX11_back_16 (by omega) ?_
  refine aw_putI dX11_back_17 f11_166 rfl ⟨Nat.le_of_ble_eq_true rfl, Nat.le_of_ble_eq_true rfl⟩ (Or.inl rfl) rfl ?_
  refine aw_aload_n dX11_back_20 rfl ?_
  refine aw_getI dX11_back_21 f11_166 rfl ⟨Nat.le_of_ble_eq_true rfl, Nat.le_of_ble_eq_true rfl⟩ rfl ?_
  refine aw_top aw_u_eq ?_
  refine aw_reti dX11_back_24 rfl rfl ⟨Nat.le_of_ble_eq_true rfl, Nat.le_of_ble_eq_true rfl⟩ ?_
  exact ⟨rfl, _, rfl, hI.mv (hB.mv (aw_u_ne (by decide)) (aw_u_ne (by decide))) (fun k hk => by rw [aw_u_ne (by decide)]; exact hI.1.2.1 k hk) ⟨by rw [aw_u_eq, aw_u_eq], fun a ha => by rw [aw_u_ne (by decide), aw_u_ne (by decide), aw_u_ne (by decide)]; exact hI.1.2.2.1.2 a ha⟩ (by rw [aw_u_nj (by decide)]; exact hI.1.2.2.2.1) (hI.1.2.2.2.2.1.mv3 (by rw [aw_u_nj (by decide)]) (aw_u_ne (by decide))) (fun o a b => aw_u_ne (by omega)) (fun j a _ => aw_u_nj a) (fun o a b => aw_u_ne (by omega)), fun o ho => aw_u_ne (by omega)⟩
theorem m_seenB (G : aw_G) {n c : Nat} {I : Nat → Nat → Int32} {L : Nat → Nat → Int64} {b0 b1 : Nat → Nat} {l0 l1 : Nat} {t u x y V g : Nat → Nat → Nat} {kk : Nat} {F S : Nat → Nat} {E : Nat → Nat → Int32} {fd : Int32} (hX : zTx b0 b1 l0 l1 t u x y V kk) (hI : zMI b0 b1 l0 l1 t u g F S E fd I) {a1 : Int32} {a2 : Int32} {a3 : Int32} (hz : ¬ (zok a1 40 ∧ zok a2 8 ∧ zok a3 9)) : aw_Met G mX11_seen [.ref 81, .int a1, .int a2, .int a3] (zH n I L c) (fun v h2 => v = some (.int (-2)) ∧ ∃ I2, h2 = zH n I2 L c ∧ zMI b0 b1 l0 l1 t u g F S E fd I2 ∧ ∀ o, o < 81 → I2 o = I o) := by
  obtain ⟨hP, h60, h61, htc, hV, hkk, hx, hy⟩ := id hX
  have h8 := hP.1.1
  have hB := hI.1.1
  have hk10 : kk ≤ 10 := by rw [hkk]; exact q_k_leW hB.2.2.2.2.1
  have hVo : f_Vok V kk := by rw [hV, hkk]; exact v_w_ok
  refine aw_Met.of okX11_seen (Nat.le_of_ble_eq_true rfl) ?_
  show aw_W G mX11_seen 0 [.ref 81, .int a1, .int a2, .int a3] [] (zH n I L c) (0, 0) _
  refine aw_iload_n dX11_seen_0 rfl ?_
  refine aw_S0c (As := [_]) dX11_seen_1 k11_160 rfl rfl (Nat.le_of_ble_eq_true rfl) ⟨⟨Nat.le_of_ble_eq_true rfl, Nat.le_of_ble_eq_true rfl⟩, ⟨Nat.le_of_ble_eq_true rfl, Nat.le_of_ble_eq_true rfl⟩⟩ ⟨rfl, rfl⟩ (w_isHour G a1) (fun v h2 hq => ?_)
  obtain ⟨rfl, rfl⟩ := hq
  refine aw_if_eq_B (tgt := 31) dX11_seen_4 (by decide) (fun c4 => ?_) (fun c4 => ?_)
  · refine aw_bipush (v := -2) dX11_seen_31 (by decide) ?_
    refine aw_reti dX11_seen_33 rfl rfl ⟨Nat.le_of_ble_eq_true rfl, Nat.le_of_ble_eq_true rfl⟩ ?_
    exact ⟨rfl, _, rfl, hI, fun _ _ => rfl⟩
  · refine aw_iload_n dX11_seen_7 rfl ?_
    refine aw_i2l dX11_seen_8 ?_
    refine aw_lconst (v := 0) dX11_seen_9 rfl ?_
    refine aw_ldc2 dX11_seen_10 co11_151 ?_
    refine aw_S0c (As := [_, _, _]) dX11_seen_13 k11_81 rfl rfl (Nat.le_of_ble_eq_true rfl) ⟨⟨Nat.le_of_ble_eq_true rfl, Nat.le_of_ble_eq_true rfl⟩, ⟨Nat.le_of_ble_eq_true rfl, Nat.le_of_ble_eq_true rfl⟩⟩ ⟨rfl, rfl⟩ (w_in G a2 (b := 8) rfl rfl) (fun v h2 hq => ?_)
    obtain ⟨rfl, rfl⟩ := hq
    refine aw_if_eq_B (tgt := 31) dX11_seen_16 (by decide) (fun c16 => ?_) (fun c16 => ?_)
    · refine aw_bipush (v := -2) dX11_seen_31 (by decide) ?_
      refine aw_reti dX11_seen_33 rfl rfl ⟨Nat.le_of_ble_eq_true rfl, Nat.le_of_ble_eq_true rfl⟩ ?_
      exact ⟨rfl, _, rfl, hI, fun _ _ => rfl⟩
    · refine aw_iload_n dX11_seen_19 rfl ?_
      refine aw_i2l dX11_seen_20 ?_
      refine aw_lconst (v := 0) dX11_seen_21 rfl ?_
      refine aw_ldc2 dX11_seen_22 co11_256 ?_
      refine aw_S0c (As := [_, _, _]) dX11_seen_25 k11_81 rfl rfl (Nat.le_of_ble_eq_true rfl) ⟨⟨Nat.le_of_ble_eq_true rfl, Nat.le_of_ble_eq_true rfl⟩, ⟨Nat.le_of_ble_eq_true rfl, Nat.le_of_ble_eq_true rfl⟩⟩ ⟨rfl, rfl⟩ (w_in G a3 (b := 9) rfl rfl) (fun v h2 hq => ?_)
      obtain ⟨rfl, rfl⟩ := hq
      refine aw_if_ne_B (tgt := 34) dX11_seen_28 (by decide) (fun z => absurd z (fun q => hz ⟨c4, c16, q⟩)) (fun c28 => ?_)
      refine aw_bipush (v := -2) dX11_seen_31 (by decide) ?_
      refine aw_reti dX11_seen_33 rfl rfl ⟨Nat.le_of_ble_eq_true rfl, Nat.le_of_ble_eq_true rfl⟩ ?_
      exact ⟨rfl, _, rfl, hI, fun _ _ => rfl⟩
theorem m_seenF (G : aw_G) {n c : Nat} {I : Nat → Nat → Int32} {L : Nat → Nat → Int64} {b0 b1 : Nat → Nat} {l0 l1 : Nat} {t u x y V g : Nat → Nat → Nat} {kk : Nat} {F S : Nat → Nat} {E : Nat → Nat → Int32} {fd : Int32} (hX : zTx b0 b1 l0 l1 t u x y V kk) (hI : zMI b0 b1 l0 l1 t u g F S E fd I) {p1 p2 p3 : Nat} (hp1 : p1 < 40) (hp2 : p2 < 8) (hp3 : p3 < 9) (hn : g 3 0 = 8) : aw_Met G mX11_seen [.ref 81, .int (nI p1), .int (nI p2), .int (nI p3)] (zH n I L c) (fun v h2 => v = some (.int (-4)) ∧ ∃ I2, h2 = zH n I2 L c ∧ zMI b0 b1 l0 l1 t u g F S E fd I2 ∧ ∀ o, o < 81 → I2 o = I o) := by
  obtain ⟨hP, h60, h61, htc, hV, hkk, hx, hy⟩ := id hX
  have h8 := hP.1.1
  have hB := hI.1.1
  have hk10 : kk ≤ 10 := by rw [hkk]; exact q_k_leW hB.2.2.2.2.1
  have hVo : f_Vok V kk := by rw [hV, hkk]; exact v_w_ok
  refine aw_Met.of okX11_seen (Nat.le_of_ble_eq_true rfl) ?_
  show aw_W G mX11_seen 0 [.ref 81, .int (nI p1), .int (nI p2), .int (nI p3)] [] (zH n I L c) (0, 0) _
  refine aw_iload_n dX11_seen_0 rfl ?_
  refine aw_S0c (As := [_]) dX11_seen_1 k11_160 rfl rfl (Nat.le_of_ble_eq_true rfl) ⟨⟨Nat.le_of_ble_eq_true rfl, Nat.le_of_ble_eq_true rfl⟩, ⟨Nat.le_of_ble_eq_true rfl, Nat.le_of_ble_eq_true rfl⟩⟩ ⟨rfl, rfl⟩ (w_isHour G ((nI p1))) (fun v h2 hq => ?_)
  obtain ⟨rfl, rfl⟩ := hq
  refine aw_if_eq_B (tgt := 31) dX11_seen_4 (by decide) (fun z => absurd z (fun q => q ((zok_nI (by omega)).mpr hp1))) (fun c4 => ?_)
  refine aw_iload_n dX11_seen_7 rfl ?_
  refine aw_i2l dX11_seen_8 ?_
  refine aw_lconst (v := 0) dX11_seen_9 rfl ?_
  refine aw_ldc2 dX11_seen_10 co11_151 ?_
  refine aw_S0c (As := [_, _, _]) dX11_seen_13 k11_81 rfl rfl (Nat.le_of_ble_eq_true rfl) ⟨⟨Nat.le_of_ble_eq_true rfl, Nat.le_of_ble_eq_true rfl⟩, ⟨Nat.le_of_ble_eq_true rfl, Nat.le_of_ble_eq_true rfl⟩⟩ ⟨rfl, rfl⟩ (w_in G (nI p2) (b := 8) rfl rfl) (fun v h2 hq => ?_)
  obtain ⟨rfl, rfl⟩ := hq
  refine aw_if_eq_B (tgt := 31) dX11_seen_16 (by decide) (fun z => absurd z (fun q => q ((zok_nI (by omega)).mpr hp2))) (fun c16 => ?_)
  refine aw_iload_n dX11_seen_19 rfl ?_
  refine aw_i2l dX11_seen_20 ?_
  refine aw_lconst (v := 0) dX11_seen_21 rfl ?_
  refine aw_ldc2 dX11_seen_22 co11_256 ?_
  refine aw_S0c (As := [_, _, _]) dX11_seen_25 k11_81 rfl rfl (Nat.le_of_ble_eq_true rfl) ⟨⟨Nat.le_of_ble_eq_true rfl, Nat.le_of_ble_eq_true rfl⟩, ⟨Nat.le_of_ble_eq_true rfl, Nat.le_of_ble_eq_true rfl⟩⟩ ⟨rfl, rfl⟩ (w_in G (nI p3) (b := 9) rfl rfl) (fun v h2 hq => ?_)
  obtain ⟨rfl, rfl⟩ := hq
  refine aw_if_ne_B (tgt := 34) dX11_seen_28 (by decide) (fun c28 => ?_) (fun z => absurd z (fun q => q ((zok_nI (by omega)).mpr hp3)))
  refine aw_aload_n dX11_seen_34 rfl ?_
  refine aw_getI dX11_seen_35 f11_258 rfl ⟨Nat.le_of_ble_eq_true rfl, Nat.le_of_ble_eq_true rfl⟩ rfl ?_
  refine aw_top hI.1.2.2.2.2.1.1 ?_
  refine aw_bipush (v := 8) dX11_seen_38 (by decide) ?_
  refine aw_ic_ne_n (a := g 3 0) (b := 8) (tgt := 46) dX11_seen_40 (by decide) (by omega) (by omega) (fun z => absurd z (fun q => q hn)) (fun c40 => ?_)
  refine aw_bipush (v := -4) dX11_seen_43 (by decide) ?_
  refine aw_reti dX11_seen_45 rfl rfl ⟨Nat.le_of_ble_eq_true rfl, Nat.le_of_ble_eq_true rfl⟩ ?_
  exact ⟨rfl, _, rfl, hI, fun _ _ => rfl⟩
theorem g_push_sm {g : Nat → Nat → Nat} {h k p : Nat} {I : Nat → Nat → Int32} (hS : zSm g I) (hn : g 3 0 < 8) (hh : h < 40) (hk : k < 8) (hp : p < 9) : zSm (g_push g h k p) (aw_u (aw_u (aw_u (aw_u I 103 (3 * g 3 0) (nI h)) 103 (3 * g 3 0 + 1) (nI k)) 103 (3 * g 3 0 + 2) (nI p)) 81 28 (nI (g 3 0 + 1))) := by
  unfold g_push
  refine ⟨by rw [aw_u_eq, aw_u_eq], by rw [aw_u_eq]; omega, fun a ha => ?_⟩
  simp only [aw_u_ne (show 0 ≠ 3 by decide), aw_u_ne (show 1 ≠ 3 by decide), aw_u_ne (show 2 ≠ 3 by decide), aw_u_ne (show 0 ≠ 2 by decide), aw_u_ne (show 1 ≠ 2 by decide), aw_u_ne (show 0 ≠ 1 by decide), aw_u_ne (show 103 ≠ 81 by decide)]
  have := hS.2.2 a ha
  by_cases he : a = g 3 0
  · subst he
    rw [aw_u_nj (show 3 * g 3 0 ≠ 3 * g 3 0 + 2 by omega), aw_u_nj (show 3 * g 3 0 ≠ 3 * g 3 0 + 1 by omega), aw_u_eq, aw_u_nj (show 3 * g 3 0 + 1 ≠ 3 * g 3 0 + 2 by omega), aw_u_eq, aw_u_eq, aw_u_eq, aw_u_eq, aw_u_eq]
    refine ⟨rfl, rfl, ?_, hh, hk, by split <;> omega⟩
    by_cases hp8 : p < 8
    · rw [if_pos hp8, if_neg (by omega), Nat.add_sub_cancel]
    · rw [if_neg hp8, if_pos rfl, show p = 8 by omega]
  · rw [aw_u_nj (show 3 * a ≠ 3 * g 3 0 + 2 by omega), aw_u_nj (show 3 * a ≠ 3 * g 3 0 + 1 by omega), aw_u_nj (show 3 * a ≠ 3 * g 3 0 by omega), aw_u_nj (show 3 * a + 1 ≠ 3 * g 3 0 + 2 by omega), aw_u_nj (show 3 * a + 1 ≠ 3 * g 3 0 + 1 by omega), aw_u_nj (show 3 * a + 1 ≠ 3 * g 3 0 by omega), aw_u_nj (show 3 * a + 2 ≠ 3 * g 3 0 + 2 by omega), aw_u_nj (show 3 * a + 2 ≠ 3 * g 3 0 + 1 by omega), aw_u_nj (show 3 * a + 2 ≠ 3 * g 3 0 by omega), aw_u_nj he, aw_u_nj he, aw_u_nj he, aw_u_ne (show 1 ≠ 0 by decide), aw_u_ne (show 2 ≠ 1 by decide), aw_u_ne (show 2 ≠ 0 by decide)]
    exact this
theorem m_seen (G : aw_G) {n c : Nat} {I : Nat → Nat → Int32} {L : Nat → Nat → Int64} {b0 b1 : Nat → Nat} {l0 l1 : Nat} {t u x y V g : Nat → Nat → Nat} {kk : Nat} {F S : Nat → Nat} {E : Nat → Nat → Int32} {fd : Int32} (hX : zTx b0 b1 l0 l1 t u x y V kk) (hI : zMI b0 b1 l0 l1 t u g F S E fd I) {p1 p2 p3 : Nat} (hp1 : p1 < 40) (hp2 : p2 < 8) (hp3 : p3 < 9) (hn : g 3 0 < 8) : aw_Met G mX11_seen [.ref 81, .int (nI p1), .int (nI p2), .int (nI p3)] (zH n I L c) (fun v h2 => v = some (.int (nI (g 3 0 + 1))) ∧ ∃ I2, h2 = zH n I2 L c ∧ zMI b0 b1 l0 l1 t u (g_push g p1 p2 p3) F S E fd I2 ∧ ∀ o, o < 81 → I2 o = I o) := by
  obtain ⟨hP, h60, h61, htc, hV, hkk, hx, hy⟩ := id hX
  have h8 := hP.1.1
  have hB := hI.1.1
  have hk10 : kk ≤ 10 := by rw [hkk]; exact q_k_leW hB.2.2.2.2.1
  have hVo : f_Vok V kk := by rw [hV, hkk]; exact v_w_ok
  refine aw_Met.of okX11_seen (Nat.le_of_ble_eq_true rfl) ?_
  show aw_W G mX11_seen 0 [.ref 81, .int (nI p1), .int (nI p2), .int (nI p3)] [] (zH n I L c) (0, 0) _
  refine aw_iload_n dX11_seen_0 rfl ?_
  refine aw_S0c (As := [_]) dX11_seen_1 k11_160 rfl rfl (Nat.le_of_ble_eq_true rfl) ⟨⟨Nat.le_of_ble_eq_true rfl, Nat.le_of_ble_eq_true rfl⟩, ⟨Nat.le_of_ble_eq_true rfl, Nat.le_of_ble_eq_true rfl⟩⟩ ⟨rfl, rfl⟩ (w_isHour G ((nI p1))) (fun v h2 hq => ?_)
  obtain ⟨rfl, rfl⟩ := hq
  refine aw_if_eq_B (tgt := 31) dX11_seen_4 (by decide) (fun z => absurd z (fun q => q ((zok_nI (by omega)).mpr hp1))) (fun c4 => ?_)
  refine aw_iload_n dX11_seen_7 rfl ?_
  refine aw_i2l dX11_seen_8 ?_
  refine aw_lconst (v := 0) dX11_seen_9 rfl ?_
  refine aw_ldc2 dX11_seen_10 co11_151 ?_
  refine aw_S0c (As := [_, _, _]) dX11_seen_13 k11_81 rfl rfl (Nat.le_of_ble_eq_true rfl) ⟨⟨Nat.le_of_ble_eq_true rfl, Nat.le_of_ble_eq_true rfl⟩, ⟨Nat.le_of_ble_eq_true rfl, Nat.le_of_ble_eq_true rfl⟩⟩ ⟨rfl, rfl⟩ (w_in G (nI p2) (b := 8) rfl rfl) (fun v h2 hq => ?_)
  obtain ⟨rfl, rfl⟩ := hq
  refine aw_if_eq_B (tgt := 31) dX11_seen_16 (by decide) (fun z => absurd z (fun q => q ((zok_nI (by omega)).mpr hp2))) (fun c16 => ?_)
  refine aw_iload_n dX11_seen_19 rfl ?_
  refine aw_i2l dX11_seen_20 ?_
  refine aw_lconst (v := 0) dX11_seen_21 rfl ?_
  refine aw_ldc2 dX11_seen_22 co11_256 ?_
  refine aw_S0c (As := [_, _, _]) dX11_seen_25 k11_81 rfl rfl (Nat.le_of_ble_eq_true rfl) ⟨⟨Nat.le_of_ble_eq_true rfl, Nat.le_of_ble_eq_true rfl⟩, ⟨Nat.le_of_ble_eq_true rfl, Nat.le_of_ble_eq_true rfl⟩⟩ ⟨rfl, rfl⟩ (w_in G (nI p3) (b := 9) rfl rfl) (fun v h2 hq => ?_)
  obtain ⟨rfl, rfl⟩ := hq
  refine aw_if_ne_B (tgt := 34) dX11_seen_28 (by decide) (fun c28 => ?_) (fun z => absurd z (fun q => q ((zok_nI (by omega)).mpr hp3)))
  refine aw_aload_n dX11_seen_34 rfl ?_
  refine aw_getI dX11_seen_35 f11_258 rfl ⟨Nat.le_of_ble_eq_true rfl, Nat.le_of_ble_eq_true rfl⟩ rfl ?_
  refine aw_top hI.1.2.2.2.2.1.1 ?_
  refine aw_bipush (v := 8) dX11_seen_38 (by decide) ?_
  refine aw_ic_ne_n (a := g 3 0) (b := 8) (tgt := 46) dX11_seen_40 (by decide) (by omega) (by omega) (fun c40 => ?_) (fun z => absurd z (by omega))
  refine aw_aload_n dX11_seen_46 rfl ?_
  refine aw_getR dX11_seen_47 f11_73 rfl ⟨Nat.le_of_ble_eq_true rfl, Nat.le_of_ble_eq_true rfl⟩ rfl rfl ?_
  refine aw_iconst (v := 3) dX11_seen_50 rfl ?_
  refine aw_aload_n dX11_seen_51 rfl ?_
  refine aw_getI dX11_seen_52 f11_258 rfl ⟨Nat.le_of_ble_eq_true rfl, Nat.le_of_ble_eq_true rfl⟩ rfl ?_
  refine aw_top hI.1.2.2.2.2.1.1 ?_
  refine aw_imul_n (a := 3) (b := g 3 0) dX11_seen_55 ?_
  refine aw_iload_n dX11_seen_56 rfl ?_
  refine aw_iast_n (j := 3 * (g 3 0)) dX11_seen_57 rfl ⟨Nat.le_of_ble_eq_true rfl, Nat.le_of_ble_eq_true rfl⟩ (by decide) (by omega) ?_
  refine aw_aload_n dX11_seen_58 rfl ?_
  refine aw_getR dX11_seen_59 f11_73 rfl ⟨Nat.le_of_ble_eq_true rfl, Nat.le_of_ble_eq_true rfl⟩ rfl rfl ?_
  refine aw_iconst (v := 3) dX11_seen_62 rfl ?_
  refine aw_aload_n dX11_seen_63 rfl ?_
  refine aw_getI dX11_seen_64 f11_258 rfl ⟨Nat.le_of_ble_eq_true rfl, Nat.le_of_ble_eq_true rfl⟩ rfl ?_
  refine aw_top ((congrFun (aw_u_ne (show 81 ≠ 103 by decide)) 28).trans hI.1.2.2.2.2.1.1) ?_
  refine aw_imul_n (a := 3) (b := g 3 0) dX11_seen_67 ?_
  refine aw_iconst (v := 1) dX11_seen_68 rfl ?_
  refine aw_iadd_n (a := 3 * (g 3 0)) (b := 1) dX11_seen_69 ?_
  refine aw_iload_n dX11_seen_70 rfl ?_
  refine aw_iast_n (j := (3 * (g 3 0)) + 1) dX11_seen_71 rfl ⟨Nat.le_of_ble_eq_true rfl, Nat.le_of_ble_eq_true rfl⟩ (by decide) (by omega) ?_
  refine aw_aload_n dX11_seen_72 rfl ?_
  refine aw_getR dX11_seen_73 f11_73 rfl ⟨Nat.le_of_ble_eq_true rfl, Nat.le_of_ble_eq_true rfl⟩ rfl rfl ?_
  refine aw_iconst (v := 3) dX11_seen_76 rfl ?_
  refine aw_aload_n dX11_seen_77 rfl ?_
  refine aw_getI dX11_seen_78 f11_258 rfl ⟨Nat.le_of_ble_eq_true rfl, Nat.le_of_ble_eq_true rfl⟩ rfl ?_
  refine aw_top ((congrFun (aw_u_ne (show 81 ≠ 103 by decide)) 28).trans ((congrFun (aw_u_ne (show 81 ≠ 103 by decide)) 28).trans hI.1.2.2.2.2.1.1)) ?_
  refine aw_imul_n (a := 3) (b := g 3 0) dX11_seen_81 ?_
  refine aw_iconst (v := 2) dX11_seen_82 rfl ?_
  refine aw_iadd_n (a := 3 * (g 3 0)) (b := 2) dX11_seen_83 ?_
  refine aw_iload_n dX11_seen_84 rfl ?_
  refine aw_iast_n (j := (3 * (g 3 0)) + 2) dX11_seen_85 rfl ⟨Nat.le_of_ble_eq_true rfl, Nat.le_of_ble_eq_true rfl⟩ (by decide) (by omega) ?_
  refine aw_aload_n dX11_seen_86 rfl ?_
  refine aw_dup dX11_seen_87 rfl ?_
  refine aw_getI dX11_seen_88 f11_258 rfl ⟨Nat.le_of_ble_eq_true rfl, Nat.le_of_ble_eq_true rfl⟩ rfl ?_
  refine aw_top ((congrFun (aw_u_ne (show 81 ≠ 103 by decide)) 28).trans ((congrFun (aw_u_ne (show 81 ≠ 103 by decide)) 28).trans ((congrFun (aw_u_ne (show 81 ≠ 103 by decide)) 28).trans hI.1.2.2.2.2.1.1))) ?_
  refine aw_iconst (v := 1) dX11_seen_91 rfl ?_
  refine aw_iadd_n (a := g 3 0) (b := 1) dX11_seen_92 ?_
  refine aw_putI dX11_seen_93 f11_258 rfl ⟨Nat.le_of_ble_eq_true rfl, Nat.le_of_ble_eq_true rfl⟩ (Or.inl rfl) rfl ?_
  refine aw_aload_n dX11_seen_96 rfl ?_
  refine aw_getI dX11_seen_97 f11_258 rfl ⟨Nat.le_of_ble_eq_true rfl, Nat.le_of_ble_eq_true rfl⟩ rfl ?_
  refine aw_top aw_u_eq ?_
  refine aw_reti dX11_seen_100 rfl rfl ⟨Nat.le_of_ble_eq_true rfl, Nat.le_of_ble_eq_true rfl⟩ ?_
  exact ⟨rfl, _, rfl, hI.mv (hB.mv (by rw [aw_u_ne (by decide), aw_u_ne (by decide), aw_u_ne (by decide), aw_u_ne (by decide)]) (by rw [aw_u_ne (by decide), aw_u_ne (by decide), aw_u_ne (by decide), aw_u_ne (by decide)])) (fun k hk => (show _ = I 90 k by rw [aw_u_ne (by decide), aw_u_ne (by decide), aw_u_ne (by decide), aw_u_ne (by decide)]).trans (hI.1.2.1 k hk)) (hI.1.2.2.1.mv3 (by rw [aw_u_nj (by decide), aw_u_ne (by decide), aw_u_ne (by decide), aw_u_ne (by decide)]) (by rw [aw_u_ne (by decide), aw_u_ne (by decide), aw_u_ne (by decide), aw_u_ne (by decide)])) (by rw [aw_u_nj (by decide), aw_u_ne (by decide), aw_u_ne (by decide), aw_u_ne (by decide)]; exact hI.1.2.2.2.1) (g_push_sm hI.1.2.2.2.2.1 hn hp1 hp2 hp3) (fun o a b => by rw [aw_u_ne (by omega), aw_u_ne (by omega), aw_u_ne (by omega), aw_u_ne (by omega)]) (fun j _ a => by rw [aw_u_nj a, aw_u_ne (by decide), aw_u_ne (by decide), aw_u_ne (by decide)]) (fun o a b => by rw [aw_u_ne (by omega), aw_u_ne (by omega), aw_u_ne (by omega), aw_u_ne (by omega)]), fun o ho => by rw [aw_u_ne (by omega), aw_u_ne (by omega), aw_u_ne (by omega), aw_u_ne (by omega)]⟩
theorem m_forget (G : aw_G) {n c : Nat} {I : Nat → Nat → Int32} {L : Nat → Nat → Int64} {b0 b1 : Nat → Nat} {l0 l1 : Nat} {t u x y V g : Nat → Nat → Nat} {kk : Nat} {F S : Nat → Nat} {E : Nat → Nat → Int32} {fd : Int32} (hX : zTx b0 b1 l0 l1 t u x y V kk) (hI : zMI b0 b1 l0 l1 t u g F S E fd I)  : aw_Met G mX11_forget [.ref 81] (zH n I L c) (fun v h2 => v = some (.int (nI (g 3 0))) ∧ ∃ I2, h2 = zH n I2 L c ∧ zMI b0 b1 l0 l1 t u (aw_u g 3 0 0) F S E fd I2 ∧ ∀ o, o < 81 → I2 o = I o) := by
  obtain ⟨hP, h60, h61, htc, hV, hkk, hx, hy⟩ := id hX
  have h8 := hP.1.1
  have hB := hI.1.1
  have hk10 : kk ≤ 10 := by rw [hkk]; exact q_k_leW hB.2.2.2.2.1
  have hVo : f_Vok V kk := by rw [hV, hkk]; exact v_w_ok
  refine aw_Met.of okX11_forget (Nat.le_of_ble_eq_true rfl) ?_
  show aw_W G mX11_forget 0 [.ref 81, aw_x] [] (zH n I L c) (0, 0) _
  refine aw_aload_n dX11_forget_0 rfl ?_
  refine aw_getI dX11_forget_1 f11_258 rfl ⟨Nat.le_of_ble_eq_true rfl, Nat.le_of_ble_eq_true rfl⟩ rfl ?_
  refine aw_top hI.1.2.2.2.2.1.1 ?_
  refine aw_istore_n (ls2 := [_, _]) dX11_forget_4 (by decide) rfl rfl ?_
  refine aw_aload_n dX11_forget_5 rfl ?_
  refine aw_iconst (v := 0) dX11_forget_6 rfl ?_
  refine aw_putI dX11_forget_7 f11_258 rfl ⟨Nat.le_of_ble_eq_true rfl, Nat.le_of_ble_eq_true rfl⟩ (Or.inl rfl) rfl ?_
  refine aw_iload_n dX11_forget_10 rfl ?_
  refine aw_reti dX11_forget_11 rfl rfl ⟨Nat.le_of_ble_eq_true rfl, Nat.le_of_ble_eq_true rfl⟩ ?_
  exact ⟨rfl, _, rfl, hI.mv (hB.mv (aw_u_ne (by decide)) (aw_u_ne (by decide))) (fun k hk => by rw [aw_u_ne (by decide)]; exact hI.1.2.1 k hk) (hI.1.2.2.1.mv3 (aw_u_nj (by decide)) (aw_u_ne (by decide))) (by rw [aw_u_nj (by decide)]; exact hI.1.2.2.2.1) ⟨by rw [aw_u_eq, aw_u_eq]; rfl, by rw [aw_u_eq]; decide, fun i hi => by rw [aw_u_ne (by decide), aw_u_ne (by decide), aw_u_ne (by decide), aw_u_ne (by decide)]; exact hI.1.2.2.2.2.1.2.2 i hi⟩ (fun o a b => aw_u_ne (by omega)) (fun j _ a => aw_u_nj a) (fun o a b => aw_u_ne (by omega)), fun o ho => aw_u_ne (by omega)⟩
