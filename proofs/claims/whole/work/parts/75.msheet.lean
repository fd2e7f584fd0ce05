/-! SHEETS of the reference -/
theorem zi_up (a : Int32) : a.toInt < 2147483648 := by have h := Int32.toInt_lt a; simpa using h
section ZSM
variable {b0 b1 : Nat → Nat} {l0 l1 : Nat} {t u g : Nat → Nat → Nat} {F S F2 S2 : Nat → Nat} {E E2 : Nat → Nat → Int32} {fd fd2 : Int32} {I I2 : Nat → Nat → Int32}
theorem zMI.sh (h : zMI b0 b1 l0 l1 t u g F S E fd I) (hS : zShM F2 S2 E2 I2) (hF : ∀ o, o ≠ 81 → (o < 82 ∨ 85 < o) → I2 o = I o) (hf : ∀ j, j ≠ 4 → I2 81 j = I 81 j) (h4 : I2 81 4 = fd2) : zMI b0 b1 l0 l1 t u g F2 S2 E2 fd2 I2 := by
  obtain ⟨⟨h1, h2, h3, h5, h6, m, hm, hmo⟩, -, -⟩ := h
  exact ⟨⟨h1.mv (hF 86 (by decide) (by decide)) (hF 87 (by decide) (by decide)), fun k hk => by rw [hF 90 (by decide) (by decide)]; exact h2 k hk, h3.mv3 (hf 12 (by decide)) (hF 91 (by decide) (by decide)), by rw [hf 14 (by decide)]; exact h5, h6.mv3 (hf 28 (by decide)) (hF 103 (by decide) (by decide)), m, hm.mv2 (fun i hi => hF _ (by omega) (by omega)) (hf 26 (by decide)) (hf 27 (by decide)), hmo⟩, hS, h4⟩
theorem zMI.fnd (h : zMI b0 b1 l0 l1 t u g F S E fd I) (v : Int32) : zMI b0 b1 l0 l1 t u g F S E v (aw_u I 81 4 v) :=
  h.sh (h.2.1.mv (aw_u_ne (by decide)) (aw_u_ne (by decide)) (aw_u_ne (by decide))) (fun o a _ => aw_u_ne a) (fun j a => aw_u_nj a) aw_u_eq
theorem zShM.mk {p f s : Nat} {e : Nat → Int32} (h : zShM F S E I) (hp : p < 4) (h1 : ∀ q, I2 82 q = if q = p then nI f else I 82 q) (h2 : ∀ q, I2 83 q = if q = p then nI s else I 83 q) (h3 : ∀ j, I2 84 j = if 60 * p ≤ j ∧ j < 60 * p + s then e (j - 60 * p) else I 84 j) (hs : s ≤ 60) (hb : ∀ s, s < 4 → S s ≤ 60) : zShM (va_up F p (f + 1)) (va_up S p s) (va_up E p e) I2 := by
  intro q hq
  by_cases e0 : q = p
  · subst e0
    rw [va_up_at, va_up_at, va_up_at, h1, h2, if_pos rfl, if_pos rfl, nI_pred]
    exact ⟨rfl, fun _ => ⟨rfl, fun i hi => by rw [h3, if_pos (by omega), show 60 * q + i - 60 * q = i by omega]⟩⟩
  · rw [va_up_nat e0, va_up_nat e0, va_up_nat e0, h1, h2, if_neg e0, if_neg e0]
    obtain ⟨a, b⟩ := h q hq
    have := hb q hq
    exact ⟨a, fun z => ⟨(b z).1, fun i hi => by rw [h3, if_neg (by omega)]; exact (b z).2 i hi⟩⟩
theorem zShM.lose {p : Nat} (h : zShM F S E I) (hp : p < 4) : zShM (va_up F p 0) S E (aw_u I 82 p (-1 : Int32)) := by
  intro q hq
  obtain ⟨a, b⟩ := h q hq
  rw [aw_u_ne (show 83 ≠ 82 by decide), aw_u_ne (show 84 ≠ 82 by decide)]
  by_cases e0 : q = p
  · subst e0
    rw [va_up_at, aw_u_eq]
    exact ⟨by decide, fun z => absurd rfl z⟩
  · rw [va_up_nat e0, aw_u_nj e0]
    exact ⟨a, b⟩
theorem zShM.put {p i : Nat} {v : Int32} (h : zShM F S E I) (hb : ∀ s, s < 4 → S s ≤ 60) (hi : i < 60) (hp : p < 4) : zShM F S (aw_u E p i v) (aw_u I 84 (60 * p + i) v) := by
  intro q hq
  obtain ⟨a, b⟩ := h q hq
  rw [aw_u_ne (show 83 ≠ 84 by decide), aw_u_ne (show 82 ≠ 84 by decide)]
  refine ⟨a, fun z => ⟨(b z).1, fun j hj => ?_⟩⟩
  have := hb q hq
  by_cases e0 : q = p
  · subst e0
    by_cases e1 : j = i
    · subst e1; rw [aw_u_eq, aw_u_eq]
    · rw [aw_u_nj (by omega), aw_u_nj e1]; exact (b z).2 j hj
  · rw [aw_u_nj (by omega), aw_u_ne e0]; exact (b z).2 j hj
end ZSM
theorem w_finds (G : aw_G) {n c : Nat} {I : Nat → Nat → Int32} {L : Nat → Nat → Int64} {v0 : Int32} : aw_Met G mX11_finds [.ref 81, .int v0] (zH n I L c) (fun v h2 => v = some (.int (-10 - v0)) ∧ h2 = zH n (aw_u I 81 4 v0) L c) := by
  refine aw_Met.of okX11_finds (Nat.le_of_ble_eq_true rfl) ?_
  show aw_W G mX11_finds 0 [.ref 81, .int v0] [] (zH n I L c) (0, 0) _
  refine aw_aload_n dX11_finds_0 rfl ?_
  refine aw_iload_n dX11_finds_1 rfl ?_
  refine aw_putI dX11_finds_2 f11_85 rfl ⟨Nat.le_of_ble_eq_true rfl, Nat.le_of_ble_eq_true rfl⟩ (Or.inl rfl) rfl ?_
  refine aw_bipush (v := -10) dX11_finds_5 (by decide) ?_
  refine aw_iload_n dX11_finds_7 rfl ?_
  refine aw_isub dX11_finds_8 ?_
  refine aw_reti dX11_finds_9 rfl rfl ⟨Nat.le_of_ble_eq_true rfl, Nat.le_of_ble_eq_true rfl⟩ ?_
  exact ⟨rfl, rfl⟩
theorem m_sheetB (G : aw_G) {n c : Nat} {I : Nat → Nat → Int32} {L : Nat → Nat → Int64} {b0 b1 : Nat → Nat} {l0 l1 : Nat} {t u x y V g : Nat → Nat → Nat} {kk : Nat} {F S : Nat → Nat} {E : Nat → Nat → Int32} {fd : Int32} (hX : zTx b0 b1 l0 l1 t u x y V kk) (hI : zMI b0 b1 l0 l1 t u g F S E fd I) {a1 : Int32} {a2 : Int32} {a3 : Int32} (hz : ¬ (zok a1 4 ∧ zok a2 3 ∧ a3 ≤ 60)) : aw_Met G mX11_sheet [.ref 81, .int a1, .int a2, .int a3] (zH n I L c) (fun v h2 => v = some (.int (-2)) ∧ ∃ I2, h2 = zH n I2 L c ∧ zMI b0 b1 l0 l1 t u g F S E fd I2 ∧ ∀ o, o < 81 → I2 o = I o) := by
  obtain ⟨hP, h60, h61, htc, hV, hkk, hx, hy⟩ := id hX
  have h8 := hP.1.1
  have hB := hI.1.1
  have hk10 : kk ≤ 10 := by rw [hkk]; exact q_k_leW hB.2.2.2.2.1
  have hVo : f_Vok V kk := by rw [hV, hkk]; exact v_w_ok
  refine aw_Met.of okX11_sheet (Nat.le_of_ble_eq_true rfl) ?_
  show aw_W G mX11_sheet 0 [.ref 81, .int a1, .int a2, .int a3, aw_x] [] (zH n I L c) (0, 0) _
  refine aw_iload_n dX11_sheet_0 rfl ?_
  refine aw_S0c (As := [_]) dX11_sheet_1 k11_91 rfl rfl (Nat.le_of_ble_eq_true rfl) ⟨⟨Nat.le_of_ble_eq_true rfl, Nat.le_of_ble_eq_true rfl⟩, ⟨Nat.le_of_ble_eq_true rfl, Nat.le_of_ble_eq_true rfl⟩⟩ ⟨rfl, rfl⟩ (w_isSheet G a1) (fun v h2 hq => ?_)
  obtain ⟨rfl, rfl⟩ := hq
  refine aw_if_eq_B (tgt := 25) dX11_sheet_4 (by decide) (fun c4 => ?_) (fun c4 => ?_)
  · refine aw_bipush (v := -2) dX11_sheet_25 (by decide) ?_
    refine aw_reti dX11_sheet_27 rfl rfl ⟨Nat.le_of_ble_eq_true rfl, Nat.le_of_ble_eq_true rfl⟩ ?_
    exact ⟨rfl, _, rfl, hI, fun _ _ => rfl⟩
  · refine aw_iload_n dX11_sheet_7 rfl ?_
    refine aw_i2l dX11_sheet_8 ?_
    refine aw_lconst (v := 0) dX11_sheet_9 rfl ?_
    refine aw_ldc2 dX11_sheet_10 co11_95 ?_
    refine aw_S0c (As := [_, _, _]) dX11_sheet_13 k11_81 rfl rfl (Nat.le_of_ble_eq_true rfl) ⟨⟨Nat.le_of_ble_eq_true rfl, Nat.le_of_ble_eq_true rfl⟩, ⟨Nat.le_of_ble_eq_true rfl, Nat.le_of_ble_eq_true rfl⟩⟩ ⟨rfl, rfl⟩ (w_in G a2 (b := 3) rfl rfl) (fun v h2 hq => ?_)
    obtain ⟨rfl, rfl⟩ := hq
    refine aw_if_eq_B (tgt := 25) dX11_sheet_16 (by decide) (fun c16 => ?_) (fun c16 => ?_)
    · refine aw_bipush (v := -2) dX11_sheet_25 (by decide) ?_
      refine aw_reti dX11_sheet_27 rfl rfl ⟨Nat.le_of_ble_eq_true rfl, Nat.le_of_ble_eq_true rfl⟩ ?_
      exact ⟨rfl, _, rfl, hI, fun _ _ => rfl⟩
    · refine aw_iload_n dX11_sheet_19 rfl ?_
      refine aw_bipush (v := 60) dX11_sheet_20 (by decide) ?_
      refine aw_ic_le (tgt := 28) dX11_sheet_22 (by decide) (fun z => absurd z (fun q => hz ⟨c4, c16, q⟩)) (fun c22 => ?_)
      refine aw_bipush (v := -2) dX11_sheet_25 (by decide) ?_
      refine aw_reti dX11_sheet_27 rfl rfl ⟨Nat.le_of_ble_eq_true rfl, Nat.le_of_ble_eq_true rfl⟩ ?_
      exact ⟨rfl, _, rfl, hI, fun _ _ => rfl⟩
theorem m_sheetN (G : aw_G) {n c : Nat} {I : Nat → Nat → Int32} {L : Nat → Nat → Int64} {b0 b1 : Nat → Nat} {l0 l1 : Nat} {t u x y V g : Nat → Nat → Nat} {kk : Nat} {F S : Nat → Nat} {E : Nat → Nat → Int32} {fd : Int32} (hX : zTx b0 b1 l0 l1 t u x y V kk) (hI : zMI b0 b1 l0 l1 t u g F S E fd I) (hb : ∀ s, s < 4 → F s ≤ 3 ∧ S s ≤ 60) {p1 p2 : Nat} {a3 : Int32} (hp1 : p1 < 4) (hp2 : p2 < 3) (h3 : a3 ≤ 60) (hn : ¬ 0 ≤ a3) : aw_Met G mX11_sheet [.ref 81, .int (nI p1), .int (nI p2), .int a3] (zH n I L c) (fun v h2 => v = some (.int (-10 - 5)) ∧ ∃ I2, h2 = zH n I2 L c ∧ zMI b0 b1 l0 l1 t u g F S E 5 I2 ∧ ∀ o, o < 81 → I2 o = I o) := by
  obtain ⟨hP, h60, h61, htc, hV, hkk, hx, hy⟩ := id hX
  have h8 := hP.1.1
  have hB := hI.1.1
  have hk10 : kk ≤ 10 := by rw [hkk]; exact q_k_leW hB.2.2.2.2.1
  have hVo : f_Vok V kk := by rw [hV, hkk]; exact v_w_ok
  have hS := hI.2.1
  have hfd := hI.2.2
  refine aw_Met.of okX11_sheet (Nat.le_of_ble_eq_true rfl) ?_
  show aw_W G mX11_sheet 0 [.ref 81, .int (nI p1), .int (nI p2), .int a3, aw_x] [] (zH n I L c) (0, 0) _
  refine aw_iload_n dX11_sheet_0 rfl ?_
  refine aw_S0c (As := [_]) dX11_sheet_1 k11_91 rfl rfl (Nat.le_of_ble_eq_true rfl) ⟨⟨Nat.le_of_ble_eq_true rfl, Nat.le_of_ble_eq_true rfl⟩, ⟨Nat.le_of_ble_eq_true rfl, Nat.le_of_ble_eq_true rfl⟩⟩ ⟨rfl, rfl⟩ (w_isSheet G ((nI p1))) (fun v h2 hq => ?_)
  obtain ⟨rfl, rfl⟩ := hq
  refine aw_if_eq_B (tgt := 25) dX11_sheet_4 (by decide) (fun z => absurd z (fun q => q ((zok_nI (by omega)).mpr hp1))) (fun c4 => ?_)
  refine aw_iload_n dX11_sheet_7 rfl ?_
  refine aw_i2l dX11_sheet_8 ?_
  refine aw_lconst (v := 0) dX11_sheet_9 rfl ?_
  refine aw_ldc2 dX11_sheet_10 co11_95 ?_
  refine aw_S0c (As := [_, _, _]) dX11_sheet_13 k11_81 rfl rfl (Nat.le_of_ble_eq_true rfl) ⟨⟨Nat.le_of_ble_eq_true rfl, Nat.le_of_ble_eq_true rfl⟩, ⟨Nat.le_of_ble_eq_true rfl, Nat.le_of_ble_eq_true rfl⟩⟩ ⟨rfl, rfl⟩ (w_in G (nI p2) (b := 3) rfl rfl) (fun v h2 hq => ?_)
  obtain ⟨rfl, rfl⟩ := hq
  refine aw_if_eq_B (tgt := 25) dX11_sheet_16 (by decide) (fun z => absurd z (fun q => q ((zok_nI (by omega)).mpr hp2))) (fun c16 => ?_)
  refine aw_iload_n dX11_sheet_19 rfl ?_
  refine aw_bipush (v := 60) dX11_sheet_20 (by decide) ?_
  refine aw_ic_le (tgt := 28) dX11_sheet_22 (by decide) (fun c22 => ?_) (fun z => absurd z (fun q => q h3))
  refine aw_iload_n dX11_sheet_28 rfl ?_
  refine aw_if_ge (tgt := 38) dX11_sheet_29 (by decide) (fun z => absurd z hn) (fun c29 => ?_)
  refine aw_aload_n dX11_sheet_32 rfl ?_
  refine aw_iconst (v := 5) dX11_sheet_33 rfl ?_
  refine aw_V0c (As := [_]) dX11_sheet_34 k11_97 rfl rfl rfl ⟨Nat.le_of_ble_eq_true rfl, Nat.le_of_ble_eq_true rfl⟩ (Nat.le_of_ble_eq_true rfl) ⟨⟨Nat.le_of_ble_eq_true rfl, Nat.le_of_ble_eq_true rfl⟩, ⟨Nat.le_of_ble_eq_true rfl, Nat.le_of_ble_eq_true rfl⟩⟩ ⟨rfl, rfl⟩ (w_finds G (v0 := 5)) (fun v h2 hq => ?_)
  obtain ⟨rfl, rfl⟩ := hq
  refine aw_reti dX11_sheet_37 rfl rfl ⟨Nat.le_of_ble_eq_true rfl, Nat.le_of_ble_eq_true rfl⟩ ?_
  exact ⟨rfl, _, rfl, hI.fnd _, fun o ho => aw_u_ne (by omega)⟩
theorem m_sheet (G : aw_G) {n c : Nat} {I : Nat → Nat → Int32} {L : Nat → Nat → Int64} {b0 b1 : Nat → Nat} {l0 l1 : Nat} {t u x y V g : Nat → Nat → Nat} {kk : Nat} {F S : Nat → Nat} {E : Nat → Nat → Int32} {fd : Int32} (hX : zTx b0 b1 l0 l1 t u x y V kk) (hI : zMI b0 b1 l0 l1 t u g F S E fd I) (hb : ∀ s, s < 4 → F s ≤ 3 ∧ S s ≤ 60) {p1 p2 p3 : Nat} (hp1 : p1 < 4) (hp2 : p2 < 3) (hp3 : p3 ≤ 60) : aw_Met G mX11_sheet [.ref 81, .int (nI p1), .int (nI p2), .int (nI p3)] (zH n I L c) (fun v h2 => v = some (.int (nI p3)) ∧ ∃ I2, h2 = zH n I2 L c ∧ zMI b0 b1 l0 l1 t u g (va_up F p1 (p2 + 1)) (va_up S p1 p3) (va_up E p1 (fun _ => 0)) fd I2 ∧ ∀ o, o < 81 → I2 o = I o) := by
  obtain ⟨hP, h60, h61, htc, hV, hkk, hx, hy⟩ := id hX
  have h8 := hP.1.1
  have hB := hI.1.1
  have hk10 : kk ≤ 10 := by rw [hkk]; exact q_k_leW hB.2.2.2.2.1
  have hVo : f_Vok V kk := by rw [hV, hkk]; exact v_w_ok
  have hS := hI.2.1
  have hfd := hI.2.2
  refine aw_Met.of okX11_sheet (Nat.le_of_ble_eq_true rfl) ?_
  show aw_W G mX11_sheet 0 [.ref 81, .int (nI p1), .int (nI p2), .int (nI p3), aw_x] [] (zH n I L c) (0, 0) _
  refine aw_iload_n dX11_sheet_0 rfl ?_
  refine aw_S0c (As := [_]) dX11_sheet_1 k11_91 rfl rfl (Nat.le_of_ble_eq_true rfl) ⟨⟨Nat.le_of_ble_eq_true rfl, Nat.le_of_ble_eq_true rfl⟩, ⟨Nat.le_of_ble_eq_true rfl, Nat.le_of_ble_eq_true rfl⟩⟩ ⟨rfl, rfl⟩ (w_isSheet G ((nI p1))) (fun v h2 hq => ?_)
  obtain ⟨rfl, rfl⟩ := hq
  refine aw_if_eq_B (tgt := 25) dX11_sheet_4 (by decide) (fun z => absurd z (fun q => q ((zok_nI (by omega)).mpr hp1))) (fun c4 => ?_)
  refine aw_iload_n dX11_sheet_7 rfl ?_
  refine aw_i2l dX11_sheet_8 ?_
  refine aw_lconst (v := 0) dX11_sheet_9 rfl ?_
  refine aw_ldc2 dX11_sheet_10 co11_95 ?_
  refine aw_S0c (As := [_, _, _]) dX11_sheet_13 k11_81 rfl rfl (Nat.le_of_ble_eq_true rfl) ⟨⟨Nat.le_of_ble_eq_true rfl, Nat.le_of_ble_eq_true rfl⟩, ⟨Nat.le_of_ble_eq_true rfl, Nat.le_of_ble_eq_true rfl⟩⟩ ⟨rfl, rfl⟩ (w_in G (nI p2) (b := 3) rfl rfl) (fun v h2 hq => ?_)
  obtain ⟨rfl, rfl⟩ := hq
  refine aw_if_eq_B (tgt := 25) dX11_sheet_16 (by decide) (fun z => absurd z (fun q => q ((zok_nI (by omega)).mpr hp2))) (fun c16 => ?_)
  refine aw_iload_n dX11_sheet_19 rfl ?_
  refine aw_bipush (v := 60) dX11_sheet_20 (by decide) ?_
  refine aw_ic_le_n (a := p3) (b := 60) (tgt := 28) dX11_sheet_22 (by decide) (by omega) (by omega) (fun c22 => ?_) (fun z => absurd z (by omega))
  refine aw_iload_n dX11_sheet_28 rfl ?_
  refine aw_if_ge_n (a := p3) (tgt := 38) dX11_sheet_29 (by decide) (by omega) (fun c29 => ?_) (fun z => absurd z (fun z => z))
  refine aw_aload_n dX11_sheet_38 rfl ?_
  refine aw_getR dX11_sheet_39 f11_7 rfl ⟨Nat.le_of_ble_eq_true rfl, Nat.le_of_ble_eq_true rfl⟩ rfl rfl ?_
  refine aw_iload_n dX11_sheet_42 rfl ?_
  refine aw_iload_n dX11_sheet_43 rfl ?_
  refine aw_iast_n (j := p1) dX11_sheet_44 rfl ⟨Nat.le_of_ble_eq_true rfl, Nat.le_of_ble_eq_true rfl⟩ (by decide) (by omega) ?_
  refine aw_aload_n dX11_sheet_45 rfl ?_
  refine aw_getR dX11_sheet_46 f11_13 rfl ⟨Nat.le_of_ble_eq_true rfl, Nat.le_of_ble_eq_true rfl⟩ rfl rfl ?_
  refine aw_iload_n dX11_sheet_49 rfl ?_
  refine aw_iload_n dX11_sheet_50 rfl ?_
  refine aw_iast_n (j := p1) dX11_sheet_51 rfl ⟨Nat.le_of_ble_eq_true rfl, Nat.le_of_ble_eq_true rfl⟩ (by decide) (by omega) ?_
  refine aw_iconst (v := 0) dX11_sheet_52 rfl ?_
  refine aw_istore (ls2 := [_, _, _, _, _]) dX11_sheet_53 (by decide) rfl rfl ?_
  refine aw_up (X := fun i => ∀ I3, ((∀ q, I3 82 q = if q = p1 then nI p2 else I 82 q) ∧ (∀ q, I3 83 q = if q = p1 then nI p3 else I 83 q) ∧ (∀ j, I3 84 j = if 60 * p1 ≤ j ∧ j < 60 * p1 + i then 0 else I 84 j) ∧ ∀ o, o ≠ 82 → o ≠ 83 → o ≠ 84 → I3 o = I o) → aw_W G mX11_sheet 55 [.ref 81, .int (nI p1), .int (nI p2), .int (nI p3), .int (nI i)] [] (zH n I3 L c) (0, 0) _) (Nat.zero_le p3) (fun I3 hh => ?_) (fun i _ hi ih I3 hh => ?_) _ ⟨fun q => ?_, fun q => ?_, fun j => by rw [aw_u_ne (by decide), aw_u_ne (by decide), if_neg (by omega)], fun o a b d => by rw [aw_u_ne b, aw_u_ne a]⟩
  · obtain ⟨q1, q2, q3, q4⟩ := hh
    refine aw_iload dX11_sheet_55 rfl ?_
    refine aw_iload_n dX11_sheet_57 rfl ?_
    refine aw_ic_ge_n (a := p3) (b := p3) (tgt := 80) dX11_sheet_58 (by decide) (by omega) (by omega) (fun c58 => ?_) (fun z => absurd z (by omega))
    refine aw_iload_n dX11_sheet_80 rfl ?_
    refine aw_reti dX11_sheet_81 rfl rfl ⟨Nat.le_of_ble_eq_true rfl, Nat.le_of_ble_eq_true rfl⟩ ?_
    exact ⟨rfl, _, rfl, hI.sh (hS.mk (f := p2) (s := p3) (e := fun _ => 0) hp1 q1 q2 q3 hp3 (fun s hs => (hb s hs).2)) (fun o _ b => q4 o (by omega) (by omega) (by omega)) (fun j _ => by rw [q4 81 (by decide) (by decide) (by decide)]) (by rw [q4 81 (by decide) (by decide) (by decide)]; exact hfd), fun o ho => q4 o (by omega) (by omega) (by omega)⟩
  · obtain ⟨q1, q2, q3, q4⟩ := hh
    refine aw_iload dX11_sheet_55 rfl ?_
    refine aw_iload_n dX11_sheet_57 rfl ?_
    refine aw_ic_ge_n (a := i) (b := p3) (tgt := 80) dX11_sheet_58 (by decide) (by omega) (by omega) (fun z => absurd z (by omega)) (fun c58 => ?_)
    refine aw_aload_n dX11_sheet_61 rfl ?_
    refine aw_getR dX11_sheet_62 f11_16 rfl ⟨Nat.le_of_ble_eq_true rfl, Nat.le_of_ble_eq_true rfl⟩ rfl rfl ?_
    refine aw_bipush (v := 60) dX11_sheet_65 (by decide) ?_
    refine aw_iload_n dX11_sheet_67 rfl ?_
    refine aw_imul_n (a := 60) (b := p1) dX11_sheet_68 ?_
    refine aw_iload dX11_sheet_69 rfl ?_
    refine aw_iadd_n (a := 60 * p1) (b := i) dX11_sheet_71 ?_
    refine aw_iconst (v := 0) dX11_sheet_72 rfl ?_
    refine aw_iast_n (j := (60 * p1) + i) dX11_sheet_73 rfl ⟨Nat.le_of_ble_eq_true rfl, Nat.le_of_ble_eq_true rfl⟩ (by decide) (by omega) ?_
    refine aw_iinc_n (ls2 := [_, _, _, _, _]) dX11_sheet_74 rfl (by decide) rfl rfl ?_
    refine aw_goto (tgt := 55) dX11_sheet_77 (by decide) ?_
    refine ih _ ⟨fun q => by rw [aw_u_ne (by decide)]; exact q1 q, fun q => by rw [aw_u_ne (by decide)]; exact q2 q, fun j => ?_, fun o a b d => by rw [aw_u_ne d]; exact q4 o a b d⟩
    by_cases e0 : j = 60 * p1 + i
    · subst e0; rw [aw_u_eq, if_pos (by omega)]
    · rw [aw_u_nj e0, q3]
      by_cases hc : 60 * p1 ≤ j ∧ j < 60 * p1 + i
      · rw [if_pos hc, if_pos (by omega)]
      · rw [if_neg hc, if_neg (by omega)]
  · rw [aw_u_ne (by decide)]
    by_cases e0 : q = p1
    · subst e0; rw [aw_u_eq, if_pos rfl]
    · rw [aw_u_nj e0, if_neg e0]
  · by_cases e0 : q = p1
    · subst e0; rw [aw_u_eq, if_pos rfl]
    · rw [aw_u_nj e0, if_neg e0, aw_u_ne (by decide)]
theorem m_loseB (G : aw_G) {n c : Nat} {I : Nat → Nat → Int32} {L : Nat → Nat → Int64} {b0 b1 : Nat → Nat} {l0 l1 : Nat} {t u x y V g : Nat → Nat → Nat} {kk : Nat} {F S : Nat → Nat} {E : Nat → Nat → Int32} {fd : Int32} (hX : zTx b0 b1 l0 l1 t u x y V kk) (hI : zMI b0 b1 l0 l1 t u g F S E fd I) {a1 : Int32} (hz : ¬ (zok a1 4)) : aw_Met G mX11_lose [.ref 81, .int a1] (zH n I L c) (fun v h2 => v = some (.int (-2)) ∧ ∃ I2, h2 = zH n I2 L c ∧ zMI b0 b1 l0 l1 t u g F S E fd I2 ∧ ∀ o, o < 81 → I2 o = I o) := by
  obtain ⟨hP, h60, h61, htc, hV, hkk, hx, hy⟩ := id hX
  have h8 := hP.1.1
  have hB := hI.1.1
  have hk10 : kk ≤ 10 := by rw [hkk]; exact q_k_leW hB.2.2.2.2.1
  have hVo : f_Vok V kk := by rw [hV, hkk]; exact v_w_ok
  refine aw_Met.of okX11_lose (Nat.le_of_ble_eq_true rfl) ?_
  show aw_W G mX11_lose 0 [.ref 81, .int a1] [] (zH n I L c) (0, 0) _
  refine aw_iload_n dX11_lose_0 rfl ?_
  refine aw_S0c (As := [_]) dX11_lose_1 k11_91 rfl rfl (Nat.le_of_ble_eq_true rfl) ⟨⟨Nat.le_of_ble_eq_true rfl, Nat.le_of_ble_eq_true rfl⟩, ⟨Nat.le_of_ble_eq_true rfl, Nat.le_of_ble_eq_true rfl⟩⟩ ⟨rfl, rfl⟩ (w_isSheet G a1) (fun v h2 hq => ?_)
  obtain ⟨rfl, rfl⟩ := hq
  refine aw_if_ne_B (tgt := 10) dX11_lose_4 (by decide) (fun z => absurd z hz) (fun c4 => ?_)
  refine aw_bipush (v := -2) dX11_lose_7 (by decide) ?_
  refine aw_reti dX11_lose_9 rfl rfl ⟨Nat.le_of_ble_eq_true rfl, Nat.le_of_ble_eq_true rfl⟩ ?_
  exact ⟨rfl, _, rfl, hI, fun _ _ => rfl⟩
theorem m_loseN (G : aw_G) {n c : Nat} {I : Nat → Nat → Int32} {L : Nat → Nat → Int64} {b0 b1 : Nat → Nat} {l0 l1 : Nat} {t u x y V g : Nat → Nat → Nat} {kk : Nat} {F S : Nat → Nat} {E : Nat → Nat → Int32} {fd : Int32} (hX : zTx b0 b1 l0 l1 t u x y V kk) (hI : zMI b0 b1 l0 l1 t u g F S E fd I) (hb : ∀ s, s < 4 → F s ≤ 3 ∧ S s ≤ 60) {p1 : Nat} (hp1 : p1 < 4) (h0 : F p1 = 0) : aw_Met G mX11_lose [.ref 81, .int (nI p1)] (zH n I L c) (fun v h2 => v = some (.int (-10 - 1)) ∧ ∃ I2, h2 = zH n I2 L c ∧ zMI b0 b1 l0 l1 t u g F S E 1 I2 ∧ ∀ o, o < 81 → I2 o = I o) := by
  obtain ⟨hP, h60, h61, htc, hV, hkk, hx, hy⟩ := id hX
  have h8 := hP.1.1
  have hB := hI.1.1
  have hk10 : kk ≤ 10 := by rw [hkk]; exact q_k_leW hB.2.2.2.2.1
  have hVo : f_Vok V kk := by rw [hV, hkk]; exact v_w_ok
  have hS := hI.2.1
  have hfd := hI.2.2
  have hf1 := (hb p1 hp1).1
  have hs1 := (hb p1 hp1).2
  refine aw_Met.of okX11_lose (Nat.le_of_ble_eq_true rfl) ?_
  show aw_W G mX11_lose 0 [.ref 81, .int (nI p1)] [] (zH n I L c) (0, 0) _
  refine aw_iload_n dX11_lose_0 rfl ?_
  refine aw_S0c (As := [_]) dX11_lose_1 k11_91 rfl rfl (Nat.le_of_ble_eq_true rfl) ⟨⟨Nat.le_of_ble_eq_true rfl, Nat.le_of_ble_eq_true rfl⟩, ⟨Nat.le_of_ble_eq_true rfl, Nat.le_of_ble_eq_true rfl⟩⟩ ⟨rfl, rfl⟩ (w_isSheet G ((nI p1))) (fun v h2 hq => ?_)
  obtain ⟨rfl, rfl⟩ := hq
  refine aw_if_ne_B (tgt := 10) dX11_lose_4 (by decide) (fun c4 => ?_) (fun z => absurd z (fun q => q ((zok_nI (by omega)).mpr hp1)))
  refine aw_aload_n dX11_lose_10 rfl ?_
  refine aw_getR dX11_lose_11 f11_7 rfl ⟨Nat.le_of_ble_eq_true rfl, Nat.le_of_ble_eq_true rfl⟩ rfl rfl ?_
  refine aw_iload_n dX11_lose_14 rfl ?_
  refine aw_iald_n (j := p1) dX11_lose_15 rfl (Nat.le_of_ble_eq_true rfl) (by decide) (by omega) ?_
  refine aw_top (hS p1 hp1).1 ?_
  refine aw_if_ge_p (a := F p1) (tgt := 25) dX11_lose_16 (by decide) (by omega) (fun z => absurd z (by omega)) (fun c16 => ?_)
  refine aw_aload_n dX11_lose_19 rfl ?_
  refine aw_iconst (v := 1) dX11_lose_20 rfl ?_
  refine aw_V0c (As := [_]) dX11_lose_21 k11_97 rfl rfl rfl ⟨Nat.le_of_ble_eq_true rfl, Nat.le_of_ble_eq_true rfl⟩ (Nat.le_of_ble_eq_true rfl) ⟨⟨Nat.le_of_ble_eq_true rfl, Nat.le_of_ble_eq_true rfl⟩, ⟨Nat.le_of_ble_eq_true rfl, Nat.le_of_ble_eq_true rfl⟩⟩ ⟨rfl, rfl⟩ (w_finds G (v0 := 1)) (fun v h2 hq => ?_)
  obtain ⟨rfl, rfl⟩ := hq
  refine aw_reti dX11_lose_24 rfl rfl ⟨Nat.le_of_ble_eq_true rfl, Nat.le_of_ble_eq_true rfl⟩ ?_
  exact ⟨rfl, _, rfl, hI.fnd _, fun o ho => aw_u_ne (by omega)⟩
theorem m_lose (G : aw_G) {n c : Nat} {I : Nat → Nat → Int32} {L : Nat → Nat → Int64} {b0 b1 : Nat → Nat} {l0 l1 : Nat} {t u x y V g : Nat → Nat → Nat} {kk : Nat} {F S : Nat → Nat} {E : Nat → Nat → Int32} {fd : Int32} (hX : zTx b0 b1 l0 l1 t u x y V kk) (hI : zMI b0 b1 l0 l1 t u g F S E fd I) (hb : ∀ s, s < 4 → F s ≤ 3 ∧ S s ≤ 60) {p1 : Nat} (hp1 : p1 < 4) (hFp1 : F p1 ≠ 0) : aw_Met G mX11_lose [.ref 81, .int (nI p1)] (zH n I L c) (fun v h2 => v = some (.int (nI (S p1))) ∧ ∃ I2, h2 = zH n I2 L c ∧ zMI b0 b1 l0 l1 t u g (va_up F p1 0) S E fd I2 ∧ ∀ o, o < 81 → I2 o = I o) := by
  obtain ⟨hP, h60, h61, htc, hV, hkk, hx, hy⟩ := id hX
  have h8 := hP.1.1
  have hB := hI.1.1
  have hk10 : kk ≤ 10 := by rw [hkk]; exact q_k_leW hB.2.2.2.2.1
  have hVo : f_Vok V kk := by rw [hV, hkk]; exact v_w_ok
  have hS := hI.2.1
  have hfd := hI.2.2
  have hf1 := (hb p1 hp1).1
  have hs1 := (hb p1 hp1).2
  refine aw_Met.of okX11_lose (Nat.le_of_ble_eq_true rfl) ?_
  show aw_W G mX11_lose 0 [.ref 81, .int (nI p1)] [] (zH n I L c) (0, 0) _
  refine aw_iload_n dX11_lose_0 rfl ?_
  refine aw_S0c (As := [_]) dX11_lose_1 k11_91 rfl rfl (Nat.le_of_ble_eq_true rfl) ⟨⟨Nat.le_of_ble_eq_true rfl, Nat.le_of_ble_eq_true rfl⟩, ⟨Nat.le_of_ble_eq_true rfl, Nat.le_of_ble_eq_true rfl⟩⟩ ⟨rfl, rfl⟩ (w_isSheet G ((nI p1))) (fun v h2 hq => ?_)
  obtain ⟨rfl, rfl⟩ := hq
  refine aw_if_ne_B (tgt := 10) dX11_lose_4 (by decide) (fun c4 => ?_) (fun z => absurd z (fun q => q ((zok_nI (by omega)).mpr hp1)))
  refine aw_aload_n dX11_lose_10 rfl ?_
  refine aw_getR dX11_lose_11 f11_7 rfl ⟨Nat.le_of_ble_eq_true rfl, Nat.le_of_ble_eq_true rfl⟩ rfl rfl ?_
  refine aw_iload_n dX11_lose_14 rfl ?_
  refine aw_iald_n (j := p1) dX11_lose_15 rfl (Nat.le_of_ble_eq_true rfl) (by decide) (by omega) ?_
  refine aw_top (hS p1 hp1).1 ?_
  refine aw_if_ge_p (a := F p1) (tgt := 25) dX11_lose_16 (by decide) (by omega) (fun c16 => ?_) (fun z => absurd z (by omega))
  refine aw_aload_n dX11_lose_25 rfl ?_
  refine aw_getR dX11_lose_26 f11_7 rfl ⟨Nat.le_of_ble_eq_true rfl, Nat.le_of_ble_eq_true rfl⟩ rfl rfl ?_
  refine aw_iload_n dX11_lose_29 rfl ?_
  refine aw_iconst (v := -1) dX11_lose_30 rfl ?_
  refine aw_iast_n (j := p1) dX11_lose_31 rfl ⟨Nat.le_of_ble_eq_true rfl, Nat.le_of_ble_eq_true rfl⟩ (by decide) (by omega) ?_
  refine aw_aload_n dX11_lose_32 rfl ?_
  refine aw_getR dX11_lose_33 f11_13 rfl ⟨Nat.le_of_ble_eq_true rfl, Nat.le_of_ble_eq_true rfl⟩ rfl rfl ?_
  refine aw_iload_n dX11_lose_36 rfl ?_
  refine aw_iald_n (j := p1) dX11_lose_37 rfl (Nat.le_of_ble_eq_true rfl) (by decide) (by omega) ?_
  refine aw_top ((congrFun (aw_u_ne (show 83 ≠ 82 by decide)) p1).trans ((hS p1 hp1).2 hFp1).1) ?_
  refine aw_reti dX11_lose_38 rfl rfl ⟨Nat.le_of_ble_eq_true rfl, Nat.le_of_ble_eq_true rfl⟩ ?_
  exact ⟨rfl, _, rfl, hI.sh (hS.lose hp1) (fun o _ b => aw_u_ne (by omega)) (fun j _ => by rw [aw_u_ne (by decide)]) (by rw [aw_u_ne (by decide)]; exact hfd), fun o ho => aw_u_ne (by omega)⟩
theorem m_lacks (G : aw_G) {n c : Nat} {I : Nat → Nat → Int32} {L : Nat → Nat → Int64} {b0 b1 : Nat → Nat} {l0 l1 : Nat} {t u x y V g : Nat → Nat → Nat} {kk : Nat} {F S : Nat → Nat} {E : Nat → Nat → Int32} {fd : Int32} (hX : zTx b0 b1 l0 l1 t u x y V kk) (hI : zMI b0 b1 l0 l1 t u g F S E fd I) (hb : ∀ s, s < 4 → F s ≤ 3 ∧ S s ≤ 60) {p1 p2 : Nat} {a3 : Int32} (hp1 : p1 < 4) (hp2 : p2 < 3) : aw_Met G mX11_lacks [.ref 81, .int (nI p1), .int (nI p2), .int a3] (zH n I L c) (fun v h2 => v = some (.int (r_rv (r_rk F S p1 p2 a3))) ∧ ∃ I2, h2 = zH n I2 L c ∧ zMI b0 b1 l0 l1 t u g F S E (r_fd (r_rk F S p1 p2 a3) fd) I2 ∧ ∀ o, o < 81 → I2 o = I o) := by
  obtain ⟨hP, h60, h61, htc, hV, hkk, hx, hy⟩ := id hX
  have h8 := hP.1.1
  have hB := hI.1.1
  have hk10 : kk ≤ 10 := by rw [hkk]; exact q_k_leW hB.2.2.2.2.1
  have hVo : f_Vok V kk := by rw [hV, hkk]; exact v_w_ok
  have hS := hI.2.1
  have hfd := hI.2.2
  have hf1 := (hb p1 hp1).1
  have hs1 := (hb p1 hp1).2
  refine aw_Met.of okX11_lacks (Nat.le_of_ble_eq_true rfl) ?_
  show aw_W G mX11_lacks 0 [.ref 81, .int (nI p1), .int (nI p2), .int a3] [] (zH n I L c) (0, 0) _
  refine aw_aload_n dX11_lacks_0 rfl ?_
  refine aw_getR dX11_lacks_1 f11_7 rfl ⟨Nat.le_of_ble_eq_true rfl, Nat.le_of_ble_eq_true rfl⟩ rfl rfl ?_
  refine aw_iload_n dX11_lacks_4 rfl ?_
  refine aw_iald_n (j := p1) dX11_lacks_5 rfl (Nat.le_of_ble_eq_true rfl) (by decide) (by omega) ?_
  refine aw_top (hS p1 hp1).1 ?_
  refine aw_if_ge_p (a := F p1) (tgt := 15) dX11_lacks_6 (by decide) (by omega) (fun c6 => ?_) (fun c6 => ?_)
  · have hFp1 : F p1 ≠ 0 := by omega
    refine aw_aload_n dX11_lacks_15 rfl ?_
    refine aw_getR dX11_lacks_16 f11_7 rfl ⟨Nat.le_of_ble_eq_true rfl, Nat.le_of_ble_eq_true rfl⟩ rfl rfl ?_
    refine aw_iload_n dX11_lacks_19 rfl ?_
    refine aw_iald_n (j := p1) dX11_lacks_20 rfl (Nat.le_of_ble_eq_true rfl) (by decide) (by omega) ?_
    refine aw_top (hS p1 hp1).1 ?_
    refine aw_iload_n dX11_lacks_21 rfl ?_
    refine aw_top (show _ = nI (p2 + 1) - 1 from (nI_pred p2).symm) ?_
    refine aw_ic_eq_p (a := F p1) (b := p2 + 1) (tgt := 31) dX11_lacks_22 (by decide) (by omega) (by omega) (fun c22 => ?_) (fun c22 => ?_)
    · refine aw_iload_n dX11_lacks_31 rfl ?_
      refine aw_i2l dX11_lacks_32 ?_
      refine aw_lconst (v := 0) dX11_lacks_33 rfl ?_
      refine aw_aload_n dX11_lacks_34 rfl ?_
      refine aw_getR dX11_lacks_35 f11_13 rfl ⟨Nat.le_of_ble_eq_true rfl, Nat.le_of_ble_eq_true rfl⟩ rfl rfl ?_
      refine aw_iload_n dX11_lacks_38 rfl ?_
      refine aw_iald_n (j := p1) dX11_lacks_39 rfl (Nat.le_of_ble_eq_true rfl) (by decide) (by omega) ?_
      refine aw_top ((hS p1 hp1).2 hFp1).1 ?_
      refine aw_iconst (v := 1) dX11_lacks_40 rfl ?_
      refine aw_isub dX11_lacks_41 ?_
      refine aw_i2l dX11_lacks_42 ?_
      refine aw_S0c (As := [_, _, _]) dX11_lacks_43 k11_81 rfl rfl (Nat.le_of_ble_eq_true rfl) ⟨⟨Nat.le_of_ble_eq_true rfl, Nat.le_of_ble_eq_true rfl⟩, ⟨Nat.le_of_ble_eq_true rfl, Nat.le_of_ble_eq_true rfl⟩⟩ ⟨rfl, rfl⟩ (w_in G a3 (b := S p1) rfl (by rw [Int32.toInt_toInt64, zp_toInt (by omega)])) (fun v h2 hq => ?_)
      obtain ⟨rfl, rfl⟩ := hq
      refine aw_if_eq_B (tgt := 53) dX11_lacks_46 (by decide) (fun c46 => ?_) (fun c46 => ?_)
      · refine aw_aload_n dX11_lacks_53 rfl ?_
        refine aw_iconst (v := 2) dX11_lacks_54 rfl ?_
        refine aw_V0c (As := [_]) dX11_lacks_55 k11_97 rfl rfl rfl ⟨Nat.le_of_ble_eq_true rfl, Nat.le_of_ble_eq_true rfl⟩ (Nat.le_of_ble_eq_true rfl) ⟨⟨Nat.le_of_ble_eq_true rfl, Nat.le_of_ble_eq_true rfl⟩, ⟨Nat.le_of_ble_eq_true rfl, Nat.le_of_ble_eq_true rfl⟩⟩ ⟨rfl, rfl⟩ (w_finds G (v0 := 2)) (fun v h2 hq => ?_)
        obtain ⟨rfl, rfl⟩ := hq
        refine aw_reti dX11_lacks_58 rfl rfl ⟨Nat.le_of_ble_eq_true rfl, Nat.le_of_ble_eq_true rfl⟩ ?_
        exact ⟨by unfold r_rv r_rk; rw [if_neg (show ¬ F p1 = 0 by omega), if_pos c22, if_neg c46, if_neg (by decide)]; rfl, _, rfl, by unfold r_fd r_rk; rw [if_neg (show ¬ F p1 = 0 by omega), if_pos c22, if_neg c46, if_neg (by decide)]; exact hI.fnd _, fun o ho => aw_u_ne (by omega)⟩
      · refine aw_iconst (v := 0) dX11_lacks_49 rfl ?_
        refine aw_goto (tgt := 58) dX11_lacks_50 (by decide) ?_
        refine aw_reti dX11_lacks_58 rfl rfl ⟨Nat.le_of_ble_eq_true rfl, Nat.le_of_ble_eq_true rfl⟩ ?_
        exact ⟨by unfold r_rv r_rk; rw [if_neg (show ¬ F p1 = 0 by omega), if_pos c22, if_pos c46, if_pos rfl], _, rfl, by unfold r_fd r_rk; rw [if_neg (show ¬ F p1 = 0 by omega), if_pos c22, if_pos c46, if_pos rfl]; exact hI, fun o ho => rfl⟩
    · refine aw_aload_n dX11_lacks_25 rfl ?_
      refine aw_iconst (v := 3) dX11_lacks_26 rfl ?_
      refine aw_V0c (As := [_]) dX11_lacks_27 k11_97 rfl rfl rfl ⟨Nat.le_of_ble_eq_true rfl, Nat.le_of_ble_eq_true rfl⟩ (Nat.le_of_ble_eq_true rfl) ⟨⟨Nat.le_of_ble_eq_true rfl, Nat.le_of_ble_eq_true rfl⟩, ⟨Nat.le_of_ble_eq_true rfl, Nat.le_of_ble_eq_true rfl⟩⟩ ⟨rfl, rfl⟩ (w_finds G (v0 := 3)) (fun v h2 hq => ?_)
      obtain ⟨rfl, rfl⟩ := hq
      refine aw_reti dX11_lacks_30 rfl rfl ⟨Nat.le_of_ble_eq_true rfl, Nat.le_of_ble_eq_true rfl⟩ ?_
      exact ⟨by unfold r_rv r_rk; rw [if_neg (show ¬ F p1 = 0 by omega), if_neg c22, if_neg (by decide)]; rfl, _, rfl, by unfold r_fd r_rk; rw [if_neg (show ¬ F p1 = 0 by omega), if_neg c22, if_neg (by decide)]; exact hI.fnd _, fun o ho => aw_u_ne (by omega)⟩
  · refine aw_aload_n dX11_lacks_9 rfl ?_
    refine aw_iconst (v := 1) dX11_lacks_10 rfl ?_
    refine aw_V0c (As := [_]) dX11_lacks_11 k11_97 rfl rfl rfl ⟨Nat.le_of_ble_eq_true rfl, Nat.le_of_ble_eq_true rfl⟩ (Nat.le_of_ble_eq_true rfl) ⟨⟨Nat.le_of_ble_eq_true rfl, Nat.le_of_ble_eq_true rfl⟩, ⟨Nat.le_of_ble_eq_true rfl, Nat.le_of_ble_eq_true rfl⟩⟩ ⟨rfl, rfl⟩ (w_finds G (v0 := 1)) (fun v h2 hq => ?_)
    obtain ⟨rfl, rfl⟩ := hq
    refine aw_reti dX11_lacks_14 rfl rfl ⟨Nat.le_of_ble_eq_true rfl, Nat.le_of_ble_eq_true rfl⟩ ?_
    exact ⟨by unfold r_rv r_rk; rw [if_pos (show F p1 = 0 by omega), if_neg (by decide)]; rfl, _, rfl, by unfold r_fd r_rk; rw [if_pos (show F p1 = 0 by omega), if_neg (by decide)]; exact hI.fnd _, fun o ho => aw_u_ne (by omega)⟩
theorem w_cut (G : aw_G) {h : aw_H} {f : Nat} {v0 : Int32} (hf : f < 3) : aw_Met G mX11_cut [.int (nI f), .int v0] h (fun v h2 => v = some (.int (z_cut f v0)) ∧ h2 = h) := by
  refine aw_Met.of okX11_cut (Nat.le_of_ble_eq_true rfl) ?_
  show aw_W G mX11_cut 0 [.int (nI f), .int v0] [] h (0, 0) _
  refine aw_iload_n dX11_cut_0 rfl ?_
  refine aw_if_ne_n (a := f) (tgt := 9) dX11_cut_1 (by decide) (by omega) (fun c1 => ?_) (fun c1 => ?_)
  · refine aw_iload_n dX11_cut_9 rfl ?_
    refine aw_iconst (v := 1) dX11_cut_10 rfl ?_
    refine aw_ic_ne_n (a := f) (b := 1) (tgt := 19) dX11_cut_11 (by decide) (by omega) (by omega) (fun c11 => ?_) (fun c11 => ?_)
    · refine aw_iload_n dX11_cut_19 rfl ?_
      refine aw_reti dX11_cut_20 rfl rfl ⟨Nat.le_of_ble_eq_true rfl, Nat.le_of_ble_eq_true rfl⟩ ?_
      exact ⟨by unfold z_cut; rw [if_neg c1, if_neg c11], rfl⟩
    · refine aw_iload_n dX11_cut_14 rfl ?_
      refine aw_i2s dX11_cut_15 ?_
      refine aw_goto (tgt := 20) dX11_cut_16 (by decide) ?_
      refine aw_reti dX11_cut_20 rfl rfl ⟨Nat.le_of_ble_eq_true rfl, Nat.le_of_ble_eq_true rfl⟩ ?_
      exact ⟨by unfold z_cut; rw [if_neg c1, if_pos c11], rfl⟩
  · refine aw_iload_n dX11_cut_4 rfl ?_
    refine aw_i2b dX11_cut_5 ?_
    refine aw_goto (tgt := 20) dX11_cut_6 (by decide) ?_
    refine aw_reti dX11_cut_20 rfl rfl ⟨Nat.le_of_ble_eq_true rfl, Nat.le_of_ble_eq_true rfl⟩ ?_
    exact ⟨by unfold z_cut; rw [if_pos c1], rfl⟩
theorem m_layB (G : aw_G) {n c : Nat} {I : Nat → Nat → Int32} {L : Nat → Nat → Int64} {b0 b1 : Nat → Nat} {l0 l1 : Nat} {t u x y V g : Nat → Nat → Nat} {kk : Nat} {F S : Nat → Nat} {E : Nat → Nat → Int32} {fd : Int32} (hX : zTx b0 b1 l0 l1 t u x y V kk) (hI : zMI b0 b1 l0 l1 t u g F S E fd I) {a1 : Int32} {a2 : Int32} {a3 : Int32} {a4 : Int32} (hz : ¬ (zok a1 4 ∧ zok a2 3)) : aw_Met G mX11_lay [.ref 81, .int a1, .int a2, .int a3, .int a4] (zH n I L c) (fun v h2 => v = some (.int (-2)) ∧ ∃ I2, h2 = zH n I2 L c ∧ zMI b0 b1 l0 l1 t u g F S E fd I2 ∧ ∀ o, o < 81 → I2 o = I o) := by
  obtain ⟨hP, h60, h61, htc, hV, hkk, hx, hy⟩ := id hX
  have h8 := hP.1.1
  have hB := hI.1.1
  have hk10 : kk ≤ 10 := by rw [hkk]; exact q_k_leW hB.2.2.2.2.1
  have hVo : f_Vok V kk := by rw [hV, hkk]; exact v_w_ok
  refine aw_Met.of okX11_lay (Nat.le_of_ble_eq_true rfl) ?_
  show aw_W G mX11_lay 0 [.ref 81, .int a1, .int a2, .int a3, .int a4, aw_x] [] (zH n I L c) (0, 0) _
  refine aw_iload_n dX11_lay_0 rfl ?_
  refine aw_S0c (As := [_]) dX11_lay_1 k11_91 rfl rfl (Nat.le_of_ble_eq_true rfl) ⟨⟨Nat.le_of_ble_eq_true rfl, Nat.le_of_ble_eq_true rfl⟩, ⟨Nat.le_of_ble_eq_true rfl, Nat.le_of_ble_eq_true rfl⟩⟩ ⟨rfl, rfl⟩ (w_isSheet G a1) (fun v h2 hq => ?_)
  obtain ⟨rfl, rfl⟩ := hq
  refine aw_if_eq_B (tgt := 19) dX11_lay_4 (by decide) (fun c4 => ?_) (fun c4 => ?_)
  · refine aw_bipush (v := -2) dX11_lay_19 (by decide) ?_
    refine aw_reti dX11_lay_21 rfl rfl ⟨Nat.le_of_ble_eq_true rfl, Nat.le_of_ble_eq_true rfl⟩ ?_
    exact ⟨rfl, _, rfl, hI, fun _ _ => rfl⟩
  · refine aw_iload_n dX11_lay_7 rfl ?_
    refine aw_i2l dX11_lay_8 ?_
    refine aw_lconst (v := 0) dX11_lay_9 rfl ?_
    refine aw_ldc2 dX11_lay_10 co11_95 ?_
    refine aw_S0c (As := [_, _, _]) dX11_lay_13 k11_81 rfl rfl (Nat.le_of_ble_eq_true rfl) ⟨⟨Nat.le_of_ble_eq_true rfl, Nat.le_of_ble_eq_true rfl⟩, ⟨Nat.le_of_ble_eq_true rfl, Nat.le_of_ble_eq_true rfl⟩⟩ ⟨rfl, rfl⟩ (w_in G a2 (b := 3) rfl rfl) (fun v h2 hq => ?_)
    obtain ⟨rfl, rfl⟩ := hq
    refine aw_if_ne_B (tgt := 22) dX11_lay_16 (by decide) (fun z => absurd z (fun q => hz ⟨c4, q⟩)) (fun c16 => ?_)
    refine aw_bipush (v := -2) dX11_lay_19 (by decide) ?_
    refine aw_reti dX11_lay_21 rfl rfl ⟨Nat.le_of_ble_eq_true rfl, Nat.le_of_ble_eq_true rfl⟩ ?_
    exact ⟨rfl, _, rfl, hI, fun _ _ => rfl⟩
theorem m_layR (G : aw_G) {n c : Nat} {I : Nat → Nat → Int32} {L : Nat → Nat → Int64} {b0 b1 : Nat → Nat} {l0 l1 : Nat} {t u x y V g : Nat → Nat → Nat} {kk : Nat} {F S : Nat → Nat} {E : Nat → Nat → Int32} {fd : Int32} (hX : zTx b0 b1 l0 l1 t u x y V kk) (hI : zMI b0 b1 l0 l1 t u g F S E fd I) (hb : ∀ s, s < 4 → F s ≤ 3 ∧ S s ≤ 60) {p1 p2 : Nat} {a3 a4 : Int32} (hp1 : p1 < 4) (hp2 : p2 < 3) (hk : ¬ r_rk F S p1 p2 a3 = 0) : aw_Met G mX11_lay [.ref 81, .int (nI p1), .int (nI p2), .int a3, .int a4] (zH n I L c) (fun v h2 => v = some (.int (r_rv (r_rk F S p1 p2 a3))) ∧ ∃ I2, h2 = zH n I2 L c ∧ zMI b0 b1 l0 l1 t u g F S E (r_fd (r_rk F S p1 p2 a3) fd) I2 ∧ ∀ o, o < 81 → I2 o = I o) := by
  obtain ⟨hP, h60, h61, htc, hV, hkk, hx, hy⟩ := id hX
  have h8 := hP.1.1
  have hB := hI.1.1
  have hk10 : kk ≤ 10 := by rw [hkk]; exact q_k_leW hB.2.2.2.2.1
  have hVo : f_Vok V kk := by rw [hV, hkk]; exact v_w_ok
  have hS := hI.2.1
  have hfd := hI.2.2
  have hf1 := (hb p1 hp1).1
  have hs1 := (hb p1 hp1).2
  refine aw_Met.of okX11_lay (Nat.le_of_ble_eq_true rfl) ?_
  show aw_W G mX11_lay 0 [.ref 81, .int (nI p1), .int (nI p2), .int a3, .int a4, aw_x] [] (zH n I L c) (0, 0) _
  refine aw_iload_n dX11_lay_0 rfl ?_
  refine aw_S0c (As := [_]) dX11_lay_1 k11_91 rfl rfl (Nat.le_of_ble_eq_true rfl) ⟨⟨Nat.le_of_ble_eq_true rfl, Nat.le_of_ble_eq_true rfl⟩, ⟨Nat.le_of_ble_eq_true rfl, Nat.le_of_ble_eq_true rfl⟩⟩ ⟨rfl, rfl⟩ (w_isSheet G ((nI p1))) (fun v h2 hq => ?_)
  obtain ⟨rfl, rfl⟩ := hq
  refine aw_if_eq_B (tgt := 19) dX11_lay_4 (by decide) (fun z => absurd z (fun q => q ((zok_nI (by omega)).mpr hp1))) (fun c4 => ?_)
  refine aw_iload_n dX11_lay_7 rfl ?_
  refine aw_i2l dX11_lay_8 ?_
  refine aw_lconst (v := 0) dX11_lay_9 rfl ?_
  refine aw_ldc2 dX11_lay_10 co11_95 ?_
  refine aw_S0c (As := [_, _, _]) dX11_lay_13 k11_81 rfl rfl (Nat.le_of_ble_eq_true rfl) ⟨⟨Nat.le_of_ble_eq_true rfl, Nat.le_of_ble_eq_true rfl⟩, ⟨Nat.le_of_ble_eq_true rfl, Nat.le_of_ble_eq_true rfl⟩⟩ ⟨rfl, rfl⟩ (w_in G (nI p2) (b := 3) rfl rfl) (fun v h2 hq => ?_)
  obtain ⟨rfl, rfl⟩ := hq
  refine aw_if_ne_B (tgt := 22) dX11_lay_16 (by decide) (fun c16 => ?_) (fun z => absurd z (fun q => q ((zok_nI (by omega)).mpr hp2)))
  refine aw_aload_n dX11_lay_22 rfl ?_
  refine aw_iload_n dX11_lay_23 rfl ?_
  refine aw_iload_n dX11_lay_24 rfl ?_
  refine aw_iload_n dX11_lay_25 rfl ?_
  refine aw_V0c (As := [_, _, _]) dX11_lay_26 k11_101 rfl rfl rfl ⟨Nat.le_of_ble_eq_true rfl, Nat.le_of_ble_eq_true rfl⟩ (Nat.le_of_ble_eq_true rfl) ⟨⟨Nat.le_of_ble_eq_true rfl, Nat.le_of_ble_eq_true rfl⟩, ⟨Nat.le_of_ble_eq_true rfl, Nat.le_of_ble_eq_true rfl⟩⟩ ⟨rfl, rfl⟩ (m_lacks G hX hI hb hp1 hp2) (fun v h2 hq => ?_)
  obtain ⟨rfl, I1, rfl, hI1, hF1⟩ := hq
  refine aw_istore (ls2 := [_, _, _, _, _, _]) dX11_lay_29 (by decide) rfl rfl ?_
  refine aw_iload dX11_lay_31 rfl ?_
  refine aw_if_eq (tgt := 39) dX11_lay_33 (by decide) (fun z => absurd z (fun q => hk ((r_rv_0 r_rk_le).mp q))) (fun c33 => ?_)
  refine aw_iload dX11_lay_36 rfl ?_
  refine aw_reti dX11_lay_38 rfl rfl ⟨Nat.le_of_ble_eq_true rfl, Nat.le_of_ble_eq_true rfl⟩ ?_
  exact ⟨rfl, _, rfl, hI1, hF1⟩
theorem m_lay (G : aw_G) {n c : Nat} {I : Nat → Nat → Int32} {L : Nat → Nat → Int64} {b0 b1 : Nat → Nat} {l0 l1 : Nat} {t u x y V g : Nat → Nat → Nat} {kk : Nat} {F S : Nat → Nat} {E : Nat → Nat → Int32} {fd : Int32} (hX : zTx b0 b1 l0 l1 t u x y V kk) (hI : zMI b0 b1 l0 l1 t u g F S E fd I) (hb : ∀ s, s < 4 → F s ≤ 3 ∧ S s ≤ 60) {p1 p2 i : Nat} {a4 : Int32} (hp1 : p1 < 4) (hp2 : p2 < 3) (hk : r_rk F S p1 p2 (nI i) = 0) (hi : i < S p1) (hf : F p1 = p2 + 1) : aw_Met G mX11_lay [.ref 81, .int (nI p1), .int (nI p2), .int (nI i), .int a4] (zH n I L c) (fun v h2 => v = some (.int (1)) ∧ ∃ I2, h2 = zH n I2 L c ∧ zMI b0 b1 l0 l1 t u g F S (aw_u E p1 i (z_cut p2 a4)) fd I2 ∧ ∀ o, o < 81 → I2 o = I o) := by
  obtain ⟨hP, h60, h61, htc, hV, hkk, hx, hy⟩ := id hX
  have h8 := hP.1.1
  have hB := hI.1.1
  have hk10 : kk ≤ 10 := by rw [hkk]; exact q_k_leW hB.2.2.2.2.1
  have hVo : f_Vok V kk := by rw [hV, hkk]; exact v_w_ok
  have hS := hI.2.1
  have hfd := hI.2.2
  have hf1 := (hb p1 hp1).1
  have hs1 := (hb p1 hp1).2
  refine aw_Met.of okX11_lay (Nat.le_of_ble_eq_true rfl) ?_
  show aw_W G mX11_lay 0 [.ref 81, .int (nI p1), .int (nI p2), .int (nI i), .int a4, aw_x] [] (zH n I L c) (0, 0) _
  refine aw_iload_n dX11_lay_0 rfl ?_
  refine aw_S0c (As := [_]) dX11_lay_1 k11_91 rfl rfl (Nat.le_of_ble_eq_true rfl) ⟨⟨Nat.le_of_ble_eq_true rfl, Nat.le_of_ble_eq_true rfl⟩, ⟨Nat.le_of_ble_eq_true rfl, Nat.le_of_ble_eq_true rfl⟩⟩ ⟨rfl, rfl⟩ (w_isSheet G ((nI p1))) (fun v h2 hq => ?_)
  obtain ⟨rfl, rfl⟩ := hq
  refine aw_if_eq_B (tgt := 19) dX11_lay_4 (by decide) (fun z => absurd z (fun q => q ((zok_nI (by omega)).mpr hp1))) (fun c4 => ?_)
  refine aw_iload_n dX11_lay_7 rfl ?_
  refine aw_i2l dX11_lay_8 ?_
  refine aw_lconst (v := 0) dX11_lay_9 rfl ?_
  refine aw_ldc2 dX11_lay_10 co11_95 ?_
  refine aw_S0c (As := [_, _, _]) dX11_lay_13 k11_81 rfl rfl (Nat.le_of_ble_eq_true rfl) ⟨⟨Nat.le_of_ble_eq_true rfl, Nat.le_of_ble_eq_true rfl⟩, ⟨Nat.le_of_ble_eq_true rfl, Nat.le_of_ble_eq_true rfl⟩⟩ ⟨rfl, rfl⟩ (w_in G (nI p2) (b := 3) rfl rfl) (fun v h2 hq => ?_)
  obtain ⟨rfl, rfl⟩ := hq
  refine aw_if_ne_B (tgt := 22) dX11_lay_16 (by decide) (fun c16 => ?_) (fun z => absurd z (fun q => q ((zok_nI (by omega)).mpr hp2)))
  refine aw_aload_n dX11_lay_22 rfl ?_
  refine aw_iload_n dX11_lay_23 rfl ?_
  refine aw_iload_n dX11_lay_24 rfl ?_
  refine aw_iload_n dX11_lay_25 rfl ?_
  refine aw_V0c (As := [_, _, _]) dX11_lay_26 k11_101 rfl rfl rfl ⟨Nat.le_of_ble_eq_true rfl, Nat.le_of_ble_eq_true rfl⟩ (Nat.le_of_ble_eq_true rfl) ⟨⟨Nat.le_of_ble_eq_true rfl, Nat.le_of_ble_eq_true rfl⟩, ⟨Nat.le_of_ble_eq_true rfl, Nat.le_of_ble_eq_true rfl⟩⟩ ⟨rfl, rfl⟩ (m_lacks G hX hI hb (a3 := nI i) hp1 hp2) (fun v h2 hq => ?_)
  obtain ⟨rfl, I1, rfl, hI1, hF1⟩ := hq
  rw [hk] at hI1 ⊢
  have hI1 : zMI b0 b1 l0 l1 t u g F S E fd I1 := hI1
  obtain ⟨-, hS1, hfd1⟩ := id hI1
  show aw_W G mX11_lay 29 _ [.int 0] _ _ _
  refine aw_istore (ls2 := [_, _, _, _, _, _]) dX11_lay_29 (by decide) rfl rfl ?_
  refine aw_iload dX11_lay_31 rfl ?_
  refine aw_if_eq (tgt := 39) dX11_lay_33 (by decide) (fun _ => ?_) (fun z => absurd (by decide) z)
  refine aw_aload_n dX11_lay_39 rfl ?_
  refine aw_getR dX11_lay_40 f11_16 rfl ⟨Nat.le_of_ble_eq_true rfl, Nat.le_of_ble_eq_true rfl⟩ rfl rfl ?_
  refine aw_bipush (v := 60) dX11_lay_43 (by decide) ?_
  refine aw_iload_n dX11_lay_45 rfl ?_
  refine aw_imul_n (a := 60) (b := p1) dX11_lay_46 ?_
  refine aw_iload_n dX11_lay_47 rfl ?_
  refine aw_iadd_n (a := 60 * p1) (b := i) dX11_lay_48 ?_
  refine aw_iload_n dX11_lay_49 rfl ?_
  refine aw_iload dX11_lay_50 rfl ?_
  refine aw_S0c (As := [_, _]) dX11_lay_52 k11_105 rfl rfl (Nat.le_of_ble_eq_true rfl) ⟨⟨Nat.le_of_ble_eq_true rfl, Nat.le_of_ble_eq_true rfl⟩, ⟨Nat.le_of_ble_eq_true rfl, Nat.le_of_ble_eq_true rfl⟩⟩ ⟨rfl, rfl⟩ (w_cut G hp2) (fun v h2 hq => ?_)
  obtain ⟨rfl, rfl⟩ := hq
  refine aw_iast_n (j := (60 * p1) + i) dX11_lay_55 rfl ⟨Nat.le_of_ble_eq_true rfl, Nat.le_of_ble_eq_true rfl⟩ (by decide) (by omega) ?_
  refine aw_iconst (v := 1) dX11_lay_56 rfl ?_
  refine aw_reti dX11_lay_57 rfl rfl ⟨Nat.le_of_ble_eq_true rfl, Nat.le_of_ble_eq_true rfl⟩ ?_
  exact ⟨rfl, _, rfl, hI1.sh (hS1.put (fun s hs => (hb s hs).2) (by omega) hp1) (fun o _ b => aw_u_ne (by omega)) (fun j _ => by rw [aw_u_ne (by decide)]) (by rw [aw_u_ne (by decide)]; exact hfd1), fun o ho => by rw [aw_u_ne (by omega)]; exact hF1 o ho⟩
theorem m_getB (G : aw_G) {n c : Nat} {I : Nat → Nat → Int32} {L : Nat → Nat → Int64} {b0 b1 : Nat → Nat} {l0 l1 : Nat} {t u x y V g : Nat → Nat → Nat} {kk : Nat} {F S : Nat → Nat} {E : Nat → Nat → Int32} {fd : Int32} (hX : zTx b0 b1 l0 l1 t u x y V kk) (hI : zMI b0 b1 l0 l1 t u g F S E fd I) {a1 : Int32} {a2 : Int32} {a3 : Int32} (hz : ¬ (zok a1 4 ∧ zok a2 3)) : aw_Met G mX11_get [.ref 81, .int a1, .int a2, .int a3] (zH n I L c) (fun v h2 => v = some (.int (-2147483648)) ∧ ∃ I2, h2 = zH n I2 L c ∧ zMI b0 b1 l0 l1 t u g F S E fd I2 ∧ ∀ o, o < 81 → I2 o = I o) := by
  obtain ⟨hP, h60, h61, htc, hV, hkk, hx, hy⟩ := id hX
  have h8 := hP.1.1
  have hB := hI.1.1
  have hk10 : kk ≤ 10 := by rw [hkk]; exact q_k_leW hB.2.2.2.2.1
  have hVo : f_Vok V kk := by rw [hV, hkk]; exact v_w_ok
  refine aw_Met.of okX11_get (Nat.le_of_ble_eq_true rfl) ?_
  show aw_W G mX11_get 0 [.ref 81, .int a1, .int a2, .int a3] [] (zH n I L c) (0, 0) _
  refine aw_iload_n dX11_get_0 rfl ?_
  refine aw_S0c (As := [_]) dX11_get_1 k11_91 rfl rfl (Nat.le_of_ble_eq_true rfl) ⟨⟨Nat.le_of_ble_eq_true rfl, Nat.le_of_ble_eq_true rfl⟩, ⟨Nat.le_of_ble_eq_true rfl, Nat.le_of_ble_eq_true rfl⟩⟩ ⟨rfl, rfl⟩ (w_isSheet G a1) (fun v h2 hq => ?_)
  obtain ⟨rfl, rfl⟩ := hq
  refine aw_if_eq_B (tgt := 29) dX11_get_4 (by decide) (fun c4 => ?_) (fun c4 => ?_)
  · refine aw_ldc dX11_get_29 co11_109 ?_
    refine aw_reti dX11_get_31 rfl rfl ⟨Nat.le_of_ble_eq_true rfl, Nat.le_of_ble_eq_true rfl⟩ ?_
    exact ⟨rfl, _, rfl, hI, fun _ _ => rfl⟩
  · refine aw_iload_n dX11_get_7 rfl ?_
    refine aw_i2l dX11_get_8 ?_
    refine aw_lconst (v := 0) dX11_get_9 rfl ?_
    refine aw_ldc2 dX11_get_10 co11_95 ?_
    refine aw_S0c (As := [_, _, _]) dX11_get_13 k11_81 rfl rfl (Nat.le_of_ble_eq_true rfl) ⟨⟨Nat.le_of_ble_eq_true rfl, Nat.le_of_ble_eq_true rfl⟩, ⟨Nat.le_of_ble_eq_true rfl, Nat.le_of_ble_eq_true rfl⟩⟩ ⟨rfl, rfl⟩ (w_in G a2 (b := 3) rfl rfl) (fun v h2 hq => ?_)
    obtain ⟨rfl, rfl⟩ := hq
    refine aw_if_eq_B (tgt := 29) dX11_get_16 (by decide) (fun c16 => ?_) (fun z => absurd z (fun q => hz ⟨c4, q⟩))
    refine aw_ldc dX11_get_29 co11_109 ?_
    refine aw_reti dX11_get_31 rfl rfl ⟨Nat.le_of_ble_eq_true rfl, Nat.le_of_ble_eq_true rfl⟩ ?_
    exact ⟨rfl, _, rfl, hI, fun _ _ => rfl⟩
theorem m_getR (G : aw_G) {n c : Nat} {I : Nat → Nat → Int32} {L : Nat → Nat → Int64} {b0 b1 : Nat → Nat} {l0 l1 : Nat} {t u x y V g : Nat → Nat → Nat} {kk : Nat} {F S : Nat → Nat} {E : Nat → Nat → Int32} {fd : Int32} (hX : zTx b0 b1 l0 l1 t u x y V kk) (hI : zMI b0 b1 l0 l1 t u g F S E fd I) (hb : ∀ s, s < 4 → F s ≤ 3 ∧ S s ≤ 60) {p1 p2 : Nat} {a3 : Int32} (hp1 : p1 < 4) (hp2 : p2 < 3) (hk : ¬ r_rk F S p1 p2 a3 = 0) : aw_Met G mX11_get [.ref 81, .int (nI p1), .int (nI p2), .int a3] (zH n I L c) (fun v h2 => v = some (.int (-2147483648)) ∧ ∃ I2, h2 = zH n I2 L c ∧ zMI b0 b1 l0 l1 t u g F S E (r_fd (r_rk F S p1 p2 a3) fd) I2 ∧ ∀ o, o < 81 → I2 o = I o) := by
  obtain ⟨hP, h60, h61, htc, hV, hkk, hx, hy⟩ := id hX
  have h8 := hP.1.1
  have hB := hI.1.1
  have hk10 : kk ≤ 10 := by rw [hkk]; exact q_k_leW hB.2.2.2.2.1
  have hVo : f_Vok V kk := by rw [hV, hkk]; exact v_w_ok
  have hS := hI.2.1
  have hfd := hI.2.2
  have hf1 := (hb p1 hp1).1
  have hs1 := (hb p1 hp1).2
  refine aw_Met.of okX11_get (Nat.le_of_ble_eq_true rfl) ?_
  show aw_W G mX11_get 0 [.ref 81, .int (nI p1), .int (nI p2), .int a3] [] (zH n I L c) (0, 0) _
  refine aw_iload_n dX11_get_0 rfl ?_
  refine aw_S0c (As := [_]) dX11_get_1 k11_91 rfl rfl (Nat.le_of_ble_eq_true rfl) ⟨⟨Nat.le_of_ble_eq_true rfl, Nat.le_of_ble_eq_true rfl⟩, ⟨Nat.le_of_ble_eq_true rfl, Nat.le_of_ble_eq_true rfl⟩⟩ ⟨rfl, rfl⟩ (w_isSheet G ((nI p1))) (fun v h2 hq => ?_)
  obtain ⟨rfl, rfl⟩ := hq
  refine aw_if_eq_B (tgt := 29) dX11_get_4 (by decide) (fun z => absurd z (fun q => q ((zok_nI (by omega)).mpr hp1))) (fun c4 => ?_)
  refine aw_iload_n dX11_get_7 rfl ?_
  refine aw_i2l dX11_get_8 ?_
  refine aw_lconst (v := 0) dX11_get_9 rfl ?_
  refine aw_ldc2 dX11_get_10 co11_95 ?_
  refine aw_S0c (As := [_, _, _]) dX11_get_13 k11_81 rfl rfl (Nat.le_of_ble_eq_true rfl) ⟨⟨Nat.le_of_ble_eq_true rfl, Nat.le_of_ble_eq_true rfl⟩, ⟨Nat.le_of_ble_eq_true rfl, Nat.le_of_ble_eq_true rfl⟩⟩ ⟨rfl, rfl⟩ (w_in G (nI p2) (b := 3) rfl rfl) (fun v h2 hq => ?_)
  obtain ⟨rfl, rfl⟩ := hq
  refine aw_if_eq_B (tgt := 29) dX11_get_16 (by decide) (fun z => absurd z (fun q => q ((zok_nI (by omega)).mpr hp2))) (fun c16 => ?_)
  refine aw_aload_n dX11_get_19 rfl ?_
  refine aw_iload_n dX11_get_20 rfl ?_
  refine aw_iload_n dX11_get_21 rfl ?_
  refine aw_iload_n dX11_get_22 rfl ?_
  refine aw_V0c (As := [_, _, _]) dX11_get_23 k11_101 rfl rfl rfl ⟨Nat.le_of_ble_eq_true rfl, Nat.le_of_ble_eq_true rfl⟩ (Nat.le_of_ble_eq_true rfl) ⟨⟨Nat.le_of_ble_eq_true rfl, Nat.le_of_ble_eq_true rfl⟩, ⟨Nat.le_of_ble_eq_true rfl, Nat.le_of_ble_eq_true rfl⟩⟩ ⟨rfl, rfl⟩ (m_lacks G hX hI hb hp1 hp2) (fun v h2 hq => ?_)
  obtain ⟨rfl, I1, rfl, hI1, hF1⟩ := hq
  refine aw_if_eq (tgt := 32) dX11_get_26 (by decide) (fun z => absurd z (fun q => hk ((r_rv_0 r_rk_le).mp q))) (fun c26 => ?_)
  refine aw_ldc dX11_get_29 co11_109 ?_
  refine aw_reti dX11_get_31 rfl rfl ⟨Nat.le_of_ble_eq_true rfl, Nat.le_of_ble_eq_true rfl⟩ ?_
  exact ⟨rfl, _, rfl, hI1, hF1⟩
theorem m_get (G : aw_G) {n c : Nat} {I : Nat → Nat → Int32} {L : Nat → Nat → Int64} {b0 b1 : Nat → Nat} {l0 l1 : Nat} {t u x y V g : Nat → Nat → Nat} {kk : Nat} {F S : Nat → Nat} {E : Nat → Nat → Int32} {fd : Int32} (hX : zTx b0 b1 l0 l1 t u x y V kk) (hI : zMI b0 b1 l0 l1 t u g F S E fd I) (hb : ∀ s, s < 4 → F s ≤ 3 ∧ S s ≤ 60) {p1 p2 i : Nat} (hp1 : p1 < 4) (hp2 : p2 < 3) (hk : r_rk F S p1 p2 (nI i) = 0) (hi : i < S p1) (hf : F p1 = p2 + 1) : aw_Met G mX11_get [.ref 81, .int (nI p1), .int (nI p2), .int (nI i)] (zH n I L c) (fun v h2 => v = some (.int (E p1 i)) ∧ ∃ I2, h2 = zH n I2 L c ∧ zMI b0 b1 l0 l1 t u g F S E fd I2 ∧ ∀ o, o < 81 → I2 o = I o) := by
  obtain ⟨hP, h60, h61, htc, hV, hkk, hx, hy⟩ := id hX
  have h8 := hP.1.1
  have hB := hI.1.1
  have hk10 : kk ≤ 10 := by rw [hkk]; exact q_k_leW hB.2.2.2.2.1
  have hVo : f_Vok V kk := by rw [hV, hkk]; exact v_w_ok
  have hS := hI.2.1
  have hfd := hI.2.2
  have hf1 := (hb p1 hp1).1
  have hs1 := (hb p1 hp1).2
  refine aw_Met.of okX11_get (Nat.le_of_ble_eq_true rfl) ?_
  show aw_W G mX11_get 0 [.ref 81, .int (nI p1), .int (nI p2), .int (nI i)] [] (zH n I L c) (0, 0) _
  refine aw_iload_n dX11_get_0 rfl ?_
  refine aw_S0c (As := [_]) dX11_get_1 k11_91 rfl rfl (Nat.le_of_ble_eq_true rfl) ⟨⟨Nat.le_of_ble_eq_true rfl, Nat.le_of_ble_eq_true rfl⟩, ⟨Nat.le_of_ble_eq_true rfl, Nat.le_of_ble_eq_true rfl⟩⟩ ⟨rfl, rfl⟩ (w_isSheet G ((nI p1))) (fun v h2 hq => ?_)
  obtain ⟨rfl, rfl⟩ := hq
  refine aw_if_eq_B (tgt := 29) dX11_get_4 (by decide) (fun z => absurd z (fun q => q ((zok_nI (by omega)).mpr hp1))) (fun c4 => ?_)
  refine aw_iload_n dX11_get_7 rfl ?_
  refine aw_i2l dX11_get_8 ?_
  refine aw_lconst (v := 0) dX11_get_9 rfl ?_
  refine aw_ldc2 dX11_get_10 co11_95 ?_
  refine aw_S0c (As := [_, _, _]) dX11_get_13 k11_81 rfl rfl (Nat.le_of_ble_eq_true rfl) ⟨⟨Nat.le_of_ble_eq_true rfl, Nat.le_of_ble_eq_true rfl⟩, ⟨Nat.le_of_ble_eq_true rfl, Nat.le_of_ble_eq_true rfl⟩⟩ ⟨rfl, rfl⟩ (w_in G (nI p2) (b := 3) rfl rfl) (fun v h2 hq => ?_)
  obtain ⟨rfl, rfl⟩ := hq
  refine aw_if_eq_B (tgt := 29) dX11_get_16 (by decide) (fun z => absurd z (fun q => q ((zok_nI (by omega)).mpr hp2))) (fun c16 => ?_)
  refine aw_aload_n dX11_get_19 rfl ?_
  refine aw_iload_n dX11_get_20 rfl ?_
  refine aw_iload_n dX11_get_21 rfl ?_
  refine aw_iload_n dX11_get_22 rfl ?_
  refine aw_V0c (As := [_, _, _]) dX11_get_23 k11_101 rfl rfl rfl ⟨Nat.le_of_ble_eq_true rfl, Nat.le_of_ble_eq_true rfl⟩ (Nat.le_of_ble_eq_true rfl) ⟨⟨Nat.le_of_ble_eq_true rfl, Nat.le_of_ble_eq_true rfl⟩, ⟨Nat.le_of_ble_eq_true rfl, Nat.le_of_ble_eq_true rfl⟩⟩ ⟨rfl, rfl⟩ (m_lacks G hX hI hb (a3 := nI i) hp1 hp2) (fun v h2 hq => ?_)
  obtain ⟨rfl, I1, rfl, hI1, hF1⟩ := hq
  rw [hk] at hI1 ⊢
  have hI1 : zMI b0 b1 l0 l1 t u g F S E fd I1 := hI1
  obtain ⟨-, hS1, hfd1⟩ := id hI1
  show aw_W G mX11_get 26 _ [.int 0] _ _ _
  refine aw_if_eq (tgt := 32) dX11_get_26 (by decide) (fun _ => ?_) (fun z => absurd (by decide) z)
  refine aw_aload_n dX11_get_32 rfl ?_
  refine aw_getR dX11_get_33 f11_16 rfl ⟨Nat.le_of_ble_eq_true rfl, Nat.le_of_ble_eq_true rfl⟩ rfl rfl ?_
  refine aw_bipush (v := 60) dX11_get_36 (by decide) ?_
  refine aw_iload_n dX11_get_38 rfl ?_
  refine aw_imul_n (a := 60) (b := p1) dX11_get_39 ?_
  refine aw_iload_n dX11_get_40 rfl ?_
  refine aw_iadd_n (a := 60 * p1) (b := i) dX11_get_41 ?_
  refine aw_iald_n (j := (60 * p1) + i) dX11_get_42 rfl (Nat.le_of_ble_eq_true rfl) (by decide) (by omega) ?_
  refine aw_top (((hS1 p1 hp1).2 (by omega)).2 i hi) ?_
  refine aw_reti dX11_get_43 rfl rfl ⟨Nat.le_of_ble_eq_true rfl, Nat.le_of_ble_eq_true rfl⟩ ?_
  exact ⟨rfl, _, rfl, hI1, hF1⟩
theorem m_copyB (G : aw_G) {n c : Nat} {I : Nat → Nat → Int32} {L : Nat → Nat → Int64} {b0 b1 : Nat → Nat} {l0 l1 : Nat} {t u x y V g : Nat → Nat → Nat} {kk : Nat} {F S : Nat → Nat} {E : Nat → Nat → Int32} {fd : Int32} (hX : zTx b0 b1 l0 l1 t u x y V kk) (hI : zMI b0 b1 l0 l1 t u g F S E fd I) {a1 : Int32} {a2 : Int32} {a3 : Int32} {a4 : Int32} {a5 : Int32} (hz : ¬ (zok a1 4 ∧ zok a3 4)) : aw_Met G mX11_copy [.ref 81, .int a1, .int a2, .int a3, .int a4, .int a5] (zH n I L c) (fun v h2 => v = some (.int (-2)) ∧ ∃ I2, h2 = zH n I2 L c ∧ zMI b0 b1 l0 l1 t u g F S E fd I2 ∧ ∀ o, o < 81 → I2 o = I o) := by
  obtain ⟨hP, h60, h61, htc, hV, hkk, hx, hy⟩ := id hX
  have h8 := hP.1.1
  have hB := hI.1.1
  have hk10 : kk ≤ 10 := by rw [hkk]; exact q_k_leW hB.2.2.2.2.1
  have hVo : f_Vok V kk := by rw [hV, hkk]; exact v_w_ok
  refine aw_Met.of okX11_copy (Nat.le_of_ble_eq_true rfl) ?_
  show aw_W G mX11_copy 0 [.ref 81, .int a1, .int a2, .int a3, .int a4, .int a5, aw_x] [] (zH n I L c) (0, 0) _
  refine aw_iload_n dX11_copy_0 rfl ?_
  refine aw_S0c (As := [_]) dX11_copy_1 k11_91 rfl rfl (Nat.le_of_ble_eq_true rfl) ⟨⟨Nat.le_of_ble_eq_true rfl, Nat.le_of_ble_eq_true rfl⟩, ⟨Nat.le_of_ble_eq_true rfl, Nat.le_of_ble_eq_true rfl⟩⟩ ⟨rfl, rfl⟩ (w_isSheet G a1) (fun v h2 hq => ?_)
  obtain ⟨rfl, rfl⟩ := hq
  refine aw_if_eq_B (tgt := 14) dX11_copy_4 (by decide) (fun c4 => ?_) (fun c4 => ?_)
  · refine aw_bipush (v := -2) dX11_copy_14 (by decide) ?_
    refine aw_reti dX11_copy_16 rfl rfl ⟨Nat.le_of_ble_eq_true rfl, Nat.le_of_ble_eq_true rfl⟩ ?_
    exact ⟨rfl, _, rfl, hI, fun _ _ => rfl⟩
  · refine aw_iload_n dX11_copy_7 rfl ?_
    refine aw_S0c (As := [_]) dX11_copy_8 k11_91 rfl rfl (Nat.le_of_ble_eq_true rfl) ⟨⟨Nat.le_of_ble_eq_true rfl, Nat.le_of_ble_eq_true rfl⟩, ⟨Nat.le_of_ble_eq_true rfl, Nat.le_of_ble_eq_true rfl⟩⟩ ⟨rfl, rfl⟩ (w_isSheet G a3) (fun v h2 hq => ?_)
    obtain ⟨rfl, rfl⟩ := hq
    refine aw_if_ne_B (tgt := 17) dX11_copy_11 (by decide) (fun z => absurd z (fun q => hz ⟨c4, q⟩)) (fun c11 => ?_)
    refine aw_bipush (v := -2) dX11_copy_14 (by decide) ?_
    refine aw_reti dX11_copy_16 rfl rfl ⟨Nat.le_of_ble_eq_true rfl, Nat.le_of_ble_eq_true rfl⟩ ?_
    exact ⟨rfl, _, rfl, hI, fun _ _ => rfl⟩
theorem m_copyL (G : aw_G) {n c : Nat} {I : Nat → Nat → Int32} {L : Nat → Nat → Int64} {b0 b1 : Nat → Nat} {l0 l1 : Nat} {t u x y V g : Nat → Nat → Nat} {kk : Nat} {F S : Nat → Nat} {E : Nat → Nat → Int32} {fd : Int32} (hX : zTx b0 b1 l0 l1 t u x y V kk) (hI : zMI b0 b1 l0 l1 t u g F S E fd I) (hb : ∀ s, s < 4 → F s ≤ 3 ∧ S s ≤ 60) {p1 p3 : Nat} {a2 a4 a5 : Int32} (hp1 : p1 < 4) (hp3 : p3 < 4) (h0 : F p1 = 0 ∨ F p3 = 0) : aw_Met G mX11_copy [.ref 81, .int (nI p1), .int a2, .int (nI p3), .int a4, .int a5] (zH n I L c) (fun v h2 => v = some (.int (-10 - 1)) ∧ ∃ I2, h2 = zH n I2 L c ∧ zMI b0 b1 l0 l1 t u g F S E 1 I2 ∧ ∀ o, o < 81 → I2 o = I o) := by
  obtain ⟨hP, h60, h61, htc, hV, hkk, hx, hy⟩ := id hX
  have h8 := hP.1.1
  have hB := hI.1.1
  have hk10 : kk ≤ 10 := by rw [hkk]; exact q_k_leW hB.2.2.2.2.1
  have hVo : f_Vok V kk := by rw [hV, hkk]; exact v_w_ok
  have hS := hI.2.1
  have hfd := hI.2.2
  have hf1 := (hb p1 hp1).1
  have hs1 := (hb p1 hp1).2
  have hf3 := (hb p3 hp3).1
  have hs3 := (hb p3 hp3).2
  refine aw_Met.of okX11_copy (Nat.le_of_ble_eq_true rfl) ?_
  show aw_W G mX11_copy 0 [.ref 81, .int (nI p1), .int a2, .int (nI p3), .int a4, .int a5, aw_x] [] (zH n I L c) (0, 0) _
  refine aw_iload_n dX11_copy_0 rfl ?_
  refine aw_S0c (As := [_]) dX11_copy_1 k11_91 rfl rfl (Nat.le_of_ble_eq_true rfl) ⟨⟨Nat.le_of_ble_eq_true rfl, Nat.le_of_ble_eq_true rfl⟩, ⟨Nat.le_of_ble_eq_true rfl, Nat.le_of_ble_eq_true rfl⟩⟩ ⟨rfl, rfl⟩ (w_isSheet G ((nI p1))) (fun v h2 hq => ?_)
  obtain ⟨rfl, rfl⟩ := hq
  refine aw_if_eq_B (tgt := 14) dX11_copy_4 (by decide) (fun z => absurd z (fun q => q ((zok_nI (by omega)).mpr hp1))) (fun c4 => ?_)
  refine aw_iload_n dX11_copy_7 rfl ?_
  refine aw_S0c (As := [_]) dX11_copy_8 k11_91 rfl rfl (Nat.le_of_ble_eq_true rfl) ⟨⟨Nat.le_of_ble_eq_true rfl, Nat.le_of_ble_eq_true rfl⟩, ⟨Nat.le_of_ble_eq_true rfl, Nat.le_of_ble_eq_true rfl⟩⟩ ⟨rfl, rfl⟩ (w_isSheet G ((nI p3))) (fun v h2 hq => ?_)
  obtain ⟨rfl, rfl⟩ := hq
  refine aw_if_ne_B (tgt := 17) dX11_copy_11 (by decide) (fun c11 => ?_) (fun z => absurd z (fun q => q ((zok_nI (by omega)).mpr hp3)))
  refine aw_aload_n dX11_copy_17 rfl ?_
  refine aw_getR dX11_copy_18 f11_7 rfl ⟨Nat.le_of_ble_eq_true rfl, Nat.le_of_ble_eq_true rfl⟩ rfl rfl ?_
  refine aw_iload_n dX11_copy_21 rfl ?_
  refine aw_iald_n (j := p1) dX11_copy_22 rfl (Nat.le_of_ble_eq_true rfl) (by decide) (by omega) ?_
  refine aw_top (hS p1 hp1).1 ?_
  refine aw_if_lt_p (a := F p1) (tgt := 35) dX11_copy_23 (by decide) (by omega) (fun c23 => ?_) (fun c23 => ?_)
  · refine aw_aload_n dX11_copy_35 rfl ?_
    refine aw_iconst (v := 1) dX11_copy_36 rfl ?_
    refine aw_V0c (As := [_]) dX11_copy_37 k11_97 rfl rfl rfl ⟨Nat.le_of_ble_eq_true rfl, Nat.le_of_ble_eq_true rfl⟩ (Nat.le_of_ble_eq_true rfl) ⟨⟨Nat.le_of_ble_eq_true rfl, Nat.le_of_ble_eq_true rfl⟩, ⟨Nat.le_of_ble_eq_true rfl, Nat.le_of_ble_eq_true rfl⟩⟩ ⟨rfl, rfl⟩ (w_finds G (v0 := 1)) (fun v h2 hq => ?_)
    obtain ⟨rfl, rfl⟩ := hq
    refine aw_reti dX11_copy_40 rfl rfl ⟨Nat.le_of_ble_eq_true rfl, Nat.le_of_ble_eq_true rfl⟩ ?_
    exact ⟨rfl, _, rfl, hI.fnd _, fun o ho => aw_u_ne (by omega)⟩
  · refine aw_aload_n dX11_copy_26 rfl ?_
    refine aw_getR dX11_copy_27 f11_7 rfl ⟨Nat.le_of_ble_eq_true rfl, Nat.le_of_ble_eq_true rfl⟩ rfl rfl ?_
    refine aw_iload_n dX11_copy_30 rfl ?_
    refine aw_iald_n (j := p3) dX11_copy_31 rfl (Nat.le_of_ble_eq_true rfl) (by decide) (by omega) ?_
    refine aw_top (hS p3 hp3).1 ?_
    refine aw_if_ge_p (a := F p3) (tgt := 41) dX11_copy_32 (by decide) (by omega) (fun z => absurd z (by omega)) (fun c32 => ?_)
    refine aw_aload_n dX11_copy_35 rfl ?_
    refine aw_iconst (v := 1) dX11_copy_36 rfl ?_
    refine aw_V0c (As := [_]) dX11_copy_37 k11_97 rfl rfl rfl ⟨Nat.le_of_ble_eq_true rfl, Nat.le_of_ble_eq_true rfl⟩ (Nat.le_of_ble_eq_true rfl) ⟨⟨Nat.le_of_ble_eq_true rfl, Nat.le_of_ble_eq_true rfl⟩, ⟨Nat.le_of_ble_eq_true rfl, Nat.le_of_ble_eq_true rfl⟩⟩ ⟨rfl, rfl⟩ (w_finds G (v0 := 1)) (fun v h2 hq => ?_)
    obtain ⟨rfl, rfl⟩ := hq
    refine aw_reti dX11_copy_40 rfl rfl ⟨Nat.le_of_ble_eq_true rfl, Nat.le_of_ble_eq_true rfl⟩ ?_
    exact ⟨rfl, _, rfl, hI.fnd _, fun o ho => aw_u_ne (by omega)⟩
theorem m_copyT (G : aw_G) {n c : Nat} {I : Nat → Nat → Int32} {L : Nat → Nat → Int64} {b0 b1 : Nat → Nat} {l0 l1 : Nat} {t u x y V g : Nat → Nat → Nat} {kk : Nat} {F S : Nat → Nat} {E : Nat → Nat → Int32} {fd : Int32} (hX : zTx b0 b1 l0 l1 t u x y V kk) (hI : zMI b0 b1 l0 l1 t u g F S E fd I) (hb : ∀ s, s < 4 → F s ≤ 3 ∧ S s ≤ 60) {p1 p3 : Nat} {a2 a4 a5 : Int32} (hp1 : p1 < 4) (hp3 : p3 < 4) (hFp1 : F p1 ≠ 0) (hFp3 : F p3 ≠ 0) (hn : ¬ F p1 = F p3) : aw_Met G mX11_copy [.ref 81, .int (nI p1), .int a2, .int (nI p3), .int a4, .int a5] (zH n I L c) (fun v h2 => v = some (.int (-10 - 4)) ∧ ∃ I2, h2 = zH n I2 L c ∧ zMI b0 b1 l0 l1 t u g F S E 4 I2 ∧ ∀ o, o < 81 → I2 o = I o) := by
  obtain ⟨hP, h60, h61, htc, hV, hkk, hx, hy⟩ := id hX
  have h8 := hP.1.1
  have hB := hI.1.1
  have hk10 : kk ≤ 10 := by rw [hkk]; exact q_k_leW hB.2.2.2.2.1
  have hVo : f_Vok V kk := by rw [hV, hkk]; exact v_w_ok
  have hS := hI.2.1
  have hfd := hI.2.2
  have hf1 := (hb p1 hp1).1
  have hs1 := (hb p1 hp1).2
  have hf3 := (hb p3 hp3).1
  have hs3 := (hb p3 hp3).2
  refine aw_Met.of okX11_copy (Nat.le_of_ble_eq_true rfl) ?_
  show aw_W G mX11_copy 0 [.ref 81, .int (nI p1), .int a2, .int (nI p3), .int a4, .int a5, aw_x] [] (zH n I L c) (0, 0) _
  refine aw_iload_n dX11_copy_0 rfl ?_
  refine aw_S0c (As := [_]) dX11_copy_1 k11_91 rfl rfl (Nat.le_of_ble_eq_true rfl) ⟨⟨Nat.le_of_ble_eq_true rfl, Nat.le_of_ble_eq_true rfl⟩, ⟨Nat.le_of_ble_eq_true rfl, Nat.le_of_ble_eq_true rfl⟩⟩ ⟨rfl, rfl⟩ (w_isSheet G ((nI p1))) (fun v h2 hq => ?_)
  obtain ⟨rfl, rfl⟩ := hq
  refine aw_if_eq_B (tgt := 14) dX11_copy_4 (by decide) (fun z => absurd z (fun q => q ((zok_nI (by omega)).mpr hp1))) (fun c4 => ?_)
  refine aw_iload_n dX11_copy_7 rfl ?_
  refine aw_S0c (As := [_]) dX11_copy_8 k11_91 rfl rfl (Nat.le_of_ble_eq_true rfl) ⟨⟨Nat.le_of_ble_eq_true rfl, Nat.le_of_ble_eq_true rfl⟩, ⟨Nat.le_of_ble_eq_true rfl, Nat.le_of_ble_eq_true rfl⟩⟩ ⟨rfl, rfl⟩ (w_isSheet G ((nI p3))) (fun v h2 hq => ?_)
  obtain ⟨rfl, rfl⟩ := hq
  refine aw_if_ne_B (tgt := 17) dX11_copy_11 (by decide) (fun c11 => ?_) (fun z => absurd z (fun q => q ((zok_nI (by omega)).mpr hp3)))
  refine aw_aload_n dX11_copy_17 rfl ?_
  refine aw_getR dX11_copy_18 f11_7 rfl ⟨Nat.le_of_ble_eq_true rfl, Nat.le_of_ble_eq_true rfl⟩ rfl rfl ?_
  refine aw_iload_n dX11_copy_21 rfl ?_
  refine aw_iald_n (j := p1) dX11_copy_22 rfl (Nat.le_of_ble_eq_true rfl) (by decide) (by omega) ?_
  refine aw_top (hS p1 hp1).1 ?_
  refine aw_if_lt_p (a := F p1) (tgt := 35) dX11_copy_23 (by decide) (by omega) (fun z => absurd z (by omega)) (fun c23 => ?_)
  refine aw_aload_n dX11_copy_26 rfl ?_
  refine aw_getR dX11_copy_27 f11_7 rfl ⟨Nat.le_of_ble_eq_true rfl, Nat.le_of_ble_eq_true rfl⟩ rfl rfl ?_
  refine aw_iload_n dX11_copy_30 rfl ?_
  refine aw_iald_n (j := p3) dX11_copy_31 rfl (Nat.le_of_ble_eq_true rfl) (by decide) (by omega) ?_
  refine aw_top (hS p3 hp3).1 ?_
  refine aw_if_ge_p (a := F p3) (tgt := 41) dX11_copy_32 (by decide) (by omega) (fun c32 => ?_) (fun z => absurd z (by omega))
  refine aw_aload_n dX11_copy_41 rfl ?_
  refine aw_getR dX11_copy_42 f11_7 rfl ⟨Nat.le_of_ble_eq_true rfl, Nat.le_of_ble_eq_true rfl⟩ rfl rfl ?_
  refine aw_iload_n dX11_copy_45 rfl ?_
  refine aw_iald_n (j := p1) dX11_copy_46 rfl (Nat.le_of_ble_eq_true rfl) (by decide) (by omega) ?_
  refine aw_top (hS p1 hp1).1 ?_
  refine aw_aload_n dX11_copy_47 rfl ?_
  refine aw_getR dX11_copy_48 f11_7 rfl ⟨Nat.le_of_ble_eq_true rfl, Nat.le_of_ble_eq_true rfl⟩ rfl rfl ?_
  refine aw_iload_n dX11_copy_51 rfl ?_
  refine aw_iald_n (j := p3) dX11_copy_52 rfl (Nat.le_of_ble_eq_true rfl) (by decide) (by omega) ?_
  refine aw_top (hS p3 hp3).1 ?_
  refine aw_ic_eq_p (a := F p1) (b := F p3) (tgt := 62) dX11_copy_53 (by decide) (by omega) (by omega) (fun z => absurd z hn) (fun c53 => ?_)
  refine aw_aload_n dX11_copy_56 rfl ?_
  refine aw_iconst (v := 4) dX11_copy_57 rfl ?_
  refine aw_V0c (As := [_]) dX11_copy_58 k11_97 rfl rfl rfl ⟨Nat.le_of_ble_eq_true rfl, Nat.le_of_ble_eq_true rfl⟩ (Nat.le_of_ble_eq_true rfl) ⟨⟨Nat.le_of_ble_eq_true rfl, Nat.le_of_ble_eq_true rfl⟩, ⟨Nat.le_of_ble_eq_true rfl, Nat.le_of_ble_eq_true rfl⟩⟩ ⟨rfl, rfl⟩ (w_finds G (v0 := 4)) (fun v h2 hq => ?_)
  obtain ⟨rfl, rfl⟩ := hq
  refine aw_reti dX11_copy_61 rfl rfl ⟨Nat.le_of_ble_eq_true rfl, Nat.le_of_ble_eq_true rfl⟩ ?_
  exact ⟨rfl, _, rfl, hI.fnd _, fun o ho => aw_u_ne (by omega)⟩
theorem m_copyX (G : aw_G) {n c : Nat} {I : Nat → Nat → Int32} {L : Nat → Nat → Int64} {b0 b1 : Nat → Nat} {l0 l1 : Nat} {t u x y V g : Nat → Nat → Nat} {kk : Nat} {F S : Nat → Nat} {E : Nat → Nat → Int32} {fd : Int32} (hX : zTx b0 b1 l0 l1 t u x y V kk) (hI : zMI b0 b1 l0 l1 t u g F S E fd I) (hb : ∀ s, s < 4 → F s ≤ 3 ∧ S s ≤ 60) {p1 p3 : Nat} {a2 a4 a5 : Int32} (hp1 : p1 < 4) (hp3 : p3 < 4) (hFp1 : F p1 ≠ 0) (hFp3 : F p3 ≠ 0) (hn : F p1 = F p3) (hz : ¬ ((0 ≤ a2.toInt ∧ 0 ≤ a5.toInt ∧ a5.toInt ≤ (S p1 : Int) ∧ a2.toInt + a5.toInt ≤ (S p1 : Int)) ∧ (0 ≤ a4.toInt ∧ 0 ≤ a5.toInt ∧ a5.toInt ≤ (S p3 : Int) ∧ a4.toInt + a5.toInt ≤ (S p3 : Int)))) : aw_Met G mX11_copy [.ref 81, .int (nI p1), .int a2, .int (nI p3), .int a4, .int a5] (zH n I L c) (fun v h2 => v = some (.int (-10 - 2)) ∧ ∃ I2, h2 = zH n I2 L c ∧ zMI b0 b1 l0 l1 t u g F S E 2 I2 ∧ ∀ o, o < 81 → I2 o = I o) := by
  obtain ⟨hP, h60, h61, htc, hV, hkk, hx, hy⟩ := id hX
  have h8 := hP.1.1
  have hB := hI.1.1
  have hk10 : kk ≤ 10 := by rw [hkk]; exact q_k_leW hB.2.2.2.2.1
  have hVo : f_Vok V kk := by rw [hV, hkk]; exact v_w_ok
  have hS := hI.2.1
  have hfd := hI.2.2
  have hf1 := (hb p1 hp1).1
  have hs1 := (hb p1 hp1).2
  have hf3 := (hb p3 hp3).1
  have hs3 := (hb p3 hp3).2
  refine aw_Met.of okX11_copy (Nat.le_of_ble_eq_true rfl) ?_
  show aw_W G mX11_copy 0 [.ref 81, .int (nI p1), .int a2, .int (nI p3), .int a4, .int a5, aw_x] [] (zH n I L c) (0, 0) _
  refine aw_iload_n dX11_copy_0 rfl ?_
  refine aw_S0c (As := [_]) dX11_copy_1 k11_91 rfl rfl (Nat.le_of_ble_eq_true rfl) ⟨⟨Nat.le_of_ble_eq_true rfl, Nat.le_of_ble_eq_true rfl⟩, ⟨Nat.le_of_ble_eq_true rfl, Nat.le_of_ble_eq_true rfl⟩⟩ ⟨rfl, rfl⟩ (w_isSheet G ((nI p1))) (fun v h2 hq => ?_)
  obtain ⟨rfl, rfl⟩ := hq
  refine aw_if_eq_B (tgt := 14) dX11_copy_4 (by decide) (fun z => absurd z (fun q => q ((zok_nI (by omega)).mpr hp1))) (fun c4 => ?_)
  refine aw_iload_n dX11_copy_7 rfl ?_
  refine aw_S0c (As := [_]) dX11_copy_8 k11_91 rfl rfl (Nat.le_of_ble_eq_true rfl) ⟨⟨Nat.le_of_ble_eq_true rfl, Nat.le_of_ble_eq_true rfl⟩, ⟨Nat.le_of_ble_eq_true rfl, Nat.le_of_ble_eq_true rfl⟩⟩ ⟨rfl, rfl⟩ (w_isSheet G ((nI p3))) (fun v h2 hq => ?_)
  obtain ⟨rfl, rfl⟩ := hq
  refine aw_if_ne_B (tgt := 17) dX11_copy_11 (by decide) (fun c11 => ?_) (fun z => absurd z (fun q => q ((zok_nI (by omega)).mpr hp3)))
  refine aw_aload_n dX11_copy_17 rfl ?_
  refine aw_getR dX11_copy_18 f11_7 rfl ⟨Nat.le_of_ble_eq_true rfl, Nat.le_of_ble_eq_true rfl⟩ rfl rfl ?_
  refine aw_iload_n dX11_copy_21 rfl ?_
  refine aw_iald_n (j := p1) dX11_copy_22 rfl (Nat.le_of_ble_eq_true rfl) (by decide) (by omega) ?_
  refine aw_top (hS p1 hp1).1 ?_
  refine aw_if_lt_p (a := F p1) (tgt := 35) dX11_copy_23 (by decide) (by omega) (fun z => absurd z (by omega)) (fun c23 => ?_)
  refine aw_aload_n dX11_copy_26 rfl ?_
  refine aw_getR dX11_copy_27 f11_7 rfl ⟨Nat.le_of_ble_eq_true rfl, Nat.le_of_ble_eq_true rfl⟩ rfl rfl ?_
  refine aw_iload_n dX11_copy_30 rfl ?_
  refine aw_iald_n (j := p3) dX11_copy_31 rfl (Nat.le_of_ble_eq_true rfl) (by decide) (by omega) ?_
  refine aw_top (hS p3 hp3).1 ?_
  refine aw_if_ge_p (a := F p3) (tgt := 41) dX11_copy_32 (by decide) (by omega) (fun c32 => ?_) (fun z => absurd z (by omega))
  refine aw_aload_n dX11_copy_41 rfl ?_
  refine aw_getR dX11_copy_42 f11_7 rfl ⟨Nat.le_of_ble_eq_true rfl, Nat.le_of_ble_eq_true rfl⟩ rfl rfl ?_
  refine aw_iload_n dX11_copy_45 rfl ?_
  refine aw_iald_n (j := p1) dX11_copy_46 rfl (Nat.le_of_ble_eq_true rfl) (by decide) (by omega) ?_
  refine aw_top (hS p1 hp1).1 ?_
  refine aw_aload_n dX11_copy_47 rfl ?_
  refine aw_getR dX11_copy_48 f11_7 rfl ⟨Nat.le_of_ble_eq_true rfl, Nat.le_of_ble_eq_true rfl⟩ rfl rfl ?_
  refine aw_iload_n dX11_copy_51 rfl ?_
  refine aw_iald_n (j := p3) dX11_copy_52 rfl (Nat.le_of_ble_eq_true rfl) (by decide) (by omega) ?_
  refine aw_top (hS p3 hp3).1 ?_
  refine aw_ic_eq_p (a := F p1) (b := F p3) (tgt := 62) dX11_copy_53 (by decide) (by omega) (by omega) (fun c53 => ?_) (fun z => absurd z (fun q => q hn))
  refine aw_iload_n dX11_copy_62 rfl ?_
  refine aw_if_lt (tgt := 111) dX11_copy_63 (by decide) (fun c63 => ?_) (fun c63 => ?_)
  · refine aw_aload_n dX11_copy_111 rfl ?_
    refine aw_iconst (v := 2) dX11_copy_112 rfl ?_
    refine aw_V0c (As := [_]) dX11_copy_113 k11_97 rfl rfl rfl ⟨Nat.le_of_ble_eq_true rfl, Nat.le_of_ble_eq_true rfl⟩ (Nat.le_of_ble_eq_true rfl) ⟨⟨Nat.le_of_ble_eq_true rfl, Nat.le_of_ble_eq_true rfl⟩, ⟨Nat.le_of_ble_eq_true rfl, Nat.le_of_ble_eq_true rfl⟩⟩ ⟨rfl, rfl⟩ (w_finds G (v0 := 2)) (fun v h2 hq => ?_)
    obtain ⟨rfl, rfl⟩ := hq
    refine aw_reti dX11_copy_116 rfl rfl ⟨Nat.le_of_ble_eq_true rfl, Nat.le_of_ble_eq_true rfl⟩ ?_
    exact ⟨rfl, _, rfl, hI.fnd _, fun o ho => aw_u_ne (by omega)⟩
  · refine aw_iload dX11_copy_66 rfl ?_
    refine aw_if_lt (tgt := 111) dX11_copy_68 (by decide) (fun c68 => ?_) (fun c68 => ?_)
    · refine aw_aload_n dX11_copy_111 rfl ?_
      refine aw_iconst (v := 2) dX11_copy_112 rfl ?_
      refine aw_V0c (As := [_]) dX11_copy_113 k11_97 rfl rfl rfl ⟨Nat.le_of_ble_eq_true rfl, Nat.le_of_ble_eq_true rfl⟩ (Nat.le_of_ble_eq_true rfl) ⟨⟨Nat.le_of_ble_eq_true rfl, Nat.le_of_ble_eq_true rfl⟩, ⟨Nat.le_of_ble_eq_true rfl, Nat.le_of_ble_eq_true rfl⟩⟩ ⟨rfl, rfl⟩ (w_finds G (v0 := 2)) (fun v h2 hq => ?_)
      obtain ⟨rfl, rfl⟩ := hq
      refine aw_reti dX11_copy_116 rfl rfl ⟨Nat.le_of_ble_eq_true rfl, Nat.le_of_ble_eq_true rfl⟩ ?_
      exact ⟨rfl, _, rfl, hI.fnd _, fun o ho => aw_u_ne (by omega)⟩
    · refine aw_iload dX11_copy_71 rfl ?_
      refine aw_if_lt (tgt := 111) dX11_copy_73 (by decide) (fun c73 => ?_) (fun c73 => ?_)
      · refine aw_aload_n dX11_copy_111 rfl ?_
        refine aw_iconst (v := 2) dX11_copy_112 rfl ?_
        refine aw_V0c (As := [_]) dX11_copy_113 k11_97 rfl rfl rfl ⟨Nat.le_of_ble_eq_true rfl, Nat.le_of_ble_eq_true rfl⟩ (Nat.le_of_ble_eq_true rfl) ⟨⟨Nat.le_of_ble_eq_true rfl, Nat.le_of_ble_eq_true rfl⟩, ⟨Nat.le_of_ble_eq_true rfl, Nat.le_of_ble_eq_true rfl⟩⟩ ⟨rfl, rfl⟩ (w_finds G (v0 := 2)) (fun v h2 hq => ?_)
        obtain ⟨rfl, rfl⟩ := hq
        refine aw_reti dX11_copy_116 rfl rfl ⟨Nat.le_of_ble_eq_true rfl, Nat.le_of_ble_eq_true rfl⟩ ?_
        exact ⟨rfl, _, rfl, hI.fnd _, fun o ho => aw_u_ne (by omega)⟩
      · obtain ⟨i, hi0, rfl⟩ := zok_ex (x := a2) (b := 2147483648) ⟨by have h9 : ¬ a2.toInt < 0 := fun z => c63 (zlt0.mpr z); omega, zi_up a2⟩
        obtain ⟨j, hj0, rfl⟩ := zok_ex (x := a4) (b := 2147483648) ⟨by have h9 : ¬ a4.toInt < 0 := fun z => c68 (zlt0.mpr z); omega, zi_up a4⟩
        obtain ⟨r, hr0, rfl⟩ := zok_ex (x := a5) (b := 2147483648) ⟨by have h9 : ¬ a5.toInt < 0 := fun z => c73 (zlt0.mpr z); omega, zi_up a5⟩
        refine aw_iload_n dX11_copy_76 rfl ?_
        refine aw_i2l_n (a := i) dX11_copy_77 (by omega) ?_
        refine aw_iload dX11_copy_78 rfl ?_
        refine aw_i2l_n (a := r) dX11_copy_80 (by omega) ?_
        refine aw_ladd_n (a := i) (b := r) dX11_copy_81 ?_
        refine aw_aload_n dX11_copy_82 rfl ?_
        refine aw_getR dX11_copy_83 f11_13 rfl ⟨Nat.le_of_ble_eq_true rfl, Nat.le_of_ble_eq_true rfl⟩ rfl rfl ?_
        refine aw_iload_n dX11_copy_86 rfl ?_
        refine aw_iald_n (j := p1) dX11_copy_87 rfl (Nat.le_of_ble_eq_true rfl) (by decide) (by omega) ?_
        refine aw_top ((hS p1 hp1).2 hFp1).1 ?_
        refine aw_i2l_n (a := S p1) dX11_copy_88 (by omega) ?_
        refine aw_lcmp dX11_copy_89 ?_
        refine aw_if_gt_L (a := i + r) (b := S p1) (tgt := 111) dX11_copy_90 (by decide) (by omega) (by omega) (fun c90 => ?_) (fun c90 => ?_)
        · refine aw_aload_n dX11_copy_111 rfl ?_
          refine aw_iconst (v := 2) dX11_copy_112 rfl ?_
          refine aw_V0c (As := [_]) dX11_copy_113 k11_97 rfl rfl rfl ⟨Nat.le_of_ble_eq_true rfl, Nat.le_of_ble_eq_true rfl⟩ (Nat.le_of_ble_eq_true rfl) ⟨⟨Nat.le_of_ble_eq_true rfl, Nat.le_of_ble_eq_true rfl⟩, ⟨Nat.le_of_ble_eq_true rfl, Nat.le_of_ble_eq_true rfl⟩⟩ ⟨rfl, rfl⟩ (w_finds G (v0 := 2)) (fun v h2 hq => ?_)
          obtain ⟨rfl, rfl⟩ := hq
          refine aw_reti dX11_copy_116 rfl rfl ⟨Nat.le_of_ble_eq_true rfl, Nat.le_of_ble_eq_true rfl⟩ ?_
          exact ⟨rfl, _, rfl, hI.fnd _, fun o ho => aw_u_ne (by omega)⟩
        · refine aw_iload dX11_copy_93 rfl ?_
          refine aw_i2l_n (a := j) dX11_copy_95 (by omega) ?_
          refine aw_iload dX11_copy_96 rfl ?_
          refine aw_i2l_n (a := r) dX11_copy_98 (by omega) ?_
          refine aw_ladd_n (a := j) (b := r) dX11_copy_99 ?_
          refine aw_aload_n dX11_copy_100 rfl ?_
          refine aw_getR dX11_copy_101 f11_13 rfl ⟨Nat.le_of_ble_eq_true rfl, Nat.le_of_ble_eq_true rfl⟩ rfl rfl ?_
          refine aw_iload_n dX11_copy_104 rfl ?_
          refine aw_iald_n (j := p3) dX11_copy_105 rfl (Nat.le_of_ble_eq_true rfl) (by decide) (by omega) ?_
          refine aw_top ((hS p3 hp3).2 hFp3).1 ?_
          refine aw_i2l_n (a := S p3) dX11_copy_106 (by omega) ?_
          refine aw_lcmp dX11_copy_107 ?_
          refine aw_if_le_L (a := j + r) (b := S p3) (tgt := 117) dX11_copy_108 (by decide) (by omega) (by omega) (fun z => absurd z (fun q => hz ⟨zhas_n (by omega) hs1, zhas_n (by omega) hs3⟩)) (fun c108 => ?_)
          refine aw_aload_n dX11_copy_111 rfl ?_
          refine aw_iconst (v := 2) dX11_copy_112 rfl ?_
          refine aw_V0c (As := [_]) dX11_copy_113 k11_97 rfl rfl rfl ⟨Nat.le_of_ble_eq_true rfl, Nat.le_of_ble_eq_true rfl⟩ (Nat.le_of_ble_eq_true rfl) ⟨⟨Nat.le_of_ble_eq_true rfl, Nat.le_of_ble_eq_true rfl⟩, ⟨Nat.le_of_ble_eq_true rfl, Nat.le_of_ble_eq_true rfl⟩⟩ ⟨rfl, rfl⟩ (w_finds G (v0 := 2)) (fun v h2 hq => ?_)
          obtain ⟨rfl, rfl⟩ := hq
          refine aw_reti dX11_copy_116 rfl rfl ⟨Nat.le_of_ble_eq_true rfl, Nat.le_of_ble_eq_true rfl⟩ ?_
          exact ⟨rfl, _, rfl, hI.fnd _, fun o ho => aw_u_ne (by omega)⟩
theorem zShM.cpy {F S : Nat → Nat} {E I I2 : Nat → Nat → Int32} {s i t j r : Nat} (h : zShM F S E I) (hs : s < 4) (ht : t < 4) (hF : F s ≠ 0) (hi : i + r ≤ S s) (hj : j + r ≤ S t) (hb : ∀ s, s < 4 → S s ≤ 60) (h1 : I2 82 = I 82) (h2 : I2 83 = I 83) (h3 : ∀ q, I2 84 q = if 60 * t + j ≤ q ∧ q < 60 * t + j + r then I 84 (60 * s + i + (q - (60 * t + j))) else I 84 q) : zShM F S (e_cpy E s i t j r) I2 := by
  intro q hq
  obtain ⟨a, b⟩ := h q hq
  rw [h1, h2]
  refine ⟨a, fun z => ⟨(b z).1, fun k hk => ?_⟩⟩
  have h60 := hb q hq
  have h6t := hb t ht
  rw [h3]
  unfold e_cpy
  by_cases e0 : q = t
  · subst e0
    by_cases hc : j ≤ k ∧ k < j + r
    · rw [if_pos (by omega), if_pos ⟨rfl, hc⟩, show 60 * s + i + (60 * q + k - (60 * q + j)) = 60 * s + (i + (k - j)) by omega]
      exact ((h s hs).2 hF).2 _ (by omega)
    · rw [if_neg (by omega), if_neg (fun z => hc z.2)]
      exact (b z).2 k hk
  · rw [if_neg (by omega), if_neg (fun z => e0 z.1)]
    exact (b z).2 k hk
theorem m_copy (G : aw_G) {n c : Nat} {I : Nat → Nat → Int32} {L : Nat → Nat → Int64} {b0 b1 : Nat → Nat} {l0 l1 : Nat} {t u x y V g : Nat → Nat → Nat} {kk : Nat} {F S : Nat → Nat} {E : Nat → Nat → Int32} {fd : Int32} (hX : zTx b0 b1 l0 l1 t u x y V kk) (hI : zMI b0 b1 l0 l1 t u g F S E fd I) (hb : ∀ s, s < 4 → F s ≤ 3 ∧ S s ≤ 60) {p1 p3 i j r : Nat} (hp1 : p1 < 4) (hp3 : p3 < 4) (hFp1 : F p1 ≠ 0) (hFp3 : F p3 ≠ 0) (hn : F p1 = F p3) (hi : i + r ≤ S p1) (hj : j + r ≤ S p3) : aw_Met G mX11_copy [.ref 81, .int (nI p1), .int (nI i), .int (nI p3), .int (nI j), .int (nI r)] (zH n I L c) (fun v h2 => v = some (.int (1)) ∧ ∃ I2, h2 = zH n I2 L c ∧ zMI b0 b1 l0 l1 t u g F S (e_cpy E p1 i p3 j r) fd I2 ∧ ∀ o, o < 81 → I2 o = I o) := by
  obtain ⟨hP, h60, h61, htc, hV, hkk, hx, hy⟩ := id hX
  have h8 := hP.1.1
  have hB := hI.1.1
  have hk10 : kk ≤ 10 := by rw [hkk]; exact q_k_leW hB.2.2.2.2.1
  have hVo : f_Vok V kk := by rw [hV, hkk]; exact v_w_ok
  have hS := hI.2.1
  have hfd := hI.2.2
  have hf1 := (hb p1 hp1).1
  have hs1 := (hb p1 hp1).2
  have hf3 := (hb p3 hp3).1
  have hs3 := (hb p3 hp3).2
  refine aw_Met.of okX11_copy (Nat.le_of_ble_eq_true rfl) ?_
  show aw_W G mX11_copy 0 [.ref 81, .int (nI p1), .int (nI i), .int (nI p3), .int (nI j), .int (nI r), aw_x] [] (zH n I L c) (0, 0) _
  refine aw_iload_n dX11_copy_0 rfl ?_
  refine aw_S0c (As := [_]) dX11_copy_1 k11_91 rfl rfl (Nat.le_of_ble_eq_true rfl) ⟨⟨Nat.le_of_ble_eq_true rfl, Nat.le_of_ble_eq_true rfl⟩, ⟨Nat.le_of_ble_eq_true rfl, Nat.le_of_ble_eq_true rfl⟩⟩ ⟨rfl, rfl⟩ (w_isSheet G ((nI p1))) (fun v h2 hq => ?_)
  obtain ⟨rfl, rfl⟩ := hq
  refine aw_if_eq_B (tgt := 14) dX11_copy_4 (by decide) (fun z => absurd z (fun q => q ((zok_nI (by omega)).mpr hp1))) (fun c4 => ?_)
  refine aw_iload_n dX11_copy_7 rfl ?_
  refine aw_S0c (As := [_]) dX11_copy_8 k11_91 rfl rfl (Nat.le_of_ble_eq_true rfl) ⟨⟨Nat.le_of_ble_eq_true rfl, Nat.le_of_ble_eq_true rfl⟩, ⟨Nat.le_of_ble_eq_true rfl, Nat.le_of_ble_eq_true rfl⟩⟩ ⟨rfl, rfl⟩ (w_isSheet G ((nI p3))) (fun v h2 hq => ?_)
  obtain ⟨rfl, rfl⟩ := hq
  refine aw_if_ne_B (tgt := 17) dX11_copy_11 (by decide) (fun c11 => ?_) (fun z => absurd z (fun q => q ((zok_nI (by omega)).mpr hp3)))
  refine aw_aload_n dX11_copy_17 rfl ?_
  refine aw_getR dX11_copy_18 f11_7 rfl ⟨Nat.le_of_ble_eq_true rfl, Nat.le_of_ble_eq_true rfl⟩ rfl rfl ?_
  refine aw_iload_n dX11_copy_21 rfl ?_
  refine aw_iald_n (j := p1) dX11_copy_22 rfl (Nat.le_of_ble_eq_true rfl) (by decide) (by omega) ?_
  refine aw_top (hS p1 hp1).1 ?_
  refine aw_if_lt_p (a := F p1) (tgt := 35) dX11_copy_23 (by decide) (by omega) (fun z => absurd z (by omega)) (fun c23 => ?_)
  refine aw_aload_n dX11_copy_26 rfl ?_
  refine aw_getR dX11_copy_27 f11_7 rfl ⟨Nat.le_of_ble_eq_true rfl, Nat.le_of_ble_eq_true rfl⟩ rfl rfl ?_
  refine aw_iload_n dX11_copy_30 rfl ?_
  refine aw_iald_n (j := p3) dX11_copy_31 rfl (Nat.le_of_ble_eq_true rfl) (by decide) (by omega) ?_
  refine aw_top (hS p3 hp3).1 ?_
  refine aw_if_ge_p (a := F p3) (tgt := 41) dX11_copy_32 (by decide) (by omega) (fun c32 => ?_) (fun z => absurd z (by omega))
  refine aw_aload_n dX11_copy_41 rfl ?_
  refine aw_getR dX11_copy_42 f11_7 rfl ⟨Nat.le_of_ble_eq_true rfl, Nat.le_of_ble_eq_true rfl⟩ rfl rfl ?_
  refine aw_iload_n dX11_copy_45 rfl ?_
  refine aw_iald_n (j := p1) dX11_copy_46 rfl (Nat.le_of_ble_eq_true rfl) (by decide) (by omega) ?_
  refine aw_top (hS p1 hp1).1 ?_
  refine aw_aload_n dX11_copy_47 rfl ?_
  refine aw_getR dX11_copy_48 f11_7 rfl ⟨Nat.le_of_ble_eq_true rfl, Nat.le_of_ble_eq_true rfl⟩ rfl rfl ?_
  refine aw_iload_n dX11_copy_51 rfl ?_
  refine aw_iald_n (j := p3) dX11_copy_52 rfl (Nat.le_of_ble_eq_true rfl) (by decide) (by omega) ?_
  refine aw_top (hS p3 hp3).1 ?_
  refine aw_ic_eq_p (a := F p1) (b := F p3) (tgt := 62) dX11_copy_53 (by decide) (by omega) (by omega) (fun c53 => ?_) (fun z => absurd z (fun q => q hn))
  refine aw_iload_n dX11_copy_62 rfl ?_
  refine aw_if_lt_n (a := i) (tgt := 111) dX11_copy_63 (by decide) (by omega) (fun z => absurd z (fun z => z)) (fun c63 => ?_)
  refine aw_iload dX11_copy_66 rfl ?_
  refine aw_if_lt_n (a := j) (tgt := 111) dX11_copy_68 (by decide) (by omega) (fun z => absurd z (fun z => z)) (fun c68 => ?_)
  refine aw_iload dX11_copy_71 rfl ?_
  refine aw_if_lt_n (a := r) (tgt := 111) dX11_copy_73 (by decide) (by omega) (fun z => absurd z (fun z => z)) (fun c73 => ?_)
  refine aw_iload_n dX11_copy_76 rfl ?_
  refine aw_i2l_n (a := i) dX11_copy_77 (by omega) ?_
  refine aw_iload dX11_copy_78 rfl ?_
  refine aw_i2l_n (a := r) dX11_copy_80 (by omega) ?_
  refine aw_ladd_n (a := i) (b := r) dX11_copy_81 ?_
  refine aw_aload_n dX11_copy_82 rfl ?_
  refine aw_getR dX11_copy_83 f11_13 rfl ⟨Nat.le_of_ble_eq_true rfl, Nat.le_of_ble_eq_true rfl⟩ rfl rfl ?_
  refine aw_iload_n dX11_copy_86 rfl ?_
  refine aw_iald_n (j := p1) dX11_copy_87 rfl (Nat.le_of_ble_eq_true rfl) (by decide) (by omega) ?_
  refine aw_top ((hS p1 hp1).2 hFp1).1 ?_
  refine aw_i2l_n (a := S p1) dX11_copy_88 (by omega) ?_
  refine aw_lcmp dX11_copy_89 ?_
  refine aw_if_gt_L (a := i + r) (b := S p1) (tgt := 111) dX11_copy_90 (by decide) (by omega) (by omega) (fun z => absurd z (by omega)) (fun c90 => ?_)
  refine aw_iload dX11_copy_93 rfl ?_
  refine aw_i2l_n (a := j) dX11_copy_95 (by omega) ?_
  refine aw_iload dX11_copy_96 rfl ?_
  refine aw_i2l_n (a := r) dX11_copy_98 (by omega) ?_
  refine aw_ladd_n (a := j) (b := r) dX11_copy_99 ?_
  refine aw_aload_n dX11_copy_100 rfl ?_
  refine aw_getR dX11_copy_101 f11_13 rfl ⟨Nat.le_of_ble_eq_true rfl, Nat.le_of_ble_eq_true rfl⟩ rfl rfl ?_
  refine aw_iload_n dX11_copy_104 rfl ?_
  refine aw_iald_n (j := p3) dX11_copy_105 rfl (Nat.le_of_ble_eq_true rfl) (by decide) (by omega) ?_
  refine aw_top ((hS p3 hp3).2 hFp3).1 ?_
  refine aw_i2l_n (a := S p3) dX11_copy_106 (by omega) ?_
  refine aw_lcmp dX11_copy_107 ?_
  refine aw_if_le_L (a := j + r) (b := S p3) (tgt := 117) dX11_copy_108 (by decide) (by omega) (by omega) (fun c108 => ?_) (fun z => absurd z (by omega))
  refine aw_iconst (v := 0) dX11_copy_117 rfl ?_
  refine aw_istore (ls2 := [_, _, _, _, _, _, _]) dX11_copy_118 (by decide) rfl rfl ?_
  refine aw_up (X := fun a => ∀ I3, ((∀ q, q < a → I3 85 q = I 84 (60 * p1 + i + q)) ∧ ∀ o, o ≠ 85 → I3 o = I o) → aw_W G mX11_copy 120 [.ref 81, .int (nI p1), .int (nI i), .int (nI p3), .int (nI j), .int (nI r), .int (nI a)] [] (zH n I3 L c) (0, 0) _) (Nat.zero_le r) (fun I3 hh => ?_) (fun a _ ha ih I3 hh => ?_) _ ⟨fun q hq => absurd hq (by omega), fun _ _ => rfl⟩
  · obtain ⟨q1, q2⟩ := hh
    refine aw_iload dX11_copy_120 rfl ?_
    refine aw_iload dX11_copy_122 rfl ?_
    refine aw_ic_ge_n (a := r) (b := r) (tgt := 154) dX11_copy_124 (by decide) (by omega) (by omega) (fun c124 => ?_) (fun z => absurd z (by omega))
    refine aw_iconst (v := 0) dX11_copy_154 rfl ?_
    refine aw_istore (ls2 := [_, _, _, _, _, _, _]) dX11_copy_155 (by decide) rfl rfl ?_
    refine aw_up (X := fun a => ∀ I3, ((∀ q, I3 84 q = if 60 * p3 + j ≤ q ∧ q < 60 * p3 + j + a then I 84 (60 * p1 + i + (q - (60 * p3 + j))) else I 84 q) ∧ (∀ q, q < r → I3 85 q = I 84 (60 * p1 + i + q)) ∧ ∀ o, o ≠ 84 → o ≠ 85 → I3 o = I o) → aw_W G mX11_copy 157 [.ref 81, .int (nI p1), .int (nI i), .int (nI p3), .int (nI j), .int (nI r), .int (nI a)] [] (zH n I3 L c) (0, 0) _) (Nat.zero_le r) (fun I3 hh => ?_) (fun a _ ha ih2 I3 hh => ?_) _ ⟨fun q => by rw [q2 84 (by decide), if_neg (by omega)], q1, fun o _ x => q2 o x⟩
    · obtain ⟨q1, q2, q3⟩ := hh
      refine aw_iload dX11_copy_157 rfl ?_
      refine aw_iload dX11_copy_159 rfl ?_
      refine aw_ic_ge_n (a := r) (b := r) (tgt := 192) dX11_copy_161 (by decide) (by omega) (by omega) (fun c161 => ?_) (fun z => absurd z (by omega))
      refine aw_iconst (v := 1) dX11_copy_192 rfl ?_
      refine aw_reti dX11_copy_193 rfl rfl ⟨Nat.le_of_ble_eq_true rfl, Nat.le_of_ble_eq_true rfl⟩ ?_
      exact ⟨rfl, _, rfl, hI.sh (hS.cpy hp1 hp3 hFp1 hi hj (fun s hs => (hb s hs).2) (q3 82 (by decide) (by decide)) (q3 83 (by decide) (by decide)) q1) (fun o a b => q3 o (by omega) (by omega)) (fun j _ => by rw [q3 81 (by decide) (by decide)]) (by rw [q3 81 (by decide) (by decide)]; exact hfd), fun o ho => q3 o (by omega) (by omega)⟩
    · obtain ⟨q1, q2, q3⟩ := hh
      refine aw_iload dX11_copy_157 rfl ?_
      refine aw_iload dX11_copy_159 rfl ?_
      refine aw_ic_ge_n (a := a) (b := r) (tgt := 192) dX11_copy_161 (by decide) (by omega) (by omega) (fun z => absurd z (by omega)) (fun c161 => ?_)
      refine aw_aload_n dX11_copy_164 rfl ?_
      refine aw_getR dX11_copy_165 f11_16 rfl ⟨Nat.le_of_ble_eq_true rfl, Nat.le_of_ble_eq_true rfl⟩ rfl rfl ?_
      refine aw_bipush (v := 60) dX11_copy_168 (by decide) ?_
      refine aw_iload_n dX11_copy_170 rfl ?_
      refine aw_imul_n (a := 60) (b := p3) dX11_copy_171 ?_
      refine aw_iload dX11_copy_172 rfl ?_
      refine aw_iadd_n (a := 60 * p3) (b := j) dX11_copy_174 ?_
      refine aw_iload dX11_copy_175 rfl ?_
      refine aw_iadd_n (a := (60 * p3) + j) (b := a) dX11_copy_177 ?_
      refine aw_aload_n dX11_copy_178 rfl ?_
      refine aw_getR dX11_copy_179 f11_19 rfl ⟨Nat.le_of_ble_eq_true rfl, Nat.le_of_ble_eq_true rfl⟩ rfl rfl ?_
      refine aw_iload dX11_copy_182 rfl ?_
      refine aw_iald_n (j := a) dX11_copy_184 rfl (Nat.le_of_ble_eq_true rfl) (by decide) (by omega) ?_
      refine aw_top (q2 a (by omega)) ?_
      refine aw_iast_n (j := ((60 * p3) + j) + a) dX11_copy_185 rfl ⟨Nat.le_of_ble_eq_true rfl, Nat.le_of_ble_eq_true rfl⟩ (by decide) (by omega) ?_
      refine aw_iinc_n (ls2 := [_, _, _, _, _, _, _]) dX11_copy_186 rfl (by decide) rfl rfl ?_
      refine aw_goto (tgt := 157) dX11_copy_189 (by decide) ?_
      refine ih2 _ ⟨fun q => ?_, fun q hq => by rw [aw_u_ne (by decide)]; exact q2 q hq, fun o x y => by rw [aw_u_ne x]; exact q3 o x y⟩
      by_cases e0 : q = 60 * p3 + j + a
      · subst e0; rw [aw_u_eq, if_pos (by omega), show 60 * p3 + j + a - (60 * p3 + j) = a by omega]
      · rw [aw_u_nj e0, q1]
        by_cases hc : 60 * p3 + j ≤ q ∧ q < 60 * p3 + j + a
        · rw [if_pos hc, if_pos (by omega)]
        · rw [if_neg hc, if_neg (by omega)]
  · obtain ⟨q1, q2⟩ := hh
    refine aw_iload dX11_copy_120 rfl ?_
    refine aw_iload dX11_copy_122 rfl ?_
    refine aw_ic_ge_n (a := a) (b := r) (tgt := 154) dX11_copy_124 (by decide) (by omega) (by omega) (fun z => absurd z (by omega)) (fun c124 => ?_)
    refine aw_aload_n dX11_copy_127 rfl ?_
    refine aw_getR dX11_copy_128 f11_19 rfl ⟨Nat.le_of_ble_eq_true rfl, Nat.le_of_ble_eq_true rfl⟩ rfl rfl ?_
    refine aw_iload dX11_copy_131 rfl ?_
    refine aw_aload_n dX11_copy_133 rfl ?_
    refine aw_getR dX11_copy_134 f11_16 rfl ⟨Nat.le_of_ble_eq_true rfl, Nat.le_of_ble_eq_true rfl⟩ rfl rfl ?_
    refine aw_bipush (v := 60) dX11_copy_137 (by decide) ?_
    refine aw_iload_n dX11_copy_139 rfl ?_
    refine aw_imul_n (a := 60) (b := p1) dX11_copy_140 ?_
    refine aw_iload_n dX11_copy_141 rfl ?_
    refine aw_iadd_n (a := 60 * p1) (b := i) dX11_copy_142 ?_
    refine aw_iload dX11_copy_143 rfl ?_
    refine aw_iadd_n (a := (60 * p1) + i) (b := a) dX11_copy_145 ?_
    refine aw_iald_n (j := ((60 * p1) + i) + a) dX11_copy_146 rfl (Nat.le_of_ble_eq_true rfl) (by decide) (by omega) ?_
    refine aw_top (show _ = I 84 (60 * p1 + i + a) from by rw [q2 84 (by decide)]) ?_
    refine aw_iast_n (j := a) dX11_copy_147 rfl ⟨Nat.le_of_ble_eq_true rfl, Nat.le_of_ble_eq_true rfl⟩ (by decide) (by omega) ?_
    refine aw_iinc_n (ls2 := [_, _, _, _, _, _, _]) dX11_copy_148 rfl (by decide) rfl rfl ?_
    refine aw_goto (tgt := 120) dX11_copy_151 (by decide) ?_
    refine ih _ ⟨fun q hq => ?_, fun o x => by rw [aw_u_ne x]; exact q2 o x⟩
    by_cases e0 : q = a
    · subst e0; rw [aw_u_eq]
    · rw [aw_u_nj e0]; exact q1 q (by omega)
theorem m_writeB (G : aw_G) {n c : Nat} {I : Nat → Nat → Int32} {L : Nat → Nat → Int64} {b0 b1 : Nat → Nat} {l0 l1 : Nat} {t u x y V g : Nat → Nat → Nat} {kk : Nat} {F S : Nat → Nat} {E : Nat → Nat → Int32} {fd : Int32} (hX : zTx b0 b1 l0 l1 t u x y V kk) (hI : zMI b0 b1 l0 l1 t u g F S E fd I) {a1 a2 : Int32} (hz : ¬ (zok a1 (t 6 0) ∧ zok a2 4)) : aw_Met G mX11_write [.ref 81, .int a1, .int a2] (zH n I L c) (fun v h2 => v = some (.int (-2)) ∧ ∃ I2, h2 = zH n I2 L c ∧ zMI b0 b1 l0 l1 t u g F S E fd I2 ∧ ∀ o, o < 81 → I2 o = I o) := by
  obtain ⟨hP, h60, h61, htc, hV, hkk, hx, hy⟩ := id hX
  have h8 := hP.1.1
  have hB := hI.1.1
  have hk10 : kk ≤ 10 := by rw [hkk]; exact q_k_leW hB.2.2.2.2.1
  have hVo : f_Vok V kk := by rw [hV, hkk]; exact v_w_ok
  refine aw_Met.of okX11_write (Nat.le_of_ble_eq_true rfl) ?_
  show aw_W G mX11_write 0 [.ref 81, .int a1, .int a2, aw_x, aw_x] [] (zH n I L c) (0, 0) _
  refine aw_aload_n dX11_write_0 rfl ?_
  refine aw_V0c (As := []) dX11_write_1 k11_218 rfl rfl rfl ⟨Nat.le_of_ble_eq_true rfl, Nat.le_of_ble_eq_true rfl⟩ (Nat.le_of_ble_eq_true rfl) ⟨⟨Nat.le_of_ble_eq_true rfl, Nat.le_of_ble_eq_true rfl⟩, ⟨Nat.le_of_ble_eq_true rfl, Nat.le_of_ble_eq_true rfl⟩⟩ ⟨rfl, rfl⟩ (w_find G hX hI.1) (fun v h2 hq => ?_)
  obtain ⟨rfl, I2, rfl, m, ho, hM, hTo⟩ := hq
  have hot := zOut (u := u) (s := z0) (m := m) hP.1 hP.2.2.2.1 hP.2.2.2.2.1 hP.2.2.2.2.2 z0_old ho.1 (fun k hk => hP.2.1 k (by omega))
  refine aw_aload_n dX11_write_4 rfl ?_
  refine aw_iload_n dX11_write_5 rfl ?_
  refine aw_V0c (As := [_]) dX11_write_6 k11_153 rfl rfl rfl ⟨Nat.le_of_ble_eq_true rfl, Nat.le_of_ble_eq_true rfl⟩ (Nat.le_of_ble_eq_true rfl) ⟨⟨Nat.le_of_ble_eq_true rfl, Nat.le_of_ble_eq_true rfl⟩, ⟨Nat.le_of_ble_eq_true rfl, Nat.le_of_ble_eq_true rfl⟩⟩ ⟨rfl, rfl⟩ (w_isCarter G a1 (k := t 6 0) hM.2.1.2.2.1 h8) (fun v h2 hq => ?_)
  obtain ⟨rfl, rfl⟩ := hq
  refine aw_if_eq_B (tgt := 19) dX11_write_9 (by decide) (fun c9 => ?_) (fun c9 => ?_)
  · refine aw_bipush (v := -2) dX11_write_19 (by decide) ?_
    refine aw_reti dX11_write_21 rfl rfl ⟨Nat.le_of_ble_eq_true rfl, Nat.le_of_ble_eq_true rfl⟩ ?_
    exact ⟨rfl, _, rfl, hI.my hM, hM.fr⟩
  · refine aw_iload_n dX11_write_12 rfl ?_
    refine aw_S0c (As := [_]) dX11_write_13 k11_91 rfl rfl (Nat.le_of_ble_eq_true rfl) ⟨⟨Nat.le_of_ble_eq_true rfl, Nat.le_of_ble_eq_true rfl⟩, ⟨Nat.le_of_ble_eq_true rfl, Nat.le_of_ble_eq_true rfl⟩⟩ ⟨rfl, rfl⟩ (w_isSheet G a2) (fun v h2 hq => ?_)
    obtain ⟨rfl, rfl⟩ := hq
    refine aw_if_ne_B (tgt := 22) dX11_write_16 (by decide) (fun z => absurd z (fun q => hz ⟨c9, q⟩)) (fun c16 => ?_)
    refine aw_bipush (v := -2) dX11_write_19 (by decide) ?_
    refine aw_reti dX11_write_21 rfl rfl ⟨Nat.le_of_ble_eq_true rfl, Nat.le_of_ble_eq_true rfl⟩ ?_
    exact ⟨rfl, _, rfl, hI.my hM, hM.fr⟩
theorem m_writeL (G : aw_G) {n c : Nat} {I : Nat → Nat → Int32} {L : Nat → Nat → Int64} {b0 b1 : Nat → Nat} {l0 l1 : Nat} {t u x y V g : Nat → Nat → Nat} {kk : Nat} {F S : Nat → Nat} {E : Nat → Nat → Int32} {fd : Int32} (hX : zTx b0 b1 l0 l1 t u x y V kk) (hI : zMI b0 b1 l0 l1 t u g F S E fd I) (hb : ∀ s, s < 4 → F s ≤ 3 ∧ S s ≤ 60) {p1 p2 : Nat} (hp1 : p1 < t 6 0) (hp2 : p2 < 4) (h0 : F p2 = 0) : aw_Met G mX11_write [.ref 81, .int (nI p1), .int (nI p2)] (zH n I L c) (fun v h2 => v = some (.int (-10 - 1)) ∧ ∃ I2, h2 = zH n I2 L c ∧ zMI b0 b1 l0 l1 t u g F S E 1 I2 ∧ ∀ o, o < 81 → I2 o = I o) := by
  obtain ⟨hP, h60, h61, htc, hV, hkk, hx, hy⟩ := id hX
  have h8 := hP.1.1
  have hB := hI.1.1
  have hk10 : kk ≤ 10 := by rw [hkk]; exact q_k_leW hB.2.2.2.2.1
  have hVo : f_Vok V kk := by rw [hV, hkk]; exact v_w_ok
  have hS := hI.2.1
  have hfd := hI.2.2
  have hf2 := (hb p2 hp2).1
  have hs2 := (hb p2 hp2).2
  refine aw_Met.of okX11_write (Nat.le_of_ble_eq_true rfl) ?_
  show aw_W G mX11_write 0 [.ref 81, .int (nI p1), .int (nI p2), aw_x, aw_x] [] (zH n I L c) (0, 0) _
  refine aw_aload_n dX11_write_0 rfl ?_
  refine aw_V0c (As := []) dX11_write_1 k11_218 rfl rfl rfl ⟨Nat.le_of_ble_eq_true rfl, Nat.le_of_ble_eq_true rfl⟩ (Nat.le_of_ble_eq_true rfl) ⟨⟨Nat.le_of_ble_eq_true rfl, Nat.le_of_ble_eq_true rfl⟩, ⟨Nat.le_of_ble_eq_true rfl, Nat.le_of_ble_eq_true rfl⟩⟩ ⟨rfl, rfl⟩ (w_find G hX hI.1) (fun v h2 hq => ?_)
  obtain ⟨rfl, I2, rfl, m, ho, hM, hTo⟩ := hq
  have hot := zOut (u := u) (s := z0) (m := m) hP.1 hP.2.2.2.1 hP.2.2.2.2.1 hP.2.2.2.2.2 z0_old ho.1 (fun k hk => hP.2.1 k (by omega))
  have hI2 := hI.my hM
  obtain ⟨-, hS2, hfd2⟩ := id hI2
  refine aw_aload_n dX11_write_4 rfl ?_
  refine aw_iload_n dX11_write_5 rfl ?_
  refine aw_V0c (As := [_]) dX11_write_6 k11_153 rfl rfl rfl ⟨Nat.le_of_ble_eq_true rfl, Nat.le_of_ble_eq_true rfl⟩ (Nat.le_of_ble_eq_true rfl) ⟨⟨Nat.le_of_ble_eq_true rfl, Nat.le_of_ble_eq_true rfl⟩, ⟨Nat.le_of_ble_eq_true rfl, Nat.le_of_ble_eq_true rfl⟩⟩ ⟨rfl, rfl⟩ (w_isCarter G ((nI p1)) (k := t 6 0) hM.2.1.2.2.1 h8) (fun v h2 hq => ?_)
  obtain ⟨rfl, rfl⟩ := hq
  refine aw_if_eq_B (tgt := 19) dX11_write_9 (by decide) (fun z => absurd z (fun q => q ((zok_nI (by omega)).mpr hp1))) (fun c9 => ?_)
  refine aw_iload_n dX11_write_12 rfl ?_
  refine aw_S0c (As := [_]) dX11_write_13 k11_91 rfl rfl (Nat.le_of_ble_eq_true rfl) ⟨⟨Nat.le_of_ble_eq_true rfl, Nat.le_of_ble_eq_true rfl⟩, ⟨Nat.le_of_ble_eq_true rfl, Nat.le_of_ble_eq_true rfl⟩⟩ ⟨rfl, rfl⟩ (w_isSheet G ((nI p2))) (fun v h2 hq => ?_)
  obtain ⟨rfl, rfl⟩ := hq
  refine aw_if_ne_B (tgt := 22) dX11_write_16 (by decide) (fun c16 => ?_) (fun z => absurd z (fun q => q ((zok_nI (by omega)).mpr hp2)))
  refine aw_aload_n dX11_write_22 rfl ?_
  refine aw_getR dX11_write_23 f11_7 rfl ⟨Nat.le_of_ble_eq_true rfl, Nat.le_of_ble_eq_true rfl⟩ rfl rfl ?_
  refine aw_iload_n dX11_write_26 rfl ?_
  refine aw_iald_n (j := p2) dX11_write_27 rfl (Nat.le_of_ble_eq_true rfl) (by decide) (by omega) ?_
  refine aw_top (hS2 p2 hp2).1 ?_
  refine aw_if_ge_p (a := F p2) (tgt := 37) dX11_write_28 (by decide) (by omega) (fun z => absurd z (by omega)) (fun c28 => ?_)
  refine aw_aload_n dX11_write_31 rfl ?_
  refine aw_iconst (v := 1) dX11_write_32 rfl ?_
  refine aw_V0c (As := [_]) dX11_write_33 k11_97 rfl rfl rfl ⟨Nat.le_of_ble_eq_true rfl, Nat.le_of_ble_eq_true rfl⟩ (Nat.le_of_ble_eq_true rfl) ⟨⟨Nat.le_of_ble_eq_true rfl, Nat.le_of_ble_eq_true rfl⟩, ⟨Nat.le_of_ble_eq_true rfl, Nat.le_of_ble_eq_true rfl⟩⟩ ⟨rfl, rfl⟩ (w_finds G (v0 := 1)) (fun v h2 hq => ?_)
  obtain ⟨rfl, rfl⟩ := hq
  refine aw_reti dX11_write_36 rfl rfl ⟨Nat.le_of_ble_eq_true rfl, Nat.le_of_ble_eq_true rfl⟩ ?_
  exact ⟨rfl, _, rfl, hI2.fnd _, fun o ho => by rw [aw_u_ne (by omega)]; exact hM.fr o ho⟩
theorem m_write (G : aw_G) {n c : Nat} {I : Nat → Nat → Int32} {L : Nat → Nat → Int64} {b0 b1 : Nat → Nat} {l0 l1 : Nat} {t u x y V g : Nat → Nat → Nat} {kk : Nat} {F S : Nat → Nat} {E : Nat → Nat → Int32} {fd : Int32} (hX : zTx b0 b1 l0 l1 t u x y V kk) (hI : zMI b0 b1 l0 l1 t u g F S E fd I) (hb : ∀ s, s < 4 → F s ≤ 3 ∧ S s ≤ 60) {p1 p2 : Nat} (hp1 : p1 < t 6 0) (hp2 : p2 < 4) (hFp2 : F p2 ≠ 0) : aw_Met G mX11_write [.ref 81, .int (nI p1), .int (nI p2)] (zH n I L c) (fun v h2 => v = some (.int (nI (if 40 < S p2 then 40 else S p2))) ∧ ∃ I2, h2 = zH n I2 L c ∧ zMI b0 b1 l0 l1 t u g F S (e_wr E p2 (F p2 - 1) (o_sb x u t p1) (if 40 < S p2 then 40 else S p2)) fd I2 ∧ ∀ o, o < 81 → I2 o = I o) := by
  obtain ⟨hP, h60, h61, htc, hV, hkk, hx, hy⟩ := id hX
  have h8 := hP.1.1
  have hB := hI.1.1
  have hk10 : kk ≤ 10 := by rw [hkk]; exact q_k_leW hB.2.2.2.2.1
  have hVo : f_Vok V kk := by rw [hV, hkk]; exact v_w_ok
  have hS := hI.2.1
  have hfd := hI.2.2
  have hf2 := (hb p2 hp2).1
  have hs2 := (hb p2 hp2).2
  obtain ⟨N, hN⟩ : ∃ N, N = if 40 < S p2 then 40 else S p2 := ⟨_, rfl⟩
  have hN4 : N ≤ 40 := by rw [hN]; split <;> omega
  have hN9 : (if S p2 < 40 then S p2 else 40) = N := by rw [hN]; split <;> split <;> omega
  refine aw_Met.of okX11_write (Nat.le_of_ble_eq_true rfl) ?_
  show aw_W G mX11_write 0 [.ref 81, .int (nI p1), .int (nI p2), aw_x, aw_x] [] (zH n I L c) (0, 0) _
  refine aw_aload_n dX11_write_0 rfl ?_
  refine aw_V0c (As := []) dX11_write_1 k11_218 rfl rfl rfl ⟨Nat.le_of_ble_eq_true rfl, Nat.le_of_ble_eq_true rfl⟩ (Nat.le_of_ble_eq_true rfl) ⟨⟨Nat.le_of_ble_eq_true rfl, Nat.le_of_ble_eq_true rfl⟩, ⟨Nat.le_of_ble_eq_true rfl, Nat.le_of_ble_eq_true rfl⟩⟩ ⟨rfl, rfl⟩ (w_find G hX hI.1) (fun v h2 hq => ?_)
  obtain ⟨rfl, I2, rfl, m, ho, hM, hTo⟩ := hq
  have hot := zOut (u := u) (s := z0) (m := m) hP.1 hP.2.2.2.1 hP.2.2.2.2.1 hP.2.2.2.2.2 z0_old ho.1 (fun k hk => hP.2.1 k (by omega))
  have hI2 := hI.my hM
  obtain ⟨-, hS2, hfd2⟩ := id hI2
  refine aw_aload_n dX11_write_4 rfl ?_
  refine aw_iload_n dX11_write_5 rfl ?_
  refine aw_V0c (As := [_]) dX11_write_6 k11_153 rfl rfl rfl ⟨Nat.le_of_ble_eq_true rfl, Nat.le_of_ble_eq_true rfl⟩ (Nat.le_of_ble_eq_true rfl) ⟨⟨Nat.le_of_ble_eq_true rfl, Nat.le_of_ble_eq_true rfl⟩, ⟨Nat.le_of_ble_eq_true rfl, Nat.le_of_ble_eq_true rfl⟩⟩ ⟨rfl, rfl⟩ (w_isCarter G ((nI p1)) (k := t 6 0) hM.2.1.2.2.1 h8) (fun v h2 hq => ?_)
  obtain ⟨rfl, rfl⟩ := hq
  refine aw_if_eq_B (tgt := 19) dX11_write_9 (by decide) (fun z => absurd z (fun q => q ((zok_nI (by omega)).mpr hp1))) (fun c9 => ?_)
  refine aw_iload_n dX11_write_12 rfl ?_
  refine aw_S0c (As := [_]) dX11_write_13 k11_91 rfl rfl (Nat.le_of_ble_eq_true rfl) ⟨⟨Nat.le_of_ble_eq_true rfl, Nat.le_of_ble_eq_true rfl⟩, ⟨Nat.le_of_ble_eq_true rfl, Nat.le_of_ble_eq_true rfl⟩⟩ ⟨rfl, rfl⟩ (w_isSheet G ((nI p2))) (fun v h2 hq => ?_)
  obtain ⟨rfl, rfl⟩ := hq
  refine aw_if_ne_B (tgt := 22) dX11_write_16 (by decide) (fun c16 => ?_) (fun z => absurd z (fun q => q ((zok_nI (by omega)).mpr hp2)))
  refine aw_aload_n dX11_write_22 rfl ?_
  refine aw_getR dX11_write_23 f11_7 rfl ⟨Nat.le_of_ble_eq_true rfl, Nat.le_of_ble_eq_true rfl⟩ rfl rfl ?_
  refine aw_iload_n dX11_write_26 rfl ?_
  refine aw_iald_n (j := p2) dX11_write_27 rfl (Nat.le_of_ble_eq_true rfl) (by decide) (by omega) ?_
  refine aw_top (hS2 p2 hp2).1 ?_
  refine aw_if_ge_p (a := F p2) (tgt := 37) dX11_write_28 (by decide) (by omega) (fun c28 => ?_) (fun z => absurd z (by omega))
  refine aw_aload_n dX11_write_37 rfl ?_
  refine aw_getR dX11_write_38 f11_13 rfl ⟨Nat.le_of_ble_eq_true rfl, Nat.le_of_ble_eq_true rfl⟩ rfl rfl ?_
  refine aw_iload_n dX11_write_41 rfl ?_
  refine aw_iald_n (j := p2) dX11_write_42 rfl (Nat.le_of_ble_eq_true rfl) (by decide) (by omega) ?_
  refine aw_top ((hS2 p2 hp2).2 hFp2).1 ?_
  refine aw_bipush (v := 40) dX11_write_43 (by decide) ?_
  refine aw_S0c (As := [_, _]) dX11_write_45 k11_171 rfl rfl (Nat.le_of_ble_eq_true rfl) ⟨⟨Nat.le_of_ble_eq_true rfl, Nat.le_of_ble_eq_true rfl⟩, ⟨Nat.le_of_ble_eq_true rfl, Nat.le_of_ble_eq_true rfl⟩⟩ ⟨rfl, rfl⟩ (w_lesser G (a := S p2) (b := 40) (by omega) (by omega)) (fun v h2 hq => ?_)
  obtain ⟨rfl, rfl⟩ := hq
  refine aw_top (show _ = nI N from congrArg nI hN9) ?_
  refine aw_istore_n (ls2 := [_, _, _, _, _]) dX11_write_48 (by decide) rfl rfl ?_
  refine aw_iconst (v := 0) dX11_write_49 rfl ?_
  refine aw_istore (ls2 := [_, _, _, _, _]) dX11_write_50 (by decide) rfl rfl ?_
  refine aw_up (X := fun i => ∀ I3, ((zMI b0 b1 l0 l1 t u g F S (e_wr E p2 (F p2 - 1) (o_sb x u t p1) i) fd I3 ∧ ∀ o, o ≠ 84 → I3 o = I2 o)) → aw_W G mX11_write 52 [.ref 81, .int (nI p1), .int (nI p2), .int (nI N), .int (nI i)] [] (zH n I3 L c) (0, 0) _) (Nat.zero_le N) (fun I3 hh => ?_) (fun i _ hi ih I3 hh => ?_) _ ⟨by rw [e_wr_0]; exact hI2, fun _ _ => rfl⟩
  · obtain ⟨hI3, hFr3⟩ := hh
    refine aw_iload dX11_write_52 rfl ?_
    refine aw_iload_n dX11_write_54 rfl ?_
    refine aw_ic_ge_n (a := N) (b := N) (tgt := 101) dX11_write_55 (by decide) (by omega) (by omega) (fun c55 => ?_) (fun z => absurd z (by omega))
    refine aw_iload_n dX11_write_101 rfl ?_
    refine aw_reti dX11_write_102 rfl rfl ⟨Nat.le_of_ble_eq_true rfl, Nat.le_of_ble_eq_true rfl⟩ ?_
    exact ⟨by rw [hN], _, rfl, by rw [← hN]; exact hI3, fun o ho => by rw [hFr3 o (by omega)]; exact hM.fr o ho⟩
  · obtain ⟨hI3, hFr3⟩ := hh
    refine aw_iload dX11_write_52 rfl ?_
    refine aw_iload_n dX11_write_54 rfl ?_
    refine aw_ic_ge_n (a := i) (b := N) (tgt := 101) dX11_write_55 (by decide) (by omega) (by omega) (fun z => absurd z (by omega)) (fun c55 => ?_)
    refine aw_aload_n dX11_write_58 rfl ?_
    refine aw_getR dX11_write_59 f11_16 rfl ⟨Nat.le_of_ble_eq_true rfl, Nat.le_of_ble_eq_true rfl⟩ rfl rfl ?_
    refine aw_bipush (v := 60) dX11_write_62 (by decide) ?_
    refine aw_iload_n dX11_write_64 rfl ?_
    refine aw_imul_n (a := 60) (b := p2) dX11_write_65 ?_
    refine aw_iload dX11_write_66 rfl ?_
    refine aw_iadd_n (a := 60 * p2) (b := i) dX11_write_68 ?_
    refine aw_aload_n dX11_write_69 rfl ?_
    refine aw_getR dX11_write_70 f11_7 rfl ⟨Nat.le_of_ble_eq_true rfl, Nat.le_of_ble_eq_true rfl⟩ rfl rfl ?_
    refine aw_iload_n dX11_write_73 rfl ?_
    refine aw_iald_n (j := p2) dX11_write_74 rfl (Nat.le_of_ble_eq_true rfl) (by decide) (by omega) ?_
    refine aw_top ((hI3.2.1 p2 hp2).1.trans (zi_pred hFp2)) ?_
    refine aw_aload_n dX11_write_75 rfl ?_
    refine aw_getR dX11_write_76 f11_64 rfl ⟨Nat.le_of_ble_eq_true rfl, Nat.le_of_ble_eq_true rfl⟩ rfl rfl ?_
    refine aw_bipush (v := 32) dX11_write_79 (by decide) ?_
    refine aw_iload dX11_write_81 rfl ?_
    refine aw_imul_n (a := 32) (b := i) dX11_write_83 ?_
    refine aw_iconst (v := 4) dX11_write_84 rfl ?_
    refine aw_iload_n dX11_write_85 rfl ?_
    refine aw_imul_n (a := 4) (b := p1) dX11_write_86 ?_
    refine aw_iadd_n (a := 32 * i) (b := 4 * p1) dX11_write_87 ?_
    refine aw_iconst (v := 1) dX11_write_88 rfl ?_
    refine aw_iadd_n (a := (32 * i) + (4 * p1)) (b := 1) dX11_write_89 ?_
    refine aw_iald_n (j := ((32 * i) + (4 * p1)) + 1) dX11_write_90 rfl (Nat.le_of_ble_eq_true rfl) (by decide) (by omega) ?_
    refine aw_top (show _ = nI (o_sb x u t p1 i) - 1 from by rw [hFr3 100 (by decide)]; exact (hTo p1 hp1).2.2 i (by omega)) ?_
    refine aw_S0c (As := [_, _]) dX11_write_91 k11_105 rfl rfl (Nat.le_of_ble_eq_true rfl) ⟨⟨Nat.le_of_ble_eq_true rfl, Nat.le_of_ble_eq_true rfl⟩, ⟨Nat.le_of_ble_eq_true rfl, Nat.le_of_ble_eq_true rfl⟩⟩ ⟨rfl, rfl⟩ (w_cut G (f := F p2 - 1) (v0 := nI (o_sb x u t p1 i) - 1) (by omega)) (fun v h2 hq => ?_)
    obtain ⟨rfl, rfl⟩ := hq
    refine aw_iast_n (j := (60 * p2) + i) dX11_write_94 rfl ⟨Nat.le_of_ble_eq_true rfl, Nat.le_of_ble_eq_true rfl⟩ (by decide) (by omega) ?_
    refine aw_iinc_n (ls2 := [_, _, _, _, _]) dX11_write_95 rfl (by decide) rfl rfl ?_
    refine aw_goto (tgt := 52) dX11_write_98 (by decide) ?_
    refine ih _ ⟨?_, fun o ho => by rw [aw_u_ne ho]; exact hFr3 o ho⟩
    rw [← e_wr_S]
    exact hI3.sh (hI3.2.1.put (fun s hs => (hb s hs).2) (by omega) hp2) (fun o _ b => aw_u_ne (by omega)) (fun j _ => by rw [aw_u_ne (by decide)]) (by rw [aw_u_ne (by decide)]; exact hI3.2.2)
theorem m_readB (G : aw_G) {n c : Nat} {I : Nat → Nat → Int32} {L : Nat → Nat → Int64} {b0 b1 : Nat → Nat} {l0 l1 : Nat} {t u x y V g : Nat → Nat → Nat} {kk : Nat} {F S : Nat → Nat} {E : Nat → Nat → Int32} {fd : Int32} (hX : zTx b0 b1 l0 l1 t u x y V kk) (hI : zMI b0 b1 l0 l1 t u g F S E fd I) {a1 : Int32} (hz : ¬ (zok a1 4)) : aw_Met G mX11_read [.ref 81, .int a1] (zH n I L c) (fun v h2 => v = some (.int (-2)) ∧ ∃ I2, h2 = zH n I2 L c ∧ zMI b0 b1 l0 l1 t u g F S E fd I2 ∧ ∀ o, o < 81 → I2 o = I o) := by
  obtain ⟨hP, h60, h61, htc, hV, hkk, hx, hy⟩ := id hX
  have h8 := hP.1.1
  have hB := hI.1.1
  have hk10 : kk ≤ 10 := by rw [hkk]; exact q_k_leW hB.2.2.2.2.1
  have hVo : f_Vok V kk := by rw [hV, hkk]; exact v_w_ok
  refine aw_Met.of okX11_read (Nat.le_of_ble_eq_true rfl) ?_
  show aw_W G mX11_read 0 [.ref 81, .int a1, aw_x, aw_x] [] (zH n I L c) (0, 0) _
  refine aw_iload_n dX11_read_0 rfl ?_
  refine aw_S0c (As := [_]) dX11_read_1 k11_91 rfl rfl (Nat.le_of_ble_eq_true rfl) ⟨⟨Nat.le_of_ble_eq_true rfl, Nat.le_of_ble_eq_true rfl⟩, ⟨Nat.le_of_ble_eq_true rfl, Nat.le_of_ble_eq_true rfl⟩⟩ ⟨rfl, rfl⟩ (w_isSheet G a1) (fun v h2 hq => ?_)
  obtain ⟨rfl, rfl⟩ := hq
  refine aw_if_ne_B (tgt := 10) dX11_read_4 (by decide) (fun z => absurd z hz) (fun c4 => ?_)
  refine aw_bipush (v := -2) dX11_read_7 (by decide) ?_
  refine aw_reti dX11_read_9 rfl rfl ⟨Nat.le_of_ble_eq_true rfl, Nat.le_of_ble_eq_true rfl⟩ ?_
  exact ⟨rfl, _, rfl, hI, fun _ _ => rfl⟩
theorem m_readL (G : aw_G) {n c : Nat} {I : Nat → Nat → Int32} {L : Nat → Nat → Int64} {b0 b1 : Nat → Nat} {l0 l1 : Nat} {t u x y V g : Nat → Nat → Nat} {kk : Nat} {F S : Nat → Nat} {E : Nat → Nat → Int32} {fd : Int32} (hX : zTx b0 b1 l0 l1 t u x y V kk) (hI : zMI b0 b1 l0 l1 t u g F S E fd I) (hb : ∀ s, s < 4 → F s ≤ 3 ∧ S s ≤ 60) {p1 : Nat} (hp1 : p1 < 4) (h0 : F p1 = 0) : aw_Met G mX11_read [.ref 81, .int (nI p1)] (zH n I L c) (fun v h2 => v = some (.int (-10 - 1)) ∧ ∃ I2, h2 = zH n I2 L c ∧ zMI b0 b1 l0 l1 t u g F S E 1 I2 ∧ ∀ o, o < 81 → I2 o = I o) := by
  obtain ⟨hP, h60, h61, htc, hV, hkk, hx, hy⟩ := id hX
  have h8 := hP.1.1
  have hB := hI.1.1
  have hk10 : kk ≤ 10 := by rw [hkk]; exact q_k_leW hB.2.2.2.2.1
  have hVo : f_Vok V kk := by rw [hV, hkk]; exact v_w_ok
  have hS := hI.2.1
  have hfd := hI.2.2
  have hf1 := (hb p1 hp1).1
  have hs1 := (hb p1 hp1).2
  refine aw_Met.of okX11_read (Nat.le_of_ble_eq_true rfl) ?_
  show aw_W G mX11_read 0 [.ref 81, .int (nI p1), aw_x, aw_x] [] (zH n I L c) (0, 0) _
  refine aw_iload_n dX11_read_0 rfl ?_
  refine aw_S0c (As := [_]) dX11_read_1 k11_91 rfl rfl (Nat.le_of_ble_eq_true rfl) ⟨⟨Nat.le_of_ble_eq_true rfl, Nat.le_of_ble_eq_true rfl⟩, ⟨Nat.le_of_ble_eq_true rfl, Nat.le_of_ble_eq_true rfl⟩⟩ ⟨rfl, rfl⟩ (w_isSheet G ((nI p1))) (fun v h2 hq => ?_)
  obtain ⟨rfl, rfl⟩ := hq
  refine aw_if_ne_B (tgt := 10) dX11_read_4 (by decide) (fun c4 => ?_) (fun z => absurd z (fun q => q ((zok_nI (by omega)).mpr hp1)))
  refine aw_aload_n dX11_read_10 rfl ?_
  refine aw_getR dX11_read_11 f11_7 rfl ⟨Nat.le_of_ble_eq_true rfl, Nat.le_of_ble_eq_true rfl⟩ rfl rfl ?_
  refine aw_iload_n dX11_read_14 rfl ?_
  refine aw_iald_n (j := p1) dX11_read_15 rfl (Nat.le_of_ble_eq_true rfl) (by decide) (by omega) ?_
  refine aw_top (hS p1 hp1).1 ?_
  refine aw_if_ge_p (a := F p1) (tgt := 25) dX11_read_16 (by decide) (by omega) (fun z => absurd z (by omega)) (fun c16 => ?_)
  refine aw_aload_n dX11_read_19 rfl ?_
  refine aw_iconst (v := 1) dX11_read_20 rfl ?_
  refine aw_V0c (As := [_]) dX11_read_21 k11_97 rfl rfl rfl ⟨Nat.le_of_ble_eq_true rfl, Nat.le_of_ble_eq_true rfl⟩ (Nat.le_of_ble_eq_true rfl) ⟨⟨Nat.le_of_ble_eq_true rfl, Nat.le_of_ble_eq_true rfl⟩, ⟨Nat.le_of_ble_eq_true rfl, Nat.le_of_ble_eq_true rfl⟩⟩ ⟨rfl, rfl⟩ (w_finds G (v0 := 1)) (fun v h2 hq => ?_)
  obtain ⟨rfl, rfl⟩ := hq
  refine aw_reti dX11_read_24 rfl rfl ⟨Nat.le_of_ble_eq_true rfl, Nat.le_of_ble_eq_true rfl⟩ ?_
  exact ⟨rfl, _, rfl, hI.fnd _, fun o ho => aw_u_ne (by omega)⟩
theorem m_answerA (G : aw_G) {n c : Nat} {I : Nat → Nat → Int32} {L : Nat → Nat → Int64} {b0 b1 : Nat → Nat} {l0 l1 : Nat} {t u x y V g : Nat → Nat → Nat} {kk : Nat} {F S : Nat → Nat} {E : Nat → Nat → Int32} {fd : Int32} (hX : zTx b0 b1 l0 l1 t u x y V kk) (hI : zMI b0 b1 l0 l1 t u g F S E fd I) {a1 a2 : Int32} : aw_Met G mX11_answer [.ref 81, .int a1, .int a2] (zH n I L c) (fun v h2 => ∃ r, v = some (.int r) ∧ ((¬ r < 0 ∧ (zok a1 40 ∧ zok a2 8 ∧ u 2 0 < 8) ∧ ∃ I2, h2 = zH n I2 L c ∧ zMI b0 b1 l0 l1 t (u_push u (zt a1) (zt a2)) g F S E fd I2 ∧ ∀ o, o < 81 → I2 o = I o) ∨ (r < 0 ∧ ¬ (zok a1 40 ∧ zok a2 8 ∧ u 2 0 < 8) ∧ ∃ I2, h2 = zH n I2 L c ∧ zMI b0 b1 l0 l1 t u g F S E fd I2 ∧ ∀ o, o < 81 → I2 o = I o))) := by
  have hu8 := hX.1.2.2.1.1
  by_cases hz : zok a1 40 ∧ zok a2 8
  · obtain ⟨p1, hp1, rfl⟩ := zok_ex hz.1
    obtain ⟨p2, hp2, rfl⟩ := zok_ex hz.2
    by_cases hn : u 2 0 < 8
    · refine aw_Met.mono ?_ (m_answer G hX hI hp1 hp2 hn)
      rintro v h2 ⟨rfl, I2, rfl, a, b⟩
      exact ⟨_, rfl, Or.inl ⟨nI_pos (by omega), ⟨hz.1, hz.2, hn⟩, I2, rfl, by rw [zt_nI (by omega), zt_nI (by omega)]; exact a, b⟩⟩
    · refine aw_Met.mono ?_ (m_answerF G hX hI hp1 hp2 (by omega))
      rintro v h2 ⟨rfl, I2, rfl, a, b⟩
      exact ⟨_, rfl, Or.inr ⟨by decide, fun z => hn z.2.2, I2, rfl, a, b⟩⟩
  · refine aw_Met.mono ?_ (m_answerB G hX hI hz)
    rintro v h2 ⟨rfl, I2, rfl, a, b⟩
    exact ⟨_, rfl, Or.inr ⟨by decide, fun z => hz ⟨z.1, z.2.1⟩, I2, rfl, a, b⟩⟩
theorem not_and_rp {A B C : Prop} {D : Prop} (h : ¬ (A ∧ B ∧ C)) : ¬ D ∨ ¬ C ∨ ¬ A ∨ ¬ B := by
  by_cases a : A
  · by_cases b : B
    · exact Or.inr (Or.inl (fun c => h ⟨a, b, c⟩))
    · exact Or.inr (Or.inr (Or.inr b))
  · exact Or.inr (Or.inr (Or.inl a))
theorem m_read (G : aw_G) {n c : Nat} {I : Nat → Nat → Int32} {L : Nat → Nat → Int64} {b0 b1 : Nat → Nat} {l0 l1 : Nat} {t u x y V g : Nat → Nat → Nat} {kk : Nat} {F S : Nat → Nat} {E : Nat → Nat → Int32} {fd : Int32} (hX : zTx b0 b1 l0 l1 t u x y V kk) (hI : zMI b0 b1 l0 l1 t u g F S E fd I) (hb : ∀ s, s < 4 → F s ≤ 3 ∧ S s ≤ 60) {p1 : Nat} (hp1 : p1 < 4) (hFp1 : F p1 ≠ 0) : aw_Met G mX11_read [.ref 81, .int (nI p1)] (zH n I L c) (fun v h2 => v = some (.int (nI (z_rn (E p1) (S p1) (u 2 0)))) ∧ ∃ I2, h2 = zH n I2 L c ∧ zMI b0 b1 l0 l1 t (u_r (E p1) u (z_rn (E p1) (S p1) (u 2 0))) g F S E fd I2 ∧ ∀ o, o < 81 → I2 o = I o) := by
  obtain ⟨hP, h60, h61, htc, hV, hkk, hx, hy⟩ := id hX
  have h8 := hP.1.1
  have hB := hI.1.1
  have hk10 : kk ≤ 10 := by rw [hkk]; exact q_k_leW hB.2.2.2.2.1
  have hVo : f_Vok V kk := by rw [hV, hkk]; exact v_w_ok
  have hS := hI.2.1
  have hfd := hI.2.2
  have hf1 := (hb p1 hp1).1
  have hs1 := (hb p1 hp1).2
  refine aw_Met.of okX11_read (Nat.le_of_ble_eq_true rfl) ?_
  show aw_W G mX11_read 0 [.ref 81, .int (nI p1), aw_x, aw_x] [] (zH n I L c) (0, 0) _
  refine aw_iload_n dX11_read_0 rfl ?_
  refine aw_S0c (As := [_]) dX11_read_1 k11_91 rfl rfl (Nat.le_of_ble_eq_true rfl) ⟨⟨Nat.le_of_ble_eq_true rfl, Nat.le_of_ble_eq_true rfl⟩, ⟨Nat.le_of_ble_eq_true rfl, Nat.le_of_ble_eq_true rfl⟩⟩ ⟨rfl, rfl⟩ (w_isSheet G ((nI p1))) (fun v h2 hq => ?_)
  obtain ⟨rfl, rfl⟩ := hq
  refine aw_if_ne_B (tgt := 10) dX11_read_4 (by decide) (fun c4 => ?_) (fun z => absurd z (fun q => q ((zok_nI (by omega)).mpr hp1)))
  refine aw_aload_n dX11_read_10 rfl ?_
  refine aw_getR dX11_read_11 f11_7 rfl ⟨Nat.le_of_ble_eq_true rfl, Nat.le_of_ble_eq_true rfl⟩ rfl rfl ?_
  refine aw_iload_n dX11_read_14 rfl ?_
  refine aw_iald_n (j := p1) dX11_read_15 rfl (Nat.le_of_ble_eq_true rfl) (by decide) (by omega) ?_
  refine aw_top (hS p1 hp1).1 ?_
  refine aw_if_ge_p (a := F p1) (tgt := 25) dX11_read_16 (by decide) (by omega) (fun c16 => ?_) (fun z => absurd z (by omega))
  refine aw_iconst (v := 0) dX11_read_25 rfl ?_
  refine aw_istore_n (ls2 := [_, _, _, _]) dX11_read_26 (by decide) rfl rfl ?_
  refine aw_iconst (v := 1) dX11_read_27 rfl ?_
  refine aw_istore_n (ls2 := [_, _, _, _]) dX11_read_28 (by decide) rfl rfl ?_
  refine aw_up (X := fun n0 => ∀ I3, ((zMI b0 b1 l0 l1 t (u_r (E p1) u n0) g F S E fd I3 ∧ zUok (u_r (E p1) u n0)) ∧ (∀ o, o < 81 → I3 o = I o) ∧ ∀ w, w < n0 → z_rp (E p1) (S p1) (u 2 0) w = true) → aw_W G mX11_read 29 [.ref 81, .int (nI p1), .int (nI n0), .int 1] [] (zH n I3 L c) (0, 0) _) (Nat.zero_le 8) (fun I3 hh => ?_) (fun n0 _ hn ih I3 hh => ?_) _ ⟨⟨hI, hP.2.2.1⟩, fun _ _ => rfl, fun w hw => absurd hw (by omega)⟩
  · obtain ⟨⟨hI3, hU3⟩, hFr3, hrp⟩ := hh
    have hX3 : zTx b0 b1 l0 l1 t (u_r (E p1) u 8) x y V kk := ⟨⟨hP.1, hP.2.1, hU3, hP.2.2.2⟩, h60, h61, htc, hV, hkk, hx, hy⟩
    refine aw_iload_n dX11_read_29 rfl ?_
    refine aw_if_eq (tgt := 103) dX11_read_30 (by decide) (fun z => absurd z (by decide)) (fun _ => ?_)
    refine aw_iconst (v := 2) dX11_read_33 rfl ?_
    refine aw_iload_n dX11_read_34 rfl ?_
    refine aw_imul_n (a := 2) (b := 8) dX11_read_35 ?_
    refine aw_iconst (v := 2) dX11_read_36 rfl ?_
    refine aw_iadd_n (a := 2 * 8) (b := 2) dX11_read_37 ?_
    refine aw_aload_n dX11_read_38 rfl ?_
    refine aw_getR dX11_read_39 f11_13 rfl ⟨Nat.le_of_ble_eq_true rfl, Nat.le_of_ble_eq_true rfl⟩ rfl rfl ?_
    refine aw_iload_n dX11_read_42 rfl ?_
    refine aw_iald_n (j := p1) dX11_read_43 rfl (Nat.le_of_ble_eq_true rfl) (by decide) (by omega) ?_
    refine aw_top ((hI3.2.1 p1 hp1).2 hFp1).1 ?_
    refine aw_ic_gt_n (a := (2 * 8) + 2) (b := S p1) (tgt := 103) dX11_read_44 (by decide) (by omega) (by omega) (fun c44 => ?_) (fun c44 => ?_)
    · refine aw_iload_n dX11_read_103 rfl ?_
      refine aw_reti dX11_read_104 rfl rfl ⟨Nat.le_of_ble_eq_true rfl, Nat.le_of_ble_eq_true rfl⟩ ?_
      have hrn : z_rn (E p1) (S p1) (u 2 0) = 8 := z_rn_at hrp (z_rp_f (Or.inl (by omega))) (by omega)
      rw [hrn]
      exact ⟨rfl, _, rfl, hI3, hFr3⟩
    · refine aw_aload_n dX11_read_47 rfl ?_
      refine aw_aload_n dX11_read_48 rfl ?_
      refine aw_getR dX11_read_49 f11_16 rfl ⟨Nat.le_of_ble_eq_true rfl, Nat.le_of_ble_eq_true rfl⟩ rfl rfl ?_
      refine aw_bipush (v := 60) dX11_read_52 (by decide) ?_
      refine aw_iload_n dX11_read_54 rfl ?_
      refine aw_imul_n (a := 60) (b := p1) dX11_read_55 ?_
      refine aw_iconst (v := 2) dX11_read_56 rfl ?_
      refine aw_iload_n dX11_read_57 rfl ?_
      refine aw_imul_n (a := 2) (b := 8) dX11_read_58 ?_
      refine aw_iadd_n (a := 60 * p1) (b := 2 * 8) dX11_read_59 ?_
      refine aw_iald_n (j := (60 * p1) + (2 * 8)) dX11_read_60 rfl (Nat.le_of_ble_eq_true rfl) (by decide) (by omega) ?_
      refine aw_top (show _ = E p1 (2 * 8) from (show _ = I3 84 (60 * p1 + (2 * 8)) from congrArg (I3 84) (by omega)).trans (((hI3.2.1 p1 hp1).2 hFp1).2 (2 * 8) (by omega))) ?_
      refine aw_aload_n dX11_read_61 rfl ?_
      refine aw_getR dX11_read_62 f11_16 rfl ⟨Nat.le_of_ble_eq_true rfl, Nat.le_of_ble_eq_true rfl⟩ rfl rfl ?_
      refine aw_bipush (v := 60) dX11_read_65 (by decide) ?_
      refine aw_iload_n dX11_read_67 rfl ?_
      refine aw_imul_n (a := 60) (b := p1) dX11_read_68 ?_
      refine aw_iconst (v := 2) dX11_read_69 rfl ?_
      refine aw_iload_n dX11_read_70 rfl ?_
      refine aw_imul_n (a := 2) (b := 8) dX11_read_71 ?_
      refine aw_iadd_n (a := 60 * p1) (b := 2 * 8) dX11_read_72 ?_
      refine aw_iconst (v := 1) dX11_read_73 rfl ?_
      refine aw_iadd_n (a := (60 * p1) + (2 * 8)) (b := 1) dX11_read_74 ?_
      refine aw_iald_n (j := ((60 * p1) + (2 * 8)) + 1) dX11_read_75 rfl (Nat.le_of_ble_eq_true rfl) (by decide) (by omega) ?_
      refine aw_top (show _ = E p1 (2 * 8 + 1) from (show _ = I3 84 (60 * p1 + (2 * 8 + 1)) from congrArg (I3 84) (by omega)).trans (((hI3.2.1 p1 hp1).2 hFp1).2 (2 * 8 + 1) (by omega))) ?_
      refine aw_V0c (As := [_, _]) dX11_read_76 k11_169 rfl rfl rfl ⟨Nat.le_of_ble_eq_true rfl, Nat.le_of_ble_eq_true rfl⟩ (Nat.le_of_ble_eq_true rfl) ⟨⟨Nat.le_of_ble_eq_true rfl, Nat.le_of_ble_eq_true rfl⟩, ⟨Nat.le_of_ble_eq_true rfl, Nat.le_of_ble_eq_true rfl⟩⟩ ⟨rfl, rfl⟩ (m_answerA G hX3 hI3) (fun v h2 hq => ?_)
      obtain ⟨r, rfl, hr⟩ := hq
      rw [u_r_n] at hr
      refine aw_if_lt (tgt := 86) dX11_read_79 (by decide) (fun c79 => ?_) (fun z => absurd z (fun q => by
          obtain ⟨hr1, hr2, -⟩ := hr.resolve_right (fun z => q z.1)
          have h9 := hr2.2.2
          omega))
      obtain ⟨hr1, hr2, I4, rfl, hI4, hF4⟩ := hr.resolve_left (fun z => z.1 c79)
      have hF5 : ∀ o, o < 81 → I4 o = I o := fun o ho => by rw [hF4 o ho]; exact hFr3 o ho
      refine aw_iconst (v := 0) dX11_read_86 rfl ?_
      refine aw_istore_n (ls2 := [_, _, _, _]) dX11_read_87 (by decide) rfl rfl ?_
      refine aw_iload_n dX11_read_88 rfl ?_
      refine aw_iload_n dX11_read_89 rfl ?_
      refine aw_if_eq (tgt := 97) dX11_read_90 (by decide) (fun _ => ?_) (fun z => absurd (by decide) z)
      refine aw_iconst (v := 0) dX11_read_97 rfl ?_
      refine aw_iadd_n (a := 8) (b := 0) dX11_read_98 ?_
      refine aw_istore_n (ls2 := [_, _, _, _]) dX11_read_99 (by decide) rfl rfl ?_
      refine aw_goto (tgt := 29) dX11_read_100 (by decide) ?_
      refine aw_iload_n dX11_read_29 rfl ?_
      refine aw_if_eq (tgt := 103) dX11_read_30 (by decide) (fun _ => ?_) (fun z => absurd (by decide) z)
      refine aw_iload_n dX11_read_103 rfl ?_
      refine aw_reti dX11_read_104 rfl rfl ⟨Nat.le_of_ble_eq_true rfl, Nat.le_of_ble_eq_true rfl⟩ ?_
      have hrn : z_rn (E p1) (S p1) (u 2 0) = 8 := z_rn_at hrp (z_rp_f (not_and_rp hr2)) (by omega)
      rw [hrn]
      exact ⟨rfl, _, rfl, hI4, hF5⟩
  · obtain ⟨⟨hI3, hU3⟩, hFr3, hrp⟩ := hh
    have hX3 : zTx b0 b1 l0 l1 t (u_r (E p1) u n0) x y V kk := ⟨⟨hP.1, hP.2.1, hU3, hP.2.2.2⟩, h60, h61, htc, hV, hkk, hx, hy⟩
    refine aw_iload_n dX11_read_29 rfl ?_
    refine aw_if_eq (tgt := 103) dX11_read_30 (by decide) (fun z => absurd z (by decide)) (fun _ => ?_)
    refine aw_iconst (v := 2) dX11_read_33 rfl ?_
    refine aw_iload_n dX11_read_34 rfl ?_
    refine aw_imul_n (a := 2) (b := n0) dX11_read_35 ?_
    refine aw_iconst (v := 2) dX11_read_36 rfl ?_
    refine aw_iadd_n (a := 2 * n0) (b := 2) dX11_read_37 ?_
    refine aw_aload_n dX11_read_38 rfl ?_
    refine aw_getR dX11_read_39 f11_13 rfl ⟨Nat.le_of_ble_eq_true rfl, Nat.le_of_ble_eq_true rfl⟩ rfl rfl ?_
    refine aw_iload_n dX11_read_42 rfl ?_
    refine aw_iald_n (j := p1) dX11_read_43 rfl (Nat.le_of_ble_eq_true rfl) (by decide) (by omega) ?_
    refine aw_top ((hI3.2.1 p1 hp1).2 hFp1).1 ?_
    refine aw_ic_gt_n (a := (2 * n0) + 2) (b := S p1) (tgt := 103) dX11_read_44 (by decide) (by omega) (by omega) (fun c44 => ?_) (fun c44 => ?_)
    · refine aw_iload_n dX11_read_103 rfl ?_
      refine aw_reti dX11_read_104 rfl rfl ⟨Nat.le_of_ble_eq_true rfl, Nat.le_of_ble_eq_true rfl⟩ ?_
      have hrn : z_rn (E p1) (S p1) (u 2 0) = n0 := z_rn_at hrp (z_rp_f (Or.inl (by omega))) (by omega)
      rw [hrn]
      exact ⟨rfl, _, rfl, hI3, hFr3⟩
    · refine aw_aload_n dX11_read_47 rfl ?_
      refine aw_aload_n dX11_read_48 rfl ?_
      refine aw_getR dX11_read_49 f11_16 rfl ⟨Nat.le_of_ble_eq_true rfl, Nat.le_of_ble_eq_true rfl⟩ rfl rfl ?_
      refine aw_bipush (v := 60) dX11_read_52 (by decide) ?_
      refine aw_iload_n dX11_read_54 rfl ?_
      refine aw_imul_n (a := 60) (b := p1) dX11_read_55 ?_
      refine aw_iconst (v := 2) dX11_read_56 rfl ?_
      refine aw_iload_n dX11_read_57 rfl ?_
      refine aw_imul_n (a := 2) (b := n0) dX11_read_58 ?_
      refine aw_iadd_n (a := 60 * p1) (b := 2 * n0) dX11_read_59 ?_
      refine aw_iald_n (j := (60 * p1) + (2 * n0)) dX11_read_60 rfl (Nat.le_of_ble_eq_true rfl) (by decide) (by omega) ?_
      refine aw_top (show _ = E p1 (2 * n0) from (show _ = I3 84 (60 * p1 + (2 * n0)) from congrArg (I3 84) (by omega)).trans (((hI3.2.1 p1 hp1).2 hFp1).2 (2 * n0) (by omega))) ?_
      refine aw_aload_n dX11_read_61 rfl ?_
      refine aw_getR dX11_read_62 f11_16 rfl ⟨Nat.le_of_ble_eq_true rfl, Nat.le_of_ble_eq_true rfl⟩ rfl rfl ?_
      refine aw_bipush (v := 60) dX11_read_65 (by decide) ?_
      refine aw_iload_n dX11_read_67 rfl ?_
      refine aw_imul_n (a := 60) (b := p1) dX11_read_68 ?_
      refine aw_iconst (v := 2) dX11_read_69 rfl ?_
      refine aw_iload_n dX11_read_70 rfl ?_
      refine aw_imul_n (a := 2) (b := n0) dX11_read_71 ?_
      refine aw_iadd_n (a := 60 * p1) (b := 2 * n0) dX11_read_72 ?_
      refine aw_iconst (v := 1) dX11_read_73 rfl ?_
      refine aw_iadd_n (a := (60 * p1) + (2 * n0)) (b := 1) dX11_read_74 ?_
      refine aw_iald_n (j := ((60 * p1) + (2 * n0)) + 1) dX11_read_75 rfl (Nat.le_of_ble_eq_true rfl) (by decide) (by omega) ?_
      refine aw_top (show _ = E p1 (2 * n0 + 1) from (show _ = I3 84 (60 * p1 + (2 * n0 + 1)) from congrArg (I3 84) (by omega)).trans (((hI3.2.1 p1 hp1).2 hFp1).2 (2 * n0 + 1) (by omega))) ?_
      refine aw_V0c (As := [_, _]) dX11_read_76 k11_169 rfl rfl rfl ⟨Nat.le_of_ble_eq_true rfl, Nat.le_of_ble_eq_true rfl⟩ (Nat.le_of_ble_eq_true rfl) ⟨⟨Nat.le_of_ble_eq_true rfl, Nat.le_of_ble_eq_true rfl⟩, ⟨Nat.le_of_ble_eq_true rfl, Nat.le_of_ble_eq_true rfl⟩⟩ ⟨rfl, rfl⟩ (m_answerA G hX3 hI3) (fun v h2 hq => ?_)
      obtain ⟨r, rfl, hr⟩ := hq
      rw [u_r_n] at hr
      refine aw_if_lt (tgt := 86) dX11_read_79 (by decide) (fun c79 => ?_) (fun c79 => ?_)
      · obtain ⟨hr1, hr2, I4, rfl, hI4, hF4⟩ := hr.resolve_left (fun z => z.1 c79)
        have hF5 : ∀ o, o < 81 → I4 o = I o := fun o ho => by rw [hF4 o ho]; exact hFr3 o ho
        refine aw_iconst (v := 0) dX11_read_86 rfl ?_
        refine aw_istore_n (ls2 := [_, _, _, _]) dX11_read_87 (by decide) rfl rfl ?_
        refine aw_iload_n dX11_read_88 rfl ?_
        refine aw_iload_n dX11_read_89 rfl ?_
        refine aw_if_eq (tgt := 97) dX11_read_90 (by decide) (fun _ => ?_) (fun z => absurd (by decide) z)
        refine aw_iconst (v := 0) dX11_read_97 rfl ?_
        refine aw_iadd_n (a := n0) (b := 0) dX11_read_98 ?_
        refine aw_istore_n (ls2 := [_, _, _, _]) dX11_read_99 (by decide) rfl rfl ?_
        refine aw_goto (tgt := 29) dX11_read_100 (by decide) ?_
        refine aw_iload_n dX11_read_29 rfl ?_
        refine aw_if_eq (tgt := 103) dX11_read_30 (by decide) (fun _ => ?_) (fun z => absurd (by decide) z)
        refine aw_iload_n dX11_read_103 rfl ?_
        refine aw_reti dX11_read_104 rfl rfl ⟨Nat.le_of_ble_eq_true rfl, Nat.le_of_ble_eq_true rfl⟩ ?_
        have hrn : z_rn (E p1) (S p1) (u 2 0) = n0 := z_rn_at hrp (z_rp_f (not_and_rp hr2)) (by omega)
        rw [hrn]
        exact ⟨rfl, _, rfl, hI4, hF5⟩
      · obtain ⟨hr1, hr2, I4, rfl, hI4, hF4⟩ := hr.resolve_right (fun z => c79 z.1)
        refine aw_iconst (v := 1) dX11_read_82 rfl ?_
        refine aw_goto (tgt := 87) dX11_read_83 (by decide) ?_
        refine aw_istore_n (ls2 := [_, _, _, _]) dX11_read_87 (by decide) rfl rfl ?_
        refine aw_iload_n dX11_read_88 rfl ?_
        refine aw_iload_n dX11_read_89 rfl ?_
        refine aw_if_eq (tgt := 97) dX11_read_90 (by decide) (fun z => absurd z (by decide)) (fun _ => ?_)
        refine aw_iconst (v := 1) dX11_read_93 rfl ?_
        refine aw_goto (tgt := 98) dX11_read_94 (by decide) ?_
        refine aw_iadd_n (a := n0) (b := 1) dX11_read_98 ?_
        refine aw_istore_n (ls2 := [_, _, _, _]) dX11_read_99 (by decide) rfl rfl ?_
        refine aw_goto (tgt := 29) dX11_read_100 (by decide) ?_
        have eu : u_r (E p1) u (n0 + 1) = u_push (u_r (E p1) u n0) (zt (E p1 (2 * n0))) (zt (E p1 (2 * n0 + 1))) := rfl
        rw [eu] at ih
        refine ih _ ⟨⟨hI4, ?_⟩, fun o ho => by rw [hF4 o ho]; exact hFr3 o ho, fun w hw => ?_⟩
        · obtain ⟨h0, hh0, eh⟩ := zok_ex hr2.1
          obtain ⟨q0, hq0, eq0⟩ := zok_ex hr2.2.1
          rw [eh, eq0, zt_nI (by omega), zt_nI (by omega)]
          exact u_push_ok hU3 (by rw [u_r_n]; exact hr2.2.2) hh0 hq0
        · by_cases hwn : w = n0
          · subst hwn; exact z_rp_t (by omega) hr2.2.2 hr2.1 hr2.2.1
          · exact hrp w (by omega)
