/-! DIGEST of the reference -/
theorem zMy.rw {V : Nat → Nat → Nat} {kk : Nat} {t u y m : Nat → Nat → Nat} {I0 I I2 : Nat → Nat → Int32} (h : zMy V kk t u y m I0 I) (hW : zWy V kk I2) (hF : zFr1 88 7 I I2) : zMy V kk t u y m I0 I2 := by
  obtain ⟨h1, h2, h3, h4, h5, h6, h7, h8⟩ := h
  have hr : ∀ o, o ≠ 88 → o ≠ 81 → I2 o = I o := hF.1
  exact ⟨hW, ⟨fun j k hj hk => by rw [hr 89 (by decide) (by decide)]; exact h2.1 j k hj hk, fun k hk => by rw [hr 90 (by decide) (by decide)]; exact h2.2.1 k hk, by rw [hF.2 9 (by decide)]; exact h2.2.2.1, by rw [hF.2 14 (by decide)]; exact h2.2.2.2⟩, ⟨by rw [hF.2 12 (by decide)]; exact h3.1, fun a ha => by rw [hr 91 (by decide) (by decide)]; exact h3.2 a ha⟩, fun j hj => by rw [hr 92 (by decide) (by decide), hr 93 (by decide) (by decide)]; exact h4 j hj, h5.mv2 (fun a ha => hr _ (by omega) (by omega)) (hF.2 26 (by decide)) (hF.2 27 (by decide)), h6, fun k hk => by rw [hr 90 (by decide) (by decide)]; exact h7 k hk, h8.trans ⟨fun o a b _ _ _ _ => hr o b a, fun j b _ _ _ _ _ => hF.2 j b⟩⟩
theorem zMy.base {V : Nat → Nat → Nat} {kk : Nat} {t u y m : Nat → Nat → Nat} {I0 I1 I : Nat → Nat → Int32} (h : zMy V kk t u y m I1 I) (hF : zFm I0 I1) : zMy V kk t u y m I0 I :=
  ⟨h.1, h.2.1, h.2.2.1, h.2.2.2.1, h.2.2.2.2.1, h.2.2.2.2.2.1, h.2.2.2.2.2.2.1, hF.trans h.2.2.2.2.2.2.2⟩
theorem m_tHour (G : aw_G) {n c : Nat} {I : Nat → Nat → Int32} {L : Nat → Nat → Int64} {t u x : Nat → Nat → Nat} {h : Int64} {k hr : Nat} (hk8 : k < 8) (hhr : hr < 40) (hK : ∀ j, j < 4 → I 100 (32 * hr + 4 * k + j) = mE 6 j (zOb (p_play z0 t u x) t k hr j)) : aw_Met G mX11_tellsHour [.ref 81, .long h, .int (nI k), .int (nI hr)] (zH n I L c) (fun v h2 => v = some (.long (dH x u t k hr h)) ∧ h2 = zH n I L c) := by
  refine aw_Met.of okX11_tellsHour (Nat.le_of_ble_eq_true rfl) ?_
  show aw_W G mX11_tellsHour 0 [.ref 81, .long h, aw_x, .int (nI k), .int (nI hr), aw_x, aw_x, aw_x] [] (zH n I L c) (0, 0) _
  refine aw_lload_n dX11_tellsHour_0 rfl ?_
  refine aw_lstore (ls2 := [_, _, _, _, _, _, _, _]) dX11_tellsHour_1 (by decide) rfl rfl ?_
  refine aw_iconst (v := 0) dX11_tellsHour_3 rfl ?_
  refine aw_istore (ls2 := [_, _, _, _, _, _, _, _]) dX11_tellsHour_4 (by decide) rfl rfl ?_
  refine aw_up (X := fun j => aw_W G mX11_tellsHour 6 [.ref 81, .long h, aw_x, .int (nI k), .int (nI hr), .long ((zf (fun j => (mE 6 j (zOb (p_play z0 t u x) t k hr j)).toInt64) h j)), aw_x, .int (nI j)] [] (zH n I L c) (0, 0) _) (Nat.zero_le 4) ?_ (fun j _ hj ih => ?_)
  · refine aw_iload dX11_tellsHour_6 rfl ?_
    refine aw_iconst (v := 4) dX11_tellsHour_8 rfl ?_
    refine aw_ic_ge_n (a := 4) (b := 4) (tgt := 45) dX11_tellsHour_9 (by decide) (by omega) (by omega) (fun c9 => ?_) (fun z => absurd z (by omega))
    refine aw_lload dX11_tellsHour_45 rfl ?_
    refine aw_retl dX11_tellsHour_47 rfl ⟨Nat.le_of_ble_eq_true rfl, Nat.le_of_ble_eq_true rfl⟩ ?_
    exact ⟨rfl, rfl⟩
  · refine aw_iload dX11_tellsHour_6 rfl ?_
    refine aw_iconst (v := 4) dX11_tellsHour_8 rfl ?_
    refine aw_ic_ge_n (a := j) (b := 4) (tgt := 45) dX11_tellsHour_9 (by decide) (by omega) (by omega) (fun z => absurd z (by omega)) (fun c9 => ?_)
    refine aw_ldc2 dX11_tellsHour_12 co11_307 ?_
    refine aw_lload dX11_tellsHour_15 rfl ?_
    refine aw_lmul dX11_tellsHour_17 ?_
    refine aw_aload_n dX11_tellsHour_18 rfl ?_
    refine aw_getR dX11_tellsHour_19 f11_64 rfl ⟨Nat.le_of_ble_eq_true rfl, Nat.le_of_ble_eq_true rfl⟩ rfl rfl ?_
    refine aw_bipush (v := 32) dX11_tellsHour_22 (by decide) ?_
    refine aw_iload dX11_tellsHour_24 rfl ?_
    refine aw_imul_n (a := 32) (b := hr) dX11_tellsHour_26 ?_
    refine aw_iconst (v := 4) dX11_tellsHour_27 rfl ?_
    refine aw_iload_n dX11_tellsHour_28 rfl ?_
    refine aw_imul_n (a := 4) (b := k) dX11_tellsHour_29 ?_
    refine aw_iadd_n (a := 32 * hr) (b := 4 * k) dX11_tellsHour_30 ?_
    refine aw_iload dX11_tellsHour_31 rfl ?_
    refine aw_iadd_n (a := (32 * hr) + (4 * k)) (b := j) dX11_tellsHour_33 ?_
    refine aw_iald_n (j := ((32 * hr) + (4 * k)) + j) dX11_tellsHour_34 rfl (Nat.le_of_ble_eq_true rfl) (by decide) (by omega) ?_
    refine aw_top (hK j hj) ?_
    refine aw_i2l dX11_tellsHour_35 ?_
    refine aw_ladd dX11_tellsHour_36 ?_
    refine aw_lstore (ls2 := [_, _, _, _, _, _, _, _]) dX11_tellsHour_37 (by decide) rfl rfl ?_
    refine aw_iinc_n (ls2 := [_, _, _, _, _, _, _, _]) dX11_tellsHour_39 rfl (by decide) rfl rfl ?_
    refine aw_goto (tgt := 6) dX11_tellsHour_42 (by decide) ?_
    exact ih
theorem m_tCarter (G : aw_G) {n c : Nat} {I I0 : Nat → Nat → Int32} {L : Nat → Nat → Int64} {V : Nat → Nat → Nat} {kk : Nat} {t u x y m : Nat → Nat → Nat} (hM : zMy V kk t u y m I0 I) (hP : zPu t u x y) {g : Nat → Nat → Nat} (hS : zSm g I0) (h0 : t 6 1 = 0) {h : Int64} {k : Nat} (hk : k < t 6 0) : aw_Met G mX11_tellsCarter [.ref 81, .long h, .int (nI k)] (zH n I L c) (fun v h2 => v = some (.long (dTr x u t g k (dHr x u t k h))) ∧ ∃ I2, h2 = zH n I2 L c ∧ ∃ m2, zMy V kk t u y m2 I0 I2) := by
  have h8 := hP.1.1
  refine aw_Met.of okX11_tellsCarter (Nat.le_of_ble_eq_true rfl) ?_
  show aw_W G mX11_tellsCarter 0 [.ref 81, .long h, aw_x, .int (nI k), aw_x, aw_x, aw_x] [] (zH n I L c) (0, 0) _
  refine aw_aload_n dX11_tellsCarter_0 rfl ?_
  refine aw_V0c (As := []) dX11_tellsCarter_1 k11_215 rfl rfl rfl ⟨Nat.le_of_ble_eq_true rfl, Nat.le_of_ble_eq_true rfl⟩ (Nat.le_of_ble_eq_true rfl) ⟨⟨Nat.le_of_ble_eq_true rfl, Nat.le_of_ble_eq_true rfl⟩, ⟨Nat.le_of_ble_eq_true rfl, Nat.le_of_ble_eq_true rfl⟩⟩ ⟨rfl, rfl⟩ (w_lv G hM hP) (fun v h2 hq => ?_)
  obtain ⟨rfl, I2, rfl, hM2, hTo, hFr⟩ := hq
  refine aw_lload_n dX11_tellsCarter_4 rfl ?_
  refine aw_lstore (ls2 := [_, _, _, _, _, _, _]) dX11_tellsCarter_5 (by decide) rfl rfl ?_
  refine aw_iconst (v := 0) dX11_tellsCarter_7 rfl ?_
  refine aw_istore (ls2 := [_, _, _, _, _, _, _]) dX11_tellsCarter_8 (by decide) rfl rfl ?_
  have hot := (zOut (u := u) (s := z0) (m := m) hP.1 hP.2.2.2.1 hP.2.2.2.2.1 hP.2.2.2.2.2 z0_old hM.2.2.2.2.2.1.1 (fun k hk => hP.2.1 k (by omega))).1 k hk
  have hKp : ∀ hr j, hr < 40 → j < 4 → I2 100 (32 * hr + 4 * k + j) = mE 6 j (zOb (p_play z0 t u x) t k hr j) := fun hr j h1 h2 => (hM2.2.2.2.2.1.at 6 (32 * hr + 4 * k + j) (by decide) (by omega)).trans (by rw [hot.2.2.1 hr j h1 h2]; unfold mE; rw [show (32 * hr + 4 * k + j) % 2 = j % 2 by omega])
  refine aw_up (X := fun j => aw_W G mX11_tellsCarter 10 [.ref 81, .long h, aw_x, .int (nI k), .long ((zf (fun j => (nI (t j k)).toInt64) h j)), aw_x, .int (nI j)] [] (zH n I2 L c) (0, 0) _) (Nat.zero_le 5) ?_ (fun j _ hj ih => ?_)
  · refine aw_iload dX11_tellsCarter_10 rfl ?_
    refine aw_iconst (v := 5) dX11_tellsCarter_12 rfl ?_
    refine aw_ic_ge_n (a := 5) (b := 5) (tgt := 43) dX11_tellsCarter_13 (by decide) (by omega) (by omega) (fun c13 => ?_) (fun z => absurd z (by omega))
    refine aw_aload_n dX11_tellsCarter_43 rfl ?_
    refine aw_aload_n dX11_tellsCarter_44 rfl ?_
    refine aw_aload_n dX11_tellsCarter_45 rfl ?_
    refine aw_aload_n dX11_tellsCarter_46 rfl ?_
    refine aw_lload dX11_tellsCarter_47 rfl ?_
    refine aw_iload_n dX11_tellsCarter_49 rfl ?_
    refine aw_iconst (v := 0) dX11_tellsCarter_50 rfl ?_
    refine aw_V0c (As := [_, _, _]) dX11_tellsCarter_51 k11_309 rfl rfl rfl ⟨Nat.le_of_ble_eq_true rfl, Nat.le_of_ble_eq_true rfl⟩ (Nat.le_of_ble_eq_true rfl) ⟨⟨Nat.le_of_ble_eq_true rfl, Nat.le_of_ble_eq_true rfl⟩, ⟨Nat.le_of_ble_eq_true rfl, Nat.le_of_ble_eq_true rfl⟩⟩ ⟨rfl, rfl⟩ (m_tHour G (t := t) (u := u) (x := x) (k := k) (hr := 0) (by omega) (by decide) (fun j hj => hKp 0 j (by decide) hj)) (fun v h2 hq => ?_)
    obtain ⟨rfl, rfl⟩ := hq
    refine aw_iload_n dX11_tellsCarter_54 rfl ?_
    refine aw_iconst (v := 5) dX11_tellsCarter_55 rfl ?_
    refine aw_V0c (As := [_, _, _]) dX11_tellsCarter_56 k11_309 rfl rfl rfl ⟨Nat.le_of_ble_eq_true rfl, Nat.le_of_ble_eq_true rfl⟩ (Nat.le_of_ble_eq_true rfl) ⟨⟨Nat.le_of_ble_eq_true rfl, Nat.le_of_ble_eq_true rfl⟩, ⟨Nat.le_of_ble_eq_true rfl, Nat.le_of_ble_eq_true rfl⟩⟩ ⟨rfl, rfl⟩ (m_tHour G (t := t) (u := u) (x := x) (k := k) (hr := 5) (by omega) (by decide) (fun j hj => hKp 5 j (by decide) hj)) (fun v h2 hq => ?_)
    obtain ⟨rfl, rfl⟩ := hq
    refine aw_iload_n dX11_tellsCarter_59 rfl ?_
    refine aw_bipush (v := 15) dX11_tellsCarter_60 (by decide) ?_
    refine aw_V0c (As := [_, _, _]) dX11_tellsCarter_62 k11_309 rfl rfl rfl ⟨Nat.le_of_ble_eq_true rfl, Nat.le_of_ble_eq_true rfl⟩ (Nat.le_of_ble_eq_true rfl) ⟨⟨Nat.le_of_ble_eq_true rfl, Nat.le_of_ble_eq_true rfl⟩, ⟨Nat.le_of_ble_eq_true rfl, Nat.le_of_ble_eq_true rfl⟩⟩ ⟨rfl, rfl⟩ (m_tHour G (t := t) (u := u) (x := x) (k := k) (hr := 15) (by omega) (by decide) (fun j hj => hKp 15 j (by decide) hj)) (fun v h2 hq => ?_)
    obtain ⟨rfl, rfl⟩ := hq
    refine aw_iload_n dX11_tellsCarter_65 rfl ?_
    refine aw_bipush (v := 39) dX11_tellsCarter_66 (by decide) ?_
    refine aw_V0c (As := [_, _, _]) dX11_tellsCarter_68 k11_309 rfl rfl rfl ⟨Nat.le_of_ble_eq_true rfl, Nat.le_of_ble_eq_true rfl⟩ (Nat.le_of_ble_eq_true rfl) ⟨⟨Nat.le_of_ble_eq_true rfl, Nat.le_of_ble_eq_true rfl⟩, ⟨Nat.le_of_ble_eq_true rfl, Nat.le_of_ble_eq_true rfl⟩⟩ ⟨rfl, rfl⟩ (m_tHour G (t := t) (u := u) (x := x) (k := k) (hr := 39) (by omega) (by decide) (fun j hj => hKp 39 j (by decide) hj)) (fun v h2 hq => ?_)
    obtain ⟨rfl, rfl⟩ := hq
    refine aw_lstore (ls2 := [_, _, _, _, _, _, _]) dX11_tellsCarter_71 (by decide) rfl rfl ?_
    refine aw_ldc2 dX11_tellsCarter_73 co11_307 ?_
    refine aw_lload dX11_tellsCarter_76 rfl ?_
    refine aw_lmul dX11_tellsCarter_78 ?_
    refine aw_aload_n dX11_tellsCarter_79 rfl ?_
    refine aw_getR dX11_tellsCarter_80 f11_61 rfl ⟨Nat.le_of_ble_eq_true rfl, Nat.le_of_ble_eq_true rfl⟩ rfl rfl ?_
    refine aw_iload_n dX11_tellsCarter_83 rfl ?_
    refine aw_iald_n (j := k) dX11_tellsCarter_84 rfl (Nat.le_of_ble_eq_true rfl) (by decide) (by omega) ?_
    refine aw_top (hTo k hk).2.1 ?_
    refine aw_i2l dX11_tellsCarter_85 ?_
    refine aw_ladd dX11_tellsCarter_86 ?_
    refine aw_lstore (ls2 := [_, _, _, _, _, _, _]) dX11_tellsCarter_87 (by decide) rfl rfl ?_
    refine aw_ldc2 dX11_tellsCarter_89 co11_307 ?_
    refine aw_lload dX11_tellsCarter_92 rfl ?_
    refine aw_lmul dX11_tellsCarter_94 ?_
    refine aw_aload_n dX11_tellsCarter_95 rfl ?_
    refine aw_iload_n dX11_tellsCarter_96 rfl ?_
    refine aw_V0c (As := [_]) dX11_tellsCarter_97 k11_238 rfl rfl rfl ⟨Nat.le_of_ble_eq_true rfl, Nat.le_of_ble_eq_true rfl⟩ (Nat.le_of_ble_eq_true rfl) ⟨⟨Nat.le_of_ble_eq_true rfl, Nat.le_of_ble_eq_true rfl⟩, ⟨Nat.le_of_ble_eq_true rfl, Nat.le_of_ble_eq_true rfl⟩⟩ ⟨rfl, rfl⟩ (w_needsOf G hM2 hP hk) (fun v h2 hq => ?_)
    obtain ⟨rfl, I3, rfl, m3, hM3⟩ := hq
    refine aw_i2l dX11_tellsCarter_100 ?_
    refine aw_ladd dX11_tellsCarter_101 ?_
    refine aw_lstore (ls2 := [_, _, _, _, _, _, _]) dX11_tellsCarter_102 (by decide) rfl rfl ?_
    refine aw_ldc2 dX11_tellsCarter_104 co11_307 ?_
    refine aw_lload dX11_tellsCarter_107 rfl ?_
    refine aw_lmul dX11_tellsCarter_109 ?_
    refine aw_aload_n dX11_tellsCarter_110 rfl ?_
    refine aw_iload_n dX11_tellsCarter_111 rfl ?_
    refine aw_iconst (v := 0) dX11_tellsCarter_112 rfl ?_
    refine aw_V0c (As := [_, _]) dX11_tellsCarter_113 k11_250 rfl rfl rfl ⟨Nat.le_of_ble_eq_true rfl, Nat.le_of_ble_eq_true rfl⟩ (Nat.le_of_ble_eq_true rfl) ⟨⟨Nat.le_of_ble_eq_true rfl, Nat.le_of_ble_eq_true rfl⟩, ⟨Nat.le_of_ble_eq_true rfl, Nat.le_of_ble_eq_true rfl⟩⟩ ⟨rfl, rfl⟩ (w_delayOf G hM3 hP (k := k) (a := 0) (by omega) (by decide)) (fun v h2 hq => ?_)
    obtain ⟨rfl, I4, rfl, m4, hM4⟩ := hq
    refine aw_i2l dX11_tellsCarter_116 ?_
    refine aw_ladd dX11_tellsCarter_117 ?_
    refine aw_lstore (ls2 := [_, _, _, _, _, _, _]) dX11_tellsCarter_118 (by decide) rfl rfl ?_
    refine aw_ldc2 dX11_tellsCarter_120 co11_307 ?_
    refine aw_lload dX11_tellsCarter_123 rfl ?_
    refine aw_lmul dX11_tellsCarter_125 ?_
    refine aw_aload_n dX11_tellsCarter_126 rfl ?_
    refine aw_iload_n dX11_tellsCarter_127 rfl ?_
    refine aw_iconst (v := 1) dX11_tellsCarter_128 rfl ?_
    refine aw_V0c (As := [_, _]) dX11_tellsCarter_129 k11_250 rfl rfl rfl ⟨Nat.le_of_ble_eq_true rfl, Nat.le_of_ble_eq_true rfl⟩ (Nat.le_of_ble_eq_true rfl) ⟨⟨Nat.le_of_ble_eq_true rfl, Nat.le_of_ble_eq_true rfl⟩, ⟨Nat.le_of_ble_eq_true rfl, Nat.le_of_ble_eq_true rfl⟩⟩ ⟨rfl, rfl⟩ (w_delayOf G hM4 hP (k := k) (a := 1) (by omega) (by decide)) (fun v h2 hq => ?_)
    obtain ⟨rfl, I5, rfl, m5, hM5⟩ := hq
    refine aw_i2l dX11_tellsCarter_132 ?_
    refine aw_ladd dX11_tellsCarter_133 ?_
    refine aw_lstore (ls2 := [_, _, _, _, _, _, _]) dX11_tellsCarter_134 (by decide) rfl rfl ?_
    refine aw_ldc2 dX11_tellsCarter_136 co11_307 ?_
    refine aw_lload dX11_tellsCarter_139 rfl ?_
    refine aw_lmul dX11_tellsCarter_141 ?_
    refine aw_aload_n dX11_tellsCarter_142 rfl ?_
    refine aw_iload_n dX11_tellsCarter_143 rfl ?_
    refine aw_V0c (As := [_]) dX11_tellsCarter_144 k11_268 rfl rfl rfl ⟨Nat.le_of_ble_eq_true rfl, Nat.le_of_ble_eq_true rfl⟩ (Nat.le_of_ble_eq_true rfl) ⟨⟨Nat.le_of_ble_eq_true rfl, Nat.le_of_ble_eq_true rfl⟩, ⟨Nat.le_of_ble_eq_true rfl, Nat.le_of_ble_eq_true rfl⟩⟩ ⟨rfl, rfl⟩ (w_sortOf G hM5 hP hS hk) (fun v h2 hq => ?_)
    obtain ⟨rfl, I6, rfl, ⟨m6, hM6⟩, -⟩ := hq
    refine aw_i2l dX11_tellsCarter_147 ?_
    refine aw_ladd dX11_tellsCarter_148 ?_
    refine aw_lstore (ls2 := [_, _, _, _, _, _, _]) dX11_tellsCarter_149 (by decide) rfl rfl ?_
    refine aw_iconst (v := 0) dX11_tellsCarter_151 rfl ?_
    refine aw_istore (ls2 := [_, _, _, _, _, _, _]) dX11_tellsCarter_152 (by decide) rfl rfl ?_
    refine aw_up (X := fun j => ∀ I m, zMy V kk t u y m I0 I → aw_W G mX11_tellsCarter 154 [.ref 81, .long h, aw_x, .int (nI k), .long ((zf (fun j => (r_force (fun v => z_fit x u g (aw_u t 3 k v)) j).toInt64) (zx (zx (zx (zx (dHr x u t k h) (nI (zfst (fun w => o_st x u (aw_u t 3 k w) k == 2) 100) - 1).toInt64) (r_pl (z_best (fun v => o_cm x u (aw_u t 5 k v)) 10) 0).toInt64) (r_pl (z_best (fun v => o_cm x u (aw_u t 5 k v)) 10) 1).toInt64) (nI (z_who (fun v => z_fit x u g (aw_u t 2 k v)) 3)).toInt64) j)), aw_x, .int (nI j)] [] (zH n I L c) (0, 0) _) (Nat.zero_le 3) (fun I m hM => ?_) (fun j _ hj ih I m hM => ?_) _ _ hM6
    · refine aw_iload dX11_tellsCarter_154 rfl ?_
      refine aw_iconst (v := 3) dX11_tellsCarter_156 rfl ?_
      refine aw_ic_ge_n (a := 3) (b := 3) (tgt := 183) dX11_tellsCarter_157 (by decide) (by omega) (by omega) (fun c157 => ?_) (fun z => absurd z (by omega))
      refine aw_ldc2 dX11_tellsCarter_183 co11_307 ?_
      refine aw_lload dX11_tellsCarter_186 rfl ?_
      refine aw_lmul dX11_tellsCarter_188 ?_
      refine aw_aload_n dX11_tellsCarter_189 rfl ?_
      refine aw_iload_n dX11_tellsCarter_190 rfl ?_
      refine aw_V0c (As := [_]) dX11_tellsCarter_191 k11_277 rfl rfl rfl ⟨Nat.le_of_ble_eq_true rfl, Nat.le_of_ble_eq_true rfl⟩ (Nat.le_of_ble_eq_true rfl) ⟨⟨Nat.le_of_ble_eq_true rfl, Nat.le_of_ble_eq_true rfl⟩, ⟨Nat.le_of_ble_eq_true rfl, Nat.le_of_ble_eq_true rfl⟩⟩ ⟨rfl, rfl⟩ (w_askOf G hM hP hS hk) (fun v h2 hq => ?_)
      obtain ⟨rfl, I2, rfl, m2, hM2⟩ := hq
      refine aw_i2l dX11_tellsCarter_194 ?_
      refine aw_ladd dX11_tellsCarter_195 ?_
      refine aw_lstore (ls2 := [_, _, _, _, _, _, _]) dX11_tellsCarter_196 (by decide) rfl rfl ?_
      refine aw_ldc2 dX11_tellsCarter_198 co11_307 ?_
      refine aw_lload dX11_tellsCarter_201 rfl ?_
      refine aw_lmul dX11_tellsCarter_203 ?_
      refine aw_aload_n dX11_tellsCarter_204 rfl ?_
      refine aw_iconst (v := 5) dX11_tellsCarter_205 rfl ?_
      refine aw_iload_n dX11_tellsCarter_206 rfl ?_
      refine aw_iconst (v := 0) dX11_tellsCarter_207 rfl ?_
      refine aw_V0c (As := [_, _, _]) dX11_tellsCarter_208 k11_286 rfl rfl rfl ⟨Nat.le_of_ble_eq_true rfl, Nat.le_of_ble_eq_true rfl⟩ (Nat.le_of_ble_eq_true rfl) ⟨⟨Nat.le_of_ble_eq_true rfl, Nat.le_of_ble_eq_true rfl⟩, ⟨Nat.le_of_ble_eq_true rfl, Nat.le_of_ble_eq_true rfl⟩⟩ ⟨rfl, rfl⟩ (w_rumourOf G hM2 hP (c := 5) (a := 0) hk (by decide) (by decide) h0) (fun v h2 hq => ?_)
      obtain ⟨rfl, I3, rfl, m3, hM3⟩ := hq
      refine aw_ladd dX11_tellsCarter_211 ?_
      refine aw_lstore (ls2 := [_, _, _, _, _, _, _]) dX11_tellsCarter_212 (by decide) rfl rfl ?_
      refine aw_ldc2 dX11_tellsCarter_214 co11_307 ?_
      refine aw_lload dX11_tellsCarter_217 rfl ?_
      refine aw_lmul dX11_tellsCarter_219 ?_
      refine aw_aload_n dX11_tellsCarter_220 rfl ?_
      refine aw_iconst (v := 5) dX11_tellsCarter_221 rfl ?_
      refine aw_iload_n dX11_tellsCarter_222 rfl ?_
      refine aw_iconst (v := 1) dX11_tellsCarter_223 rfl ?_
      refine aw_V0c (As := [_, _, _]) dX11_tellsCarter_224 k11_286 rfl rfl rfl ⟨Nat.le_of_ble_eq_true rfl, Nat.le_of_ble_eq_true rfl⟩ (Nat.le_of_ble_eq_true rfl) ⟨⟨Nat.le_of_ble_eq_true rfl, Nat.le_of_ble_eq_true rfl⟩, ⟨Nat.le_of_ble_eq_true rfl, Nat.le_of_ble_eq_true rfl⟩⟩ ⟨rfl, rfl⟩ (w_rumourOf G hM3 hP (c := 5) (a := 1) hk (by decide) (by decide) h0) (fun v h2 hq => ?_)
      obtain ⟨rfl, I4, rfl, m4, hM4⟩ := hq
      refine aw_ladd dX11_tellsCarter_227 ?_
      refine aw_retl dX11_tellsCarter_228 rfl ⟨Nat.le_of_ble_eq_true rfl, Nat.le_of_ble_eq_true rfl⟩ ?_
      exact ⟨rfl, _, rfl, m4, hM4⟩
    · refine aw_iload dX11_tellsCarter_154 rfl ?_
      refine aw_iconst (v := 3) dX11_tellsCarter_156 rfl ?_
      refine aw_ic_ge_n (a := j) (b := 3) (tgt := 183) dX11_tellsCarter_157 (by decide) (by omega) (by omega) (fun z => absurd z (by omega)) (fun c157 => ?_)
      refine aw_ldc2 dX11_tellsCarter_160 co11_307 ?_
      refine aw_lload dX11_tellsCarter_163 rfl ?_
      refine aw_lmul dX11_tellsCarter_165 ?_
      refine aw_aload_n dX11_tellsCarter_166 rfl ?_
      refine aw_iload_n dX11_tellsCarter_167 rfl ?_
      refine aw_iload dX11_tellsCarter_168 rfl ?_
      refine aw_V0c (As := [_, _]) dX11_tellsCarter_170 k11_271 rfl rfl rfl ⟨Nat.le_of_ble_eq_true rfl, Nat.le_of_ble_eq_true rfl⟩ (Nat.le_of_ble_eq_true rfl) ⟨⟨Nat.le_of_ble_eq_true rfl, Nat.le_of_ble_eq_true rfl⟩, ⟨Nat.le_of_ble_eq_true rfl, Nat.le_of_ble_eq_true rfl⟩⟩ ⟨rfl, rfl⟩ (w_forceOf G hM hP hS hk hj) (fun v h2 hq => ?_)
      obtain ⟨rfl, I2, rfl, m2, hM2⟩ := hq
      refine aw_i2l dX11_tellsCarter_173 ?_
      refine aw_ladd dX11_tellsCarter_174 ?_
      refine aw_lstore (ls2 := [_, _, _, _, _, _, _]) dX11_tellsCarter_175 (by decide) rfl rfl ?_
      refine aw_iinc_n (ls2 := [_, _, _, _, _, _, _]) dX11_tellsCarter_177 rfl (by decide) rfl rfl ?_
      refine aw_goto (tgt := 154) dX11_tellsCarter_180 (by decide) ?_
      exact ih _ _ hM2
  · refine aw_iload dX11_tellsCarter_10 rfl ?_
    refine aw_iconst (v := 5) dX11_tellsCarter_12 rfl ?_
    refine aw_ic_ge_n (a := j) (b := 5) (tgt := 43) dX11_tellsCarter_13 (by decide) (by omega) (by omega) (fun z => absurd z (by omega)) (fun c13 => ?_)
    refine aw_ldc2 dX11_tellsCarter_16 co11_307 ?_
    refine aw_lload dX11_tellsCarter_19 rfl ?_
    refine aw_lmul dX11_tellsCarter_21 ?_
    refine aw_aload_n dX11_tellsCarter_22 rfl ?_
    refine aw_getR dX11_tellsCarter_23 f11_31 rfl ⟨Nat.le_of_ble_eq_true rfl, Nat.le_of_ble_eq_true rfl⟩ rfl rfl ?_
    refine aw_iconst (v := 5) dX11_tellsCarter_26 rfl ?_
    refine aw_iload_n dX11_tellsCarter_27 rfl ?_
    refine aw_imul_n (a := 5) (b := k) dX11_tellsCarter_28 ?_
    refine aw_iload dX11_tellsCarter_29 rfl ?_
    refine aw_iadd_n (a := 5 * k) (b := j) dX11_tellsCarter_31 ?_
    refine aw_iald_n (j := (5 * k) + j) dX11_tellsCarter_32 rfl (Nat.le_of_ble_eq_true rfl) (by decide) (by omega) ?_
    refine aw_top (hM2.2.1.1 j k hj hk) ?_
    refine aw_i2l dX11_tellsCarter_33 ?_
    refine aw_ladd dX11_tellsCarter_34 ?_
    refine aw_lstore (ls2 := [_, _, _, _, _, _, _]) dX11_tellsCarter_35 (by decide) rfl rfl ?_
    refine aw_iinc_n (ls2 := [_, _, _, _, _, _, _]) dX11_tellsCarter_37 rfl (by decide) rfl rfl ?_
    refine aw_goto (tgt := 10) dX11_tellsCarter_40 (by decide) ?_
    exact ih
theorem m_countY0 (G : aw_G) {n c : Nat} {I : Nat → Nat → Int32} {L : Nat → Nat → Int64} {b0 b1 : Nat → Nat} {l0 l1 : Nat} {t u x y V g : Nat → Nat → Nat} {kk : Nat} {F S : Nat → Nat} {E : Nat → Nat → Int32} {fd : Int32} (hX : zTx b0 b1 l0 l1 t u x y V kk) (hI : zMI b0 b1 l0 l1 t u g F S E fd I)  : aw_Met G mX11_count [.ref 81, .int 0] (zH n I L c) (fun v h2 => v = some (.int (nI kk)) ∧ ∃ I2, h2 = zH n I2 L c ∧ ∃ m, zMy V kk t u y m I I2) := by
  obtain ⟨hP, h60, h61, htc, hV, hkk, hx, hy⟩ := id hX
  have h8 := hP.1.1
  have hB := hI.1.1
  have hk10 : kk ≤ 10 := by rw [hkk]; exact q_k_leW hB.2.2.2.2.1
  have hVo : f_Vok V kk := by rw [hV, hkk]; exact v_w_ok
  refine aw_Met.of okX11_count (Nat.le_of_ble_eq_true rfl) ?_
  show aw_W G mX11_count 0 [.ref 81, .int 0] [] (zH n I L c) (0, 0) _
  refine aw_aload_n dX11_count_0 rfl ?_
  refine aw_V0c (As := []) dX11_count_1 k11_218 rfl rfl rfl ⟨Nat.le_of_ble_eq_true rfl, Nat.le_of_ble_eq_true rfl⟩ (Nat.le_of_ble_eq_true rfl) ⟨⟨Nat.le_of_ble_eq_true rfl, Nat.le_of_ble_eq_true rfl⟩, ⟨Nat.le_of_ble_eq_true rfl, Nat.le_of_ble_eq_true rfl⟩⟩ ⟨rfl, rfl⟩ (w_find G hX hI.1) (fun v h2 hq => ?_)
  obtain ⟨rfl, I2, rfl, m, ho, hM, hTo⟩ := hq
  have hot := zOut (u := u) (s := z0) (m := m) hP.1 hP.2.2.2.1 hP.2.2.2.2.1 hP.2.2.2.2.2 z0_old ho.1 (fun k hk => hP.2.1 k (by omega))
  have hI2 := hI.my hM
  refine aw_iload_n dX11_count_4 rfl ?_
  refine aw_swIn (off := 51) (tgt := 56) dX11_count_5 (by decide) (by decide) rfl (by decide) ?_
  refine aw_aload_n dX11_count_56 rfl ?_
  refine aw_getI dX11_count_57 f11_127 rfl ⟨Nat.le_of_ble_eq_true rfl, Nat.le_of_ble_eq_true rfl⟩ rfl ?_
  refine aw_top hM.1.1 ?_
  refine aw_reti dX11_count_60 rfl rfl ⟨Nat.le_of_ble_eq_true rfl, Nat.le_of_ble_eq_true rfl⟩ ?_
  exact ⟨rfl, _, rfl, _, hM⟩
theorem m_countY1 (G : aw_G) {n c : Nat} {I : Nat → Nat → Int32} {L : Nat → Nat → Int64} {b0 b1 : Nat → Nat} {l0 l1 : Nat} {t u x y V g : Nat → Nat → Nat} {kk : Nat} {F S : Nat → Nat} {E : Nat → Nat → Int32} {fd : Int32} (hX : zTx b0 b1 l0 l1 t u x y V kk) (hI : zMI b0 b1 l0 l1 t u g F S E fd I)  : aw_Met G mX11_count [.ref 81, .int 1] (zH n I L c) (fun v h2 => v = some (.int (nI (t 6 0))) ∧ ∃ I2, h2 = zH n I2 L c ∧ ∃ m, zMy V kk t u y m I I2) := by
  obtain ⟨hP, h60, h61, htc, hV, hkk, hx, hy⟩ := id hX
  have h8 := hP.1.1
  have hB := hI.1.1
  have hk10 : kk ≤ 10 := by rw [hkk]; exact q_k_leW hB.2.2.2.2.1
  have hVo : f_Vok V kk := by rw [hV, hkk]; exact v_w_ok
  refine aw_Met.of okX11_count (Nat.le_of_ble_eq_true rfl) ?_
  show aw_W G mX11_count 0 [.ref 81, .int 1] [] (zH n I L c) (0, 0) _
  refine aw_aload_n dX11_count_0 rfl ?_
  refine aw_V0c (As := []) dX11_count_1 k11_218 rfl rfl rfl ⟨Nat.le_of_ble_eq_true rfl, Nat.le_of_ble_eq_true rfl⟩ (Nat.le_of_ble_eq_true rfl) ⟨⟨Nat.le_of_ble_eq_true rfl, Nat.le_of_ble_eq_true rfl⟩, ⟨Nat.le_of_ble_eq_true rfl, Nat.le_of_ble_eq_true rfl⟩⟩ ⟨rfl, rfl⟩ (w_find G hX hI.1) (fun v h2 hq => ?_)
  obtain ⟨rfl, I2, rfl, m, ho, hM, hTo⟩ := hq
  have hot := zOut (u := u) (s := z0) (m := m) hP.1 hP.2.2.2.1 hP.2.2.2.2.1 hP.2.2.2.2.2 z0_old ho.1 (fun k hk => hP.2.1 k (by omega))
  have hI2 := hI.my hM
  refine aw_iload_n dX11_count_4 rfl ?_
  refine aw_swIn (off := 56) (tgt := 61) dX11_count_5 (by decide) (by decide) rfl (by decide) ?_
  refine aw_aload_n dX11_count_61 rfl ?_
  refine aw_getI dX11_count_62 f11_133 rfl ⟨Nat.le_of_ble_eq_true rfl, Nat.le_of_ble_eq_true rfl⟩ rfl ?_
  refine aw_top hM.2.1.2.2.1 ?_
  refine aw_reti dX11_count_65 rfl rfl ⟨Nat.le_of_ble_eq_true rfl, Nat.le_of_ble_eq_true rfl⟩ ?_
  exact ⟨rfl, _, rfl, _, hM⟩
theorem m_countY2 (G : aw_G) {n c : Nat} {I : Nat → Nat → Int32} {L : Nat → Nat → Int64} {b0 b1 : Nat → Nat} {l0 l1 : Nat} {t u x y V g : Nat → Nat → Nat} {kk : Nat} {F S : Nat → Nat} {E : Nat → Nat → Int32} {fd : Int32} (hX : zTx b0 b1 l0 l1 t u x y V kk) (hI : zMI b0 b1 l0 l1 t u g F S E fd I)  : aw_Met G mX11_count [.ref 81, .int 2] (zH n I L c) (fun v h2 => v = some (.int (nI l0)) ∧ ∃ I2, h2 = zH n I2 L c ∧ ∃ m, zMy V kk t u y m I I2) := by
  obtain ⟨hP, h60, h61, htc, hV, hkk, hx, hy⟩ := id hX
  have h8 := hP.1.1
  have hB := hI.1.1
  have hk10 : kk ≤ 10 := by rw [hkk]; exact q_k_leW hB.2.2.2.2.1
  have hVo : f_Vok V kk := by rw [hV, hkk]; exact v_w_ok
  refine aw_Met.of okX11_count (Nat.le_of_ble_eq_true rfl) ?_
  show aw_W G mX11_count 0 [.ref 81, .int 2] [] (zH n I L c) (0, 0) _
  refine aw_aload_n dX11_count_0 rfl ?_
  refine aw_V0c (As := []) dX11_count_1 k11_218 rfl rfl rfl ⟨Nat.le_of_ble_eq_true rfl, Nat.le_of_ble_eq_true rfl⟩ (Nat.le_of_ble_eq_true rfl) ⟨⟨Nat.le_of_ble_eq_true rfl, Nat.le_of_ble_eq_true rfl⟩, ⟨Nat.le_of_ble_eq_true rfl, Nat.le_of_ble_eq_true rfl⟩⟩ ⟨rfl, rfl⟩ (w_find G hX hI.1) (fun v h2 hq => ?_)
  obtain ⟨rfl, I2, rfl, m, ho, hM, hTo⟩ := hq
  have hot := zOut (u := u) (s := z0) (m := m) hP.1 hP.2.2.2.1 hP.2.2.2.2.1 hP.2.2.2.2.2 z0_old ho.1 (fun k hk => hP.2.1 k (by omega))
  have hI2 := hI.my hM
  refine aw_iload_n dX11_count_4 rfl ?_
  refine aw_swIn (off := 61) (tgt := 66) dX11_count_5 (by decide) (by decide) rfl (by decide) ?_
  refine aw_aload_n dX11_count_66 rfl ?_
  refine aw_getR dX11_count_67 f11_25 rfl ⟨Nat.le_of_ble_eq_true rfl, Nat.le_of_ble_eq_true rfl⟩ rfl rfl ?_
  refine aw_iload_n dX11_count_70 rfl ?_
  refine aw_iconst (v := 2) dX11_count_71 rfl ?_
  refine aw_isub_n (a := 2) (b := 2) dX11_count_72 (by omega) ?_
  refine aw_iald_n (j := 2 - 2) dX11_count_73 rfl (Nat.le_of_ble_eq_true rfl) (by decide) (by omega) ?_
  refine aw_top (hI2.1.1.2.2.1) ?_
  refine aw_reti dX11_count_74 rfl rfl ⟨Nat.le_of_ble_eq_true rfl, Nat.le_of_ble_eq_true rfl⟩ ?_
  exact ⟨rfl, _, rfl, _, hM⟩
theorem m_countY3 (G : aw_G) {n c : Nat} {I : Nat → Nat → Int32} {L : Nat → Nat → Int64} {b0 b1 : Nat → Nat} {l0 l1 : Nat} {t u x y V g : Nat → Nat → Nat} {kk : Nat} {F S : Nat → Nat} {E : Nat → Nat → Int32} {fd : Int32} (hX : zTx b0 b1 l0 l1 t u x y V kk) (hI : zMI b0 b1 l0 l1 t u g F S E fd I)  : aw_Met G mX11_count [.ref 81, .int 3] (zH n I L c) (fun v h2 => v = some (.int (nI l1)) ∧ ∃ I2, h2 = zH n I2 L c ∧ ∃ m, zMy V kk t u y m I I2) := by
  obtain ⟨hP, h60, h61, htc, hV, hkk, hx, hy⟩ := id hX
  have h8 := hP.1.1
  have hB := hI.1.1
  have hk10 : kk ≤ 10 := by rw [hkk]; exact q_k_leW hB.2.2.2.2.1
  have hVo : f_Vok V kk := by rw [hV, hkk]; exact v_w_ok
  refine aw_Met.of okX11_count (Nat.le_of_ble_eq_true rfl) ?_
  show aw_W G mX11_count 0 [.ref 81, .int 3] [] (zH n I L c) (0, 0) _
  refine aw_aload_n dX11_count_0 rfl ?_
  refine aw_V0c (As := []) dX11_count_1 k11_218 rfl rfl rfl ⟨Nat.le_of_ble_eq_true rfl, Nat.le_of_ble_eq_true rfl⟩ (Nat.le_of_ble_eq_true rfl) ⟨⟨Nat.le_of_ble_eq_true rfl, Nat.le_of_ble_eq_true rfl⟩, ⟨Nat.le_of_ble_eq_true rfl, Nat.le_of_ble_eq_true rfl⟩⟩ ⟨rfl, rfl⟩ (w_find G hX hI.1) (fun v h2 hq => ?_)
  obtain ⟨rfl, I2, rfl, m, ho, hM, hTo⟩ := hq
  have hot := zOut (u := u) (s := z0) (m := m) hP.1 hP.2.2.2.1 hP.2.2.2.2.1 hP.2.2.2.2.2 z0_old ho.1 (fun k hk => hP.2.1 k (by omega))
  have hI2 := hI.my hM
  refine aw_iload_n dX11_count_4 rfl ?_
  refine aw_swIn (off := 61) (tgt := 66) dX11_count_5 (by decide) (by decide) rfl (by decide) ?_
  refine aw_aload_n dX11_count_66 rfl ?_
  refine aw_getR dX11_count_67 f11_25 rfl ⟨Nat.le_of_ble_eq_true rfl, Nat.le_of_ble_eq_true rfl⟩ rfl rfl ?_
  refine aw_iload_n dX11_count_70 rfl ?_
  refine aw_iconst (v := 2) dX11_count_71 rfl ?_
  refine aw_isub_n (a := 3) (b := 2) dX11_count_72 (by omega) ?_
  refine aw_iald_n (j := 3 - 2) dX11_count_73 rfl (Nat.le_of_ble_eq_true rfl) (by decide) (by omega) ?_
  refine aw_top (hI2.1.1.2.2.2.1) ?_
  refine aw_reti dX11_count_74 rfl rfl ⟨Nat.le_of_ble_eq_true rfl, Nat.le_of_ble_eq_true rfl⟩ ?_
  exact ⟨rfl, _, rfl, _, hM⟩
theorem m_countY4 (G : aw_G) {n c : Nat} {I : Nat → Nat → Int32} {L : Nat → Nat → Int64} {b0 b1 : Nat → Nat} {l0 l1 : Nat} {t u x y V g : Nat → Nat → Nat} {kk : Nat} {F S : Nat → Nat} {E : Nat → Nat → Int32} {fd : Int32} (hX : zTx b0 b1 l0 l1 t u x y V kk) (hI : zMI b0 b1 l0 l1 t u g F S E fd I)  : aw_Met G mX11_count [.ref 81, .int 4] (zH n I L c) (fun v h2 => v = some (.int (nI (u 2 0))) ∧ ∃ I2, h2 = zH n I2 L c ∧ ∃ m, zMy V kk t u y m I I2) := by
  obtain ⟨hP, h60, h61, htc, hV, hkk, hx, hy⟩ := id hX
  have h8 := hP.1.1
  have hB := hI.1.1
  have hk10 : kk ≤ 10 := by rw [hkk]; exact q_k_leW hB.2.2.2.2.1
  have hVo : f_Vok V kk := by rw [hV, hkk]; exact v_w_ok
  refine aw_Met.of okX11_count (Nat.le_of_ble_eq_true rfl) ?_
  show aw_W G mX11_count 0 [.ref 81, .int 4] [] (zH n I L c) (0, 0) _
  refine aw_aload_n dX11_count_0 rfl ?_
  refine aw_V0c (As := []) dX11_count_1 k11_218 rfl rfl rfl ⟨Nat.le_of_ble_eq_true rfl, Nat.le_of_ble_eq_true rfl⟩ (Nat.le_of_ble_eq_true rfl) ⟨⟨Nat.le_of_ble_eq_true rfl, Nat.le_of_ble_eq_true rfl⟩, ⟨Nat.le_of_ble_eq_true rfl, Nat.le_of_ble_eq_true rfl⟩⟩ ⟨rfl, rfl⟩ (w_find G hX hI.1) (fun v h2 hq => ?_)
  obtain ⟨rfl, I2, rfl, m, ho, hM, hTo⟩ := hq
  have hot := zOut (u := u) (s := z0) (m := m) hP.1 hP.2.2.2.1 hP.2.2.2.2.1 hP.2.2.2.2.2 z0_old ho.1 (fun k hk => hP.2.1 k (by omega))
  have hI2 := hI.my hM
  refine aw_iload_n dX11_count_4 rfl ?_
  refine aw_swIn (off := 70) (tgt := 75) dX11_count_5 (by decide) (by decide) rfl (by decide) ?_
  refine aw_aload_n dX11_count_75 rfl ?_
  refine aw_getI dX11_count_76 f11_166 rfl ⟨Nat.le_of_ble_eq_true rfl, Nat.le_of_ble_eq_true rfl⟩ rfl ?_
  refine aw_top hM.2.2.1.1 ?_
  refine aw_reti dX11_count_79 rfl rfl ⟨Nat.le_of_ble_eq_true rfl, Nat.le_of_ble_eq_true rfl⟩ ?_
  exact ⟨rfl, _, rfl, _, hM⟩
theorem m_countY5 (G : aw_G) {n c : Nat} {I : Nat → Nat → Int32} {L : Nat → Nat → Int64} {b0 b1 : Nat → Nat} {l0 l1 : Nat} {t u x y V g : Nat → Nat → Nat} {kk : Nat} {F S : Nat → Nat} {E : Nat → Nat → Int32} {fd : Int32} (hX : zTx b0 b1 l0 l1 t u x y V kk) (hI : zMI b0 b1 l0 l1 t u g F S E fd I)  : aw_Met G mX11_count [.ref 81, .int 5] (zH n I L c) (fun v h2 => v = some (.int (nI (o_cm x u t))) ∧ ∃ I2, h2 = zH n I2 L c ∧ ∃ m, zMy V kk t u y m I I2) := by
  obtain ⟨hP, h60, h61, htc, hV, hkk, hx, hy⟩ := id hX
  have h8 := hP.1.1
  have hB := hI.1.1
  have hk10 : kk ≤ 10 := by rw [hkk]; exact q_k_leW hB.2.2.2.2.1
  have hVo : f_Vok V kk := by rw [hV, hkk]; exact v_w_ok
  refine aw_Met.of okX11_count (Nat.le_of_ble_eq_true rfl) ?_
  show aw_W G mX11_count 0 [.ref 81, .int 5] [] (zH n I L c) (0, 0) _
  refine aw_aload_n dX11_count_0 rfl ?_
  refine aw_V0c (As := []) dX11_count_1 k11_218 rfl rfl rfl ⟨Nat.le_of_ble_eq_true rfl, Nat.le_of_ble_eq_true rfl⟩ (Nat.le_of_ble_eq_true rfl) ⟨⟨Nat.le_of_ble_eq_true rfl, Nat.le_of_ble_eq_true rfl⟩, ⟨Nat.le_of_ble_eq_true rfl, Nat.le_of_ble_eq_true rfl⟩⟩ ⟨rfl, rfl⟩ (w_find G hX hI.1) (fun v h2 hq => ?_)
  obtain ⟨rfl, I2, rfl, m, ho, hM, hTo⟩ := hq
  have hot := zOut (u := u) (s := z0) (m := m) hP.1 hP.2.2.2.1 hP.2.2.2.2.1 hP.2.2.2.2.2 z0_old ho.1 (fun k hk => hP.2.1 k (by omega))
  have hI2 := hI.my hM
  refine aw_iload_n dX11_count_4 rfl ?_
  refine aw_swIn (off := 75) (tgt := 80) dX11_count_5 (by decide) (by decide) rfl (by decide) ?_
  refine aw_aload_n dX11_count_80 rfl ?_
  refine aw_V0c (As := []) dX11_count_81 k11_244 rfl rfl rfl ⟨Nat.le_of_ble_eq_true rfl, Nat.le_of_ble_eq_true rfl⟩ (Nat.le_of_ble_eq_true rfl) ⟨⟨Nat.le_of_ble_eq_true rfl, Nat.le_of_ble_eq_true rfl⟩, ⟨Nat.le_of_ble_eq_true rfl, Nat.le_of_ble_eq_true rfl⟩⟩ ⟨rfl, rfl⟩ (w_cm G hM ho hP) (fun v h2 hq => ?_)
  obtain ⟨rfl, rfl⟩ := hq
  refine aw_reti dX11_count_84 rfl rfl ⟨Nat.le_of_ble_eq_true rfl, Nat.le_of_ble_eq_true rfl⟩ ?_
  exact ⟨rfl, _, rfl, _, hM⟩
theorem m_countY6 (G : aw_G) {n c : Nat} {I : Nat → Nat → Int32} {L : Nat → Nat → Int64} {b0 b1 : Nat → Nat} {l0 l1 : Nat} {t u x y V g : Nat → Nat → Nat} {kk : Nat} {F S : Nat → Nat} {E : Nat → Nat → Int32} {fd : Int32} (hX : zTx b0 b1 l0 l1 t u x y V kk) (hI : zMI b0 b1 l0 l1 t u g F S E fd I)  : aw_Met G mX11_count [.ref 81, .int 6] (zH n I L c) (fun v h2 => v = some (.int (nI (z_sum (p_play z0 t u x 4) 8))) ∧ ∃ I2, h2 = zH n I2 L c ∧ ∃ m, zMy V kk t u y m I I2) := by
  obtain ⟨hP, h60, h61, htc, hV, hkk, hx, hy⟩ := id hX
  have h8 := hP.1.1
  have hB := hI.1.1
  have hk10 : kk ≤ 10 := by rw [hkk]; exact q_k_leW hB.2.2.2.2.1
  have hVo : f_Vok V kk := by rw [hV, hkk]; exact v_w_ok
  refine aw_Met.of okX11_count (Nat.le_of_ble_eq_true rfl) ?_
  show aw_W G mX11_count 0 [.ref 81, .int 6] [] (zH n I L c) (0, 0) _
  refine aw_aload_n dX11_count_0 rfl ?_
  refine aw_V0c (As := []) dX11_count_1 k11_218 rfl rfl rfl ⟨Nat.le_of_ble_eq_true rfl, Nat.le_of_ble_eq_true rfl⟩ (Nat.le_of_ble_eq_true rfl) ⟨⟨Nat.le_of_ble_eq_true rfl, Nat.le_of_ble_eq_true rfl⟩, ⟨Nat.le_of_ble_eq_true rfl, Nat.le_of_ble_eq_true rfl⟩⟩ ⟨rfl, rfl⟩ (w_find G hX hI.1) (fun v h2 hq => ?_)
  obtain ⟨rfl, I2, rfl, m, ho, hM, hTo⟩ := hq
  have hot := zOut (u := u) (s := z0) (m := m) hP.1 hP.2.2.2.1 hP.2.2.2.2.1 hP.2.2.2.2.2 z0_old ho.1 (fun k hk => hP.2.1 k (by omega))
  have hI2 := hI.my hM
  refine aw_iload_n dX11_count_4 rfl ?_
  refine aw_swIn (off := 80) (tgt := 85) dX11_count_5 (by decide) (by decide) rfl (by decide) ?_
  refine aw_aload_n dX11_count_85 rfl ?_
  refine aw_V0c (As := []) dX11_count_86 k11_304 rfl rfl rfl ⟨Nat.le_of_ble_eq_true rfl, Nat.le_of_ble_eq_true rfl⟩ (Nat.le_of_ble_eq_true rfl) ⟨⟨Nat.le_of_ble_eq_true rfl, Nat.le_of_ble_eq_true rfl⟩, ⟨Nat.le_of_ble_eq_true rfl, Nat.le_of_ble_eq_true rfl⟩⟩ ⟨rfl, rfl⟩ (w_mAll G hM.2.2.2.2.1) (fun v h2 hq => ?_)
  obtain ⟨rfl, rfl⟩ := hq
  rw [z_sum_congr (fun j hj => (hot.2.1 j hj).symm)]
  refine aw_reti dX11_count_89 rfl rfl ⟨Nat.le_of_ble_eq_true rfl, Nat.le_of_ble_eq_true rfl⟩ ?_
  exact ⟨rfl, _, rfl, _, hM⟩
theorem m_countY7 (G : aw_G) {n c : Nat} {I : Nat → Nat → Int32} {L : Nat → Nat → Int64} {b0 b1 : Nat → Nat} {l0 l1 : Nat} {t u x y V g : Nat → Nat → Nat} {kk : Nat} {F S : Nat → Nat} {E : Nat → Nat → Int32} {fd : Int32} (hX : zTx b0 b1 l0 l1 t u x y V kk) (hI : zMI b0 b1 l0 l1 t u g F S E fd I)  : aw_Met G mX11_count [.ref 81, .int 7] (zH n I L c) (fun v h2 => v = some (.int (nI (g 3 0))) ∧ ∃ I2, h2 = zH n I2 L c ∧ ∃ m, zMy V kk t u y m I I2) := by
  obtain ⟨hP, h60, h61, htc, hV, hkk, hx, hy⟩ := id hX
  have h8 := hP.1.1
  have hB := hI.1.1
  have hk10 : kk ≤ 10 := by rw [hkk]; exact q_k_leW hB.2.2.2.2.1
  have hVo : f_Vok V kk := by rw [hV, hkk]; exact v_w_ok
  refine aw_Met.of okX11_count (Nat.le_of_ble_eq_true rfl) ?_
  show aw_W G mX11_count 0 [.ref 81, .int 7] [] (zH n I L c) (0, 0) _
  refine aw_aload_n dX11_count_0 rfl ?_
  refine aw_V0c (As := []) dX11_count_1 k11_218 rfl rfl rfl ⟨Nat.le_of_ble_eq_true rfl, Nat.le_of_ble_eq_true rfl⟩ (Nat.le_of_ble_eq_true rfl) ⟨⟨Nat.le_of_ble_eq_true rfl, Nat.le_of_ble_eq_true rfl⟩, ⟨Nat.le_of_ble_eq_true rfl, Nat.le_of_ble_eq_true rfl⟩⟩ ⟨rfl, rfl⟩ (w_find G hX hI.1) (fun v h2 hq => ?_)
  obtain ⟨rfl, I2, rfl, m, ho, hM, hTo⟩ := hq
  have hot := zOut (u := u) (s := z0) (m := m) hP.1 hP.2.2.2.1 hP.2.2.2.2.1 hP.2.2.2.2.2 z0_old ho.1 (fun k hk => hP.2.1 k (by omega))
  have hI2 := hI.my hM
  refine aw_iload_n dX11_count_4 rfl ?_
  refine aw_swIn (off := 85) (tgt := 90) dX11_count_5 (by decide) (by decide) rfl (by decide) ?_
  refine aw_aload_n dX11_count_90 rfl ?_
  refine aw_getI dX11_count_91 f11_258 rfl ⟨Nat.le_of_ble_eq_true rfl, Nat.le_of_ble_eq_true rfl⟩ rfl ?_
  refine aw_top hI2.1.2.2.2.2.1.1 ?_
  refine aw_reti dX11_count_94 rfl rfl ⟨Nat.le_of_ble_eq_true rfl, Nat.le_of_ble_eq_true rfl⟩ ?_
  exact ⟨rfl, _, rfl, _, hM⟩
theorem m_countY (G : aw_G) {n c : Nat} {I : Nat → Nat → Int32} {L : Nat → Nat → Int64} {b0 b1 : Nat → Nat} {l0 l1 : Nat} {t u x y V g : Nat → Nat → Nat} {kk : Nat} {F S : Nat → Nat} {E : Nat → Nat → Int32} {fd : Int32} (hX : zTx b0 b1 l0 l1 t u x y V kk) (hI : zMI b0 b1 l0 l1 t u g F S E fd I) {i : Nat} (hi : i < 8) : aw_Met G mX11_count [.ref 81, .int (nI i)] (zH n I L c) (fun v h2 => v = some (.int (r_cnt [nI kk, nI (t 6 0), nI l0, nI l1, nI (u 2 0), nI (o_cm x u t), nI (z_sum (p_play z0 t u x 4) 8), nI (g 3 0), fd] i)) ∧ ∃ I2, h2 = zH n I2 L c ∧ ∃ m, zMy V kk t u y m I I2) := by
  have h' : i = 0 ∨ i = 1 ∨ i = 2 ∨ i = 3 ∨ i = 4 ∨ i = 5 ∨ i = 6 ∨ i = 7 := by omega
  rcases h' with rfl | rfl | rfl | rfl | rfl | rfl | rfl | rfl
  · exact m_countY0 G hX hI
  · exact m_countY1 G hX hI
  · exact m_countY2 G hX hI
  · exact m_countY3 G hX hI
  · exact m_countY4 G hX hI
  · exact m_countY5 G hX hI
  · exact m_countY6 G hX hI
  · exact m_countY7 G hX hI
theorem m_rtY0 (G : aw_G) {n c : Nat} {I I0 : Nat → Nat → Int32} {L : Nat → Nat → Int64} {V : Nat → Nat → Nat} {kk : Nat} {t u y m : Nat → Nat → Nat} {b0 b1 : Nat → Nat} {l0 l1 : Nat} (hM : zMy V kk t u y m I0 I) (hB : zBm b0 b1 l0 l1 I0) (hV : V = v_w b0) (hkk : kk = q_k (q_w b0) 5 l0) : aw_Met G mX11_readsText [.ref 81, .int 0] (zH n I L c) (fun v h2 => v = some (.int (nI (q_f (q_w b0) 5 l0) - 1)) ∧ ∃ I2, h2 = zH n I2 L c ∧ zMy V kk t u y m I0 I2) := by
  refine aw_Met.of okX11_readsText (Nat.le_of_ble_eq_true rfl) ?_
  show aw_W G mX11_readsText 0 [.ref 81, .int 0] [] (zH n I L c) (0, 0) _
  refine aw_iload_n dX11_readsText_0 rfl ?_
  refine aw_if_ne (tgt := 11) dX11_readsText_1 (by decide) (fun z => absurd (by decide) z) (fun _ => ?_)
  refine aw_aload_n dX11_readsText_4 rfl ?_
  refine aw_V0c (As := []) dX11_readsText_5 k11_139 rfl rfl rfl ⟨Nat.le_of_ble_eq_true rfl, Nat.le_of_ble_eq_true rfl⟩ (Nat.le_of_ble_eq_true rfl) ⟨⟨Nat.le_of_ble_eq_true rfl, Nat.le_of_ble_eq_true rfl⟩, ⟨Nat.le_of_ble_eq_true rfl, Nat.le_of_ble_eq_true rfl⟩⟩ ⟨rfl, rfl⟩ (w_readsWays G (hB.fm hM.2.2.2.2.2.2.2)) (fun v h2 hq => ?_)
  obtain ⟨rfl, I2, rfl, hW2, hF2⟩ := hq
  rw [← hV, ← hkk] at hW2
  refine aw_goto (tgt := 15) dX11_readsText_8 (by decide) ?_
  refine aw_reti dX11_readsText_15 rfl rfl ⟨Nat.le_of_ble_eq_true rfl, Nat.le_of_ble_eq_true rfl⟩ ?_
  exact ⟨rfl, _, rfl, hM.rw hW2 hF2⟩
theorem m_rtY1 (G : aw_G) {n c : Nat} {I I0 : Nat → Nat → Int32} {L : Nat → Nat → Int64} {V : Nat → Nat → Nat} {kk : Nat} {t u y m : Nat → Nat → Nat} {b0 b1 : Nat → Nat} {l0 l1 : Nat} (hM : zMy V kk t u y m I0 I) (hB : zBm b0 b1 l0 l1 I0) (h60 : t 6 0 = q_k (q_c b1) 7 l1) (htc : ∀ j k, j < 5 → k < t 6 0 → t j k = t_c b1 k j) : aw_Met G mX11_readsText [.ref 81, .int 1] (zH n I L c) (fun v h2 => v = some (.int (nI (q_f (q_c b1) 7 l1) - 1)) ∧ ∃ I2, h2 = zH n I2 L c ∧ zMy V kk t u y m I0 I2) := by
  refine aw_Met.of okX11_readsText (Nat.le_of_ble_eq_true rfl) ?_
  show aw_W G mX11_readsText 0 [.ref 81, .int 1] [] (zH n I L c) (0, 0) _
  refine aw_iload_n dX11_readsText_0 rfl ?_
  refine aw_if_ne (tgt := 11) dX11_readsText_1 (by decide) (fun _ => ?_) (fun z => absurd z (by decide))
  refine aw_aload_n dX11_readsText_11 rfl ?_
  refine aw_V0c (As := []) dX11_readsText_12 k11_143 rfl rfl rfl ⟨Nat.le_of_ble_eq_true rfl, Nat.le_of_ble_eq_true rfl⟩ (Nat.le_of_ble_eq_true rfl) ⟨⟨Nat.le_of_ble_eq_true rfl, Nat.le_of_ble_eq_true rfl⟩, ⟨Nat.le_of_ble_eq_true rfl, Nat.le_of_ble_eq_true rfl⟩⟩ ⟨rfl, rfl⟩ (w_readsCarters G (hB.fm hM.2.2.2.2.2.2.2)) (fun v h2 hq => ?_)
  obtain ⟨rfl, I2, rfl, hW2, hF2⟩ := hq
  rw [← h60] at hW2
  refine aw_reti dX11_readsText_15 rfl rfl ⟨Nat.le_of_ble_eq_true rfl, Nat.le_of_ble_eq_true rfl⟩ ?_
  exact ⟨rfl, _, rfl, hM.rc hW2 hF2 rfl rfl rfl htc⟩
theorem aw_loc1l {G : aw_G} {M : aw_MR} {pc : Nat} {st : List Value} {h : aw_H} {q : Nat × Nat} {Q : Option Value → aw_H → Prop} {v0 : Value} {vs : List Value} {x y : Int64} (e : x = y) (k : aw_W G M pc (v0 :: .long y :: vs) st h q Q) : aw_W G M pc (v0 :: .long x :: vs) st h q Q := e ▸ k
theorem m_digest (G : aw_G) {n c : Nat} {I : Nat → Nat → Int32} {L : Nat → Nat → Int64} {b0 b1 : Nat → Nat} {l0 l1 : Nat} {t u x y V g : Nat → Nat → Nat} {kk : Nat} {F S : Nat → Nat} {E : Nat → Nat → Int32} {fd : Int32} (hX : zTx b0 b1 l0 l1 t u x y V kk) (hI : zMI b0 b1 l0 l1 t u g F S E fd I)  : aw_Met G mX11_digest [.ref 81] (zH n I L c) (fun v h2 => v = some (.long (dDi x u t y V g kk l0 l1 b0 b1 fd)) ∧ ∃ I2, h2 = zH n I2 L c ∧ zMI b0 b1 l0 l1 t u g F S E fd I2 ∧ ∀ o, o < 81 → I2 o = I o) := by
  obtain ⟨hP, h60, h61, htc, hV, hkk, hx, hy⟩ := id hX
  have h8 := hP.1.1
  have hB := hI.1.1
  have hk10 : kk ≤ 10 := by rw [hkk]; exact q_k_leW hB.2.2.2.2.1
  have hVo : f_Vok V kk := by rw [hV, hkk]; exact v_w_ok
  have hSm := hI.1.2.2.2.2.1
  refine aw_Met.of okX11_digest (Nat.le_of_ble_eq_true rfl) ?_
  show aw_W G mX11_digest 0 [.ref 81, aw_x, aw_x, aw_x] [] (zH n I L c) (0, 0) _
  refine aw_ldc2 dX11_digest_0 co11_313 ?_
  refine aw_lstore_n (ls2 := [_, _, _, _]) dX11_digest_3 (by decide) rfl rfl ?_
  refine aw_iconst (v := 0) dX11_digest_4 rfl ?_
  refine aw_istore_n (ls2 := [_, _, _, _]) dX11_digest_5 (by decide) rfl rfl ?_
  refine aw_up (X := fun i => ∀ I3, (zMI b0 b1 l0 l1 t u g F S E fd I3 ∧ zFm I I3 ∧ (i ≠ 0 → ∃ m, zMy V kk t u y m I I3)) → aw_W G mX11_digest 6 [.ref 81, .long ((zf (fun k => (r_cnt [nI kk, nI (t 6 0), nI l0, nI l1, nI (u 2 0), nI (o_cm x u t), nI (z_sum (p_play z0 t u x 4) 8), nI (g 3 0), fd] k).toInt64) 17 i)), aw_x, .int (nI i)] [] (zH n I3 L c) (0, 0) _) (Nat.zero_le 8) (fun I3 hh => ?_) (fun i _ hi ih1 I3 hh => ?_) _ ⟨hI, zFm.rfl _, fun z => absurd rfl z⟩
  · obtain ⟨-, -, hh⟩ := hh
    obtain ⟨m3, hM3⟩ := hh (by decide)
    refine aw_iload_n dX11_digest_6 rfl ?_
    refine aw_bipush (v := 8) dX11_digest_7 (by decide) ?_
    refine aw_ic_ge_n (a := 8) (b := 8) (tgt := 31) dX11_digest_9 (by decide) (by omega) (by omega) (fun c9 => ?_) (fun z => absurd z (by omega))
    refine aw_ldc2 dX11_digest_31 co11_307 ?_
    refine aw_lload_n dX11_digest_34 rfl ?_
    refine aw_lmul dX11_digest_35 ?_
    refine aw_aload_n dX11_digest_36 rfl ?_
    refine aw_iconst (v := 0) dX11_digest_37 rfl ?_
    refine aw_V0c (As := [_]) dX11_digest_38 k11_146 rfl rfl rfl ⟨Nat.le_of_ble_eq_true rfl, Nat.le_of_ble_eq_true rfl⟩ (Nat.le_of_ble_eq_true rfl) ⟨⟨Nat.le_of_ble_eq_true rfl, Nat.le_of_ble_eq_true rfl⟩, ⟨Nat.le_of_ble_eq_true rfl, Nat.le_of_ble_eq_true rfl⟩⟩ ⟨rfl, rfl⟩ (m_rtY0 G hM3 hB hV hkk) (fun v h2 hq => ?_)
    obtain ⟨rfl, Ia, rfl, hMa⟩ := hq
    refine aw_i2l dX11_digest_41 ?_
    refine aw_ladd dX11_digest_42 ?_
    refine aw_lstore_n (ls2 := [_, _, _, _]) dX11_digest_43 (by decide) rfl rfl ?_
    refine aw_ldc2 dX11_digest_44 co11_307 ?_
    refine aw_lload_n dX11_digest_47 rfl ?_
    refine aw_lmul dX11_digest_48 ?_
    refine aw_aload_n dX11_digest_49 rfl ?_
    refine aw_iconst (v := 1) dX11_digest_50 rfl ?_
    refine aw_V0c (As := [_]) dX11_digest_51 k11_146 rfl rfl rfl ⟨Nat.le_of_ble_eq_true rfl, Nat.le_of_ble_eq_true rfl⟩ (Nat.le_of_ble_eq_true rfl) ⟨⟨Nat.le_of_ble_eq_true rfl, Nat.le_of_ble_eq_true rfl⟩, ⟨Nat.le_of_ble_eq_true rfl, Nat.le_of_ble_eq_true rfl⟩⟩ ⟨rfl, rfl⟩ (m_rtY1 G hMa hB h60 htc) (fun v h2 hq => ?_)
    obtain ⟨rfl, Ib, rfl, hMb⟩ := hq
    refine aw_i2l dX11_digest_54 ?_
    refine aw_ladd dX11_digest_55 ?_
    refine aw_lstore_n (ls2 := [_, _, _, _]) dX11_digest_56 (by decide) rfl rfl ?_
    refine aw_iconst (v := 0) dX11_digest_57 rfl ?_
    refine aw_istore_n (ls2 := [_, _, _, _]) dX11_digest_58 (by decide) rfl rfl ?_
    refine aw_up (X := fun i => aw_W G mX11_digest 59 [.ref 81, .long ((zf (fun i => (nI (V (i / 4) (i % 4))).toInt64) (dFl l0 l1 b0 b1 (zf (fun k => (r_cnt [nI kk, nI (t 6 0), nI l0, nI l1, nI (u 2 0), nI (o_cm x u t), nI (z_sum (p_play z0 t u x 4) 8), nI (g 3 0), fd] k).toInt64) 17 8)) i)), aw_x, .int (nI i)] [] (zH n Ib L c) (0, 0) _) (Nat.zero_le (4 * kk)) ?_ (fun i _ hi ihv => ?_)
    · refine aw_iload_n dX11_digest_59 rfl ?_
      refine aw_iconst (v := 4) dX11_digest_60 rfl ?_
      refine aw_aload_n dX11_digest_61 rfl ?_
      refine aw_getI dX11_digest_62 f11_127 rfl ⟨Nat.le_of_ble_eq_true rfl, Nat.le_of_ble_eq_true rfl⟩ rfl ?_
      refine aw_top hMb.1.1 ?_
      refine aw_imul_n (a := 4) (b := kk) dX11_digest_65 ?_
      refine aw_ic_ge_n (a := 4 * kk) (b := 4 * kk) (tgt := 89) dX11_digest_66 (by decide) (by omega) (by omega) (fun c66 => ?_) (fun z => absurd z (by omega))
      refine aw_iconst (v := 0) dX11_digest_89 rfl ?_
      refine aw_istore_n (ls2 := [_, _, _, _]) dX11_digest_90 (by decide) rfl rfl ?_
      refine aw_up (X := fun p => aw_W G mX11_digest 91 [.ref 81, .long ((zg (dFa y) (zf (fun i => (nI (V (i / 4) (i % 4))).toInt64) (dFl l0 l1 b0 b1 (zf (fun k => (r_cnt [nI kk, nI (t 6 0), nI l0, nI l1, nI (u 2 0), nI (o_cm x u t), nI (z_sum (p_play z0 t u x 4) 8), nI (g 3 0), fd] k).toInt64) 17 8)) (4 * kk)) p)), aw_x, .int (nI p)] [] (zH n Ib L c) (0, 0) _) (Nat.zero_le 8) ?_ (fun p _ hp ihf => ?_)
      · refine aw_iload_n dX11_digest_91 rfl ?_
        refine aw_bipush (v := 8) dX11_digest_92 (by decide) ?_
        refine aw_ic_ge_n (a := 8) (b := 8) (tgt := 131) dX11_digest_94 (by decide) (by omega) (by omega) (fun c94 => ?_) (fun z => absurd z (by omega))
        refine aw_iconst (v := 0) dX11_digest_131 rfl ?_
        refine aw_istore_n (ls2 := [_, _, _, _]) dX11_digest_132 (by decide) rfl rfl ?_
        obtain ⟨h0, hh0⟩ : ∃ h0, h0 = dTe x u t y V g kk l0 l1 b0 b1 fd 17 := ⟨_, rfl⟩
        refine aw_loc1l (show _ = h0 from hh0.symm) ?_
        refine aw_up (X := fun k => ∀ I3 m3, zMy V kk t u y m3 I I3 → aw_W G mX11_digest 133 [.ref 81, .long ((zg (fun k h => dTr x u t g k (dHr x u t k h)) h0 k)), aw_x, .int (nI k)] [] (zH n I3 L c) (0, 0) _) (Nat.zero_le (t 6 0)) (fun I3 m3 hM3 => ?_) (fun k _ hk ihc I3 m3 hM3 => ?_) _ _ hMb
        · obtain ⟨h3, hh3⟩ : ∃ h3, h3 = (zg (fun k h => dTr x u t g k (dHr x u t k h)) h0 (t 6 0)) := ⟨_, rfl⟩
          rw [← hh3]
          refine aw_iload_n dX11_digest_133 rfl ?_
          refine aw_aload_n dX11_digest_134 rfl ?_
          refine aw_getI dX11_digest_135 f11_133 rfl ⟨Nat.le_of_ble_eq_true rfl, Nat.le_of_ble_eq_true rfl⟩ rfl ?_
          refine aw_top hM3.2.1.2.2.1 ?_
          refine aw_ic_ge_n (a := t 6 0) (b := t 6 0) (tgt := 154) dX11_digest_138 (by decide) (by omega) (by omega) (fun c138 => ?_) (fun z => absurd z (by omega))
          refine aw_aload_n dX11_digest_154 rfl ?_
          refine aw_V0c (As := []) dX11_digest_155 k11_215 rfl rfl rfl ⟨Nat.le_of_ble_eq_true rfl, Nat.le_of_ble_eq_true rfl⟩ (Nat.le_of_ble_eq_true rfl) ⟨⟨Nat.le_of_ble_eq_true rfl, Nat.le_of_ble_eq_true rfl⟩, ⟨Nat.le_of_ble_eq_true rfl, Nat.le_of_ble_eq_true rfl⟩⟩ ⟨rfl, rfl⟩ (w_lv G hM3 hP) (fun v h2 hq => ?_)
          obtain ⟨rfl, Iw, rfl, hMw, hTo, hFr⟩ := hq
          refine aw_iconst (v := 2) dX11_digest_158 rfl ?_
          refine aw_istore_n (ls2 := [_, _, _, _]) dX11_digest_159 (by decide) rfl rfl ?_
          have hot := zOut (u := u) (s := z0) (m := m3) hP.1 hP.2.2.2.1 hP.2.2.2.2.1 hP.2.2.2.2.2 z0_old hM3.2.2.2.2.2.1.1 (fun k hk => hP.2.1 k (by omega))
          refine aw_up (X := fun i => aw_W G mX11_digest 160 [.ref 81, .long ((zf (fun i => (nI (o_who x u t (i + 2))).toInt64) h3 i)), aw_x, .int (nI (i + 2))] [] (zH n Iw L c) (0, 0) _) (Nat.zero_le 4) ?_ (fun i _ hi ihw => ?_)
          · refine aw_iload_n dX11_digest_160 rfl ?_
            refine aw_bipush (v := 6) dX11_digest_161 (by decide) ?_
            refine aw_ic_ge_n (a := 4 + 2) (b := 6) (tgt := 185) dX11_digest_163 (by decide) (by omega) (by omega) (fun c163 => ?_) (fun z => absurd z (by omega))
            refine aw_ldc2 dX11_digest_185 co11_307 ?_
            refine aw_lload_n dX11_digest_188 rfl ?_
            refine aw_lmul dX11_digest_189 ?_
            refine aw_aload_n dX11_digest_190 rfl ?_
            refine aw_getI dX11_digest_191 f11_195 rfl ⟨Nat.le_of_ble_eq_true rfl, Nat.le_of_ble_eq_true rfl⟩ rfl ?_
            refine aw_top (hMw.2.2.2.2.1.2.1.1.trans (by rw [← hot.2.2.1])) ?_
            refine aw_i2l dX11_digest_194 ?_
            refine aw_ladd dX11_digest_195 ?_
            refine aw_lstore_n (ls2 := [_, _, _, _]) dX11_digest_196 (by decide) rfl rfl ?_
            refine aw_ldc2 dX11_digest_197 co11_307 ?_
            refine aw_lload_n dX11_digest_200 rfl ?_
            refine aw_lmul dX11_digest_201 ?_
            refine aw_aload_n dX11_digest_202 rfl ?_
            refine aw_getI dX11_digest_203 f11_198 rfl ⟨Nat.le_of_ble_eq_true rfl, Nat.le_of_ble_eq_true rfl⟩ rfl ?_
            refine aw_top (hMw.2.2.2.2.1.2.1.2.trans (by rw [← hot.2.2.2])) ?_
            refine aw_i2l dX11_digest_206 ?_
            refine aw_ladd dX11_digest_207 ?_
            refine aw_lstore_n (ls2 := [_, _, _, _]) dX11_digest_208 (by decide) rfl rfl ?_
            refine aw_ldc2 dX11_digest_209 co11_307 ?_
            refine aw_lload_n dX11_digest_212 rfl ?_
            refine aw_lmul dX11_digest_213 ?_
            refine aw_aload_n dX11_digest_214 rfl ?_
            refine aw_V0c (As := []) dX11_digest_215 k11_232 rfl rfl rfl ⟨Nat.le_of_ble_eq_true rfl, Nat.le_of_ble_eq_true rfl⟩ (Nat.le_of_ble_eq_true rfl) ⟨⟨Nat.le_of_ble_eq_true rfl, Nat.le_of_ble_eq_true rfl⟩, ⟨Nat.le_of_ble_eq_true rfl, Nat.le_of_ble_eq_true rfl⟩⟩ ⟨rfl, rfl⟩ (w_busiestNow G hMw.2.2.2.2.1 (fun j hj => by rw [← hot.2.1 j hj]; have := (zBd (m := z0) (u := u) hP.1 hP.2.2.2.1 hP.2.2.2.2.1 hP.2.2.2.2.2 z0_old).1.2.2.2.2 j; omega)) (fun v h2 hq => ?_)
            obtain ⟨rfl, rfl⟩ := hq
            rw [z_most_congr (fun j hj => (hot.2.1 j hj).symm)]
            refine aw_i2l dX11_digest_218 ?_
            refine aw_ladd dX11_digest_219 ?_
            refine aw_lstore_n (ls2 := [_, _, _, _]) dX11_digest_220 (by decide) rfl rfl ?_
            refine aw_iconst (v := 0) dX11_digest_221 rfl ?_
            refine aw_istore_n (ls2 := [_, _, _, _]) dX11_digest_222 (by decide) rfl rfl ?_
            refine aw_up (X := fun j => ∀ I3 m3, zMy V kk t u y m3 I I3 → aw_W G mX11_digest 223 [.ref 81, .long ((zf (fun j => (r_lend (z_ld (fun a b => o_cm x u (t_swap t a b)) (t 6 0) 64) j).toInt64) (zx (zx (zx (zf (fun i => (nI (o_who x u t (i + 2))).toInt64) h3 4) (nI (p_play z0 t u x 0 10) - 1).toInt64) (nI (p_play z0 t u x 0 11) - 1).toInt64) (nI (z_most (p_play z0 t u x 4) 8).1 - 1).toInt64) j)), aw_x, .int (nI j)] [] (zH n I3 L c) (0, 0) _) (Nat.zero_le 3) (fun I3 m3 hM3 => ?_) (fun j _ hj ihL I3 m3 hM3 => ?_) _ _ hMw
            · refine aw_iload_n dX11_digest_223 rfl ?_
              refine aw_iconst (v := 3) dX11_digest_224 rfl ?_
              refine aw_ic_ge_n (a := 3) (b := 3) (tgt := 247) dX11_digest_225 (by decide) (by omega) (by omega) (fun c225 => ?_) (fun z => absurd z (by omega))
              refine aw_ldc2 dX11_digest_247 co11_307 ?_
              refine aw_lload_n dX11_digest_250 rfl ?_
              refine aw_lmul dX11_digest_251 ?_
              refine aw_aload_n dX11_digest_252 rfl ?_
              refine aw_iconst (v := 0) dX11_digest_253 rfl ?_
              refine aw_V0c (As := [_]) dX11_digest_254 k11_253 rfl rfl rfl ⟨Nat.le_of_ble_eq_true rfl, Nat.le_of_ble_eq_true rfl⟩ (Nat.le_of_ble_eq_true rfl) ⟨⟨Nat.le_of_ble_eq_true rfl, Nat.le_of_ble_eq_true rfl⟩, ⟨Nat.le_of_ble_eq_true rfl, Nat.le_of_ble_eq_true rfl⟩⟩ ⟨rfl, rfl⟩ (w_levelBy G hM3 hP (a := 0) (by decide) hk10 hVo) (fun v h2 hq => ?_)
              obtain ⟨rfl, I4, rfl, m4, hM4⟩ := hq
              rw [← hy] at hM4
              refine aw_i2l dX11_digest_257 ?_
              refine aw_ladd dX11_digest_258 ?_
              refine aw_lstore_n (ls2 := [_, _, _, _]) dX11_digest_259 (by decide) rfl rfl ?_
              refine aw_ldc2 dX11_digest_260 co11_307 ?_
              refine aw_lload_n dX11_digest_263 rfl ?_
              refine aw_lmul dX11_digest_264 ?_
              refine aw_aload_n dX11_digest_265 rfl ?_
              refine aw_iconst (v := 1) dX11_digest_266 rfl ?_
              refine aw_V0c (As := [_]) dX11_digest_267 k11_253 rfl rfl rfl ⟨Nat.le_of_ble_eq_true rfl, Nat.le_of_ble_eq_true rfl⟩ (Nat.le_of_ble_eq_true rfl) ⟨⟨Nat.le_of_ble_eq_true rfl, Nat.le_of_ble_eq_true rfl⟩, ⟨Nat.le_of_ble_eq_true rfl, Nat.le_of_ble_eq_true rfl⟩⟩ ⟨rfl, rfl⟩ (w_levelBy G hM4 hP (a := 1) (by decide) hk10 hVo) (fun v h2 hq => ?_)
              obtain ⟨rfl, I5, rfl, m5, hM5⟩ := hq
              rw [← hy] at hM5
              refine aw_i2l dX11_digest_270 ?_
              refine aw_ladd dX11_digest_271 ?_
              refine aw_lstore_n (ls2 := [_, _, _, _]) dX11_digest_272 (by decide) rfl rfl ?_
              refine aw_ldc2 dX11_digest_273 co11_307 ?_
              refine aw_lload_n dX11_digest_276 rfl ?_
              refine aw_lmul dX11_digest_277 ?_
              refine aw_aload_n dX11_digest_278 rfl ?_
              refine aw_V0c (As := []) dX11_digest_279 k11_265 rfl rfl rfl ⟨Nat.le_of_ble_eq_true rfl, Nat.le_of_ble_eq_true rfl⟩ (Nat.le_of_ble_eq_true rfl) ⟨⟨Nat.le_of_ble_eq_true rfl, Nat.le_of_ble_eq_true rfl⟩, ⟨Nat.le_of_ble_eq_true rfl, Nat.le_of_ble_eq_true rfl⟩⟩ ⟨rfl, rfl⟩ (w_neverNow G hM5 hP hSm h61) (fun v h2 hq => ?_)
              obtain ⟨rfl, I6, rfl, m6, hM6⟩ := hq
              refine aw_i2l dX11_digest_282 ?_
              refine aw_ladd dX11_digest_283 ?_
              refine aw_lstore_n (ls2 := [_, _, _, _]) dX11_digest_284 (by decide) rfl rfl ?_
              refine aw_ldc2 dX11_digest_285 co11_307 ?_
              refine aw_lload_n dX11_digest_288 rfl ?_
              refine aw_lmul dX11_digest_289 ?_
              refine aw_aload_n dX11_digest_290 rfl ?_
              refine aw_bipush (v := 7) dX11_digest_291 (by decide) ?_
              refine aw_iconst (v := 0) dX11_digest_293 rfl ?_
              refine aw_V0c (As := [_, _]) dX11_digest_294 k11_301 rfl rfl rfl ⟨Nat.le_of_ble_eq_true rfl, Nat.le_of_ble_eq_true rfl⟩ (Nat.le_of_ble_eq_true rfl) ⟨⟨Nat.le_of_ble_eq_true rfl, Nat.le_of_ble_eq_true rfl⟩, ⟨Nat.le_of_ble_eq_true rfl, Nat.le_of_ble_eq_true rfl⟩⟩ ⟨rfl, rfl⟩ (w_marketOf G hM6 hP (sd := 7) (a := 0) hB (by decide) h60 htc) (fun v h2 hq => ?_)
              obtain ⟨rfl, I7, rfl, m7, hM7⟩ := hq
              refine aw_i2l dX11_digest_297 ?_
              refine aw_ladd dX11_digest_298 ?_
              refine aw_lstore_n (ls2 := [_, _, _, _]) dX11_digest_299 (by decide) rfl rfl ?_
              refine aw_ldc2 dX11_digest_300 co11_307 ?_
              refine aw_lload_n dX11_digest_303 rfl ?_
              refine aw_lmul dX11_digest_304 ?_
              refine aw_aload_n dX11_digest_305 rfl ?_
              refine aw_bipush (v := 7) dX11_digest_306 (by decide) ?_
              refine aw_iconst (v := 1) dX11_digest_308 rfl ?_
              refine aw_V0c (As := [_, _]) dX11_digest_309 k11_301 rfl rfl rfl ⟨Nat.le_of_ble_eq_true rfl, Nat.le_of_ble_eq_true rfl⟩ (Nat.le_of_ble_eq_true rfl) ⟨⟨Nat.le_of_ble_eq_true rfl, Nat.le_of_ble_eq_true rfl⟩, ⟨Nat.le_of_ble_eq_true rfl, Nat.le_of_ble_eq_true rfl⟩⟩ ⟨rfl, rfl⟩ (w_marketOf G hM7 hP (sd := 7) (a := 1) hB (by decide) h60 htc) (fun v h2 hq => ?_)
              obtain ⟨rfl, I8, rfl, m8, hM8⟩ := hq
              refine aw_i2l dX11_digest_312 ?_
              refine aw_ladd dX11_digest_313 ?_
              refine aw_retl dX11_digest_314 rfl ⟨Nat.le_of_ble_eq_true rfl, Nat.le_of_ble_eq_true rfl⟩ ?_
              exact ⟨by rw [hh3, hh0]; rfl, _, rfl, hI.my hM8, hM8.fr⟩
            · refine aw_iload_n dX11_digest_223 rfl ?_
              refine aw_iconst (v := 3) dX11_digest_224 rfl ?_
              refine aw_ic_ge_n (a := j) (b := 3) (tgt := 247) dX11_digest_225 (by decide) (by omega) (by omega) (fun z => absurd z (by omega)) (fun c225 => ?_)
              refine aw_ldc2 dX11_digest_228 co11_307 ?_
              refine aw_lload_n dX11_digest_231 rfl ?_
              refine aw_lmul dX11_digest_232 ?_
              refine aw_aload_n dX11_digest_233 rfl ?_
              refine aw_iload_n dX11_digest_234 rfl ?_
              refine aw_V0c (As := [_]) dX11_digest_235 k11_247 rfl rfl rfl ⟨Nat.le_of_ble_eq_true rfl, Nat.le_of_ble_eq_true rfl⟩ (Nat.le_of_ble_eq_true rfl) ⟨⟨Nat.le_of_ble_eq_true rfl, Nat.le_of_ble_eq_true rfl⟩, ⟨Nat.le_of_ble_eq_true rfl, Nat.le_of_ble_eq_true rfl⟩⟩ ⟨rfl, rfl⟩ (w_lendBy G hM3 hP hj) (fun v h2 hq => ?_)
              obtain ⟨rfl, I4, rfl, m4, hM4⟩ := hq
              refine aw_i2l dX11_digest_238 ?_
              refine aw_ladd dX11_digest_239 ?_
              refine aw_lstore_n (ls2 := [_, _, _, _]) dX11_digest_240 (by decide) rfl rfl ?_
              refine aw_iinc_n (ls2 := [_, _, _, _]) dX11_digest_241 rfl (by decide) rfl rfl ?_
              refine aw_goto (tgt := 223) dX11_digest_244 (by decide) ?_
              exact ihL _ _ hM4
          · refine aw_iload_n dX11_digest_160 rfl ?_
            refine aw_bipush (v := 6) dX11_digest_161 (by decide) ?_
            refine aw_ic_ge_n (a := i + 2) (b := 6) (tgt := 185) dX11_digest_163 (by decide) (by omega) (by omega) (fun z => absurd z (by omega)) (fun c163 => ?_)
            refine aw_ldc2 dX11_digest_166 co11_307 ?_
            refine aw_lload_n dX11_digest_169 rfl ?_
            refine aw_lmul dX11_digest_170 ?_
            refine aw_aload_n dX11_digest_171 rfl ?_
            refine aw_iload_n dX11_digest_172 rfl ?_
            refine aw_V0c (As := [_]) dX11_digest_173 k11_226 rfl rfl rfl ⟨Nat.le_of_ble_eq_true rfl, Nat.le_of_ble_eq_true rfl⟩ (Nat.le_of_ble_eq_true rfl) ⟨⟨Nat.le_of_ble_eq_true rfl, Nat.le_of_ble_eq_true rfl⟩, ⟨Nat.le_of_ble_eq_true rfl, Nat.le_of_ble_eq_true rfl⟩⟩ ⟨rfl, rfl⟩ (w_whoBy G (a := i + 2) hMw.2.2.2.2.1 hMw.2.1.2.2.1 (by omega) h8 (fun j hj => by rw [(hot.1 j hj).1]; have := o_st_le (u := u) hP.1 hP.2.2.2 hj; unfold o_st at this; omega)) (fun v h2 hq => ?_)
            obtain ⟨rfl, rfl⟩ := hq
            rw [zCmM hP hM3.2.2.2.2.2.1]
            refine aw_i2l dX11_digest_176 ?_
            refine aw_ladd dX11_digest_177 ?_
            refine aw_lstore_n (ls2 := [_, _, _, _]) dX11_digest_178 (by decide) rfl rfl ?_
            refine aw_iinc_n (ls2 := [_, _, _, _]) dX11_digest_179 rfl (by decide) rfl rfl ?_
            refine aw_goto (tgt := 160) dX11_digest_182 (by decide) ?_
            exact ihw
        · refine aw_iload_n dX11_digest_133 rfl ?_
          refine aw_aload_n dX11_digest_134 rfl ?_
          refine aw_getI dX11_digest_135 f11_133 rfl ⟨Nat.le_of_ble_eq_true rfl, Nat.le_of_ble_eq_true rfl⟩ rfl ?_
          refine aw_top hM3.2.1.2.2.1 ?_
          refine aw_ic_ge_n (a := k) (b := t 6 0) (tgt := 154) dX11_digest_138 (by decide) (by omega) (by omega) (fun z => absurd z (by omega)) (fun c138 => ?_)
          refine aw_aload_n dX11_digest_141 rfl ?_
          refine aw_lload_n dX11_digest_142 rfl ?_
          refine aw_iload_n dX11_digest_143 rfl ?_
          refine aw_V0c (As := [_, _]) dX11_digest_144 k11_318 rfl rfl rfl ⟨Nat.le_of_ble_eq_true rfl, Nat.le_of_ble_eq_true rfl⟩ (Nat.le_of_ble_eq_true rfl) ⟨⟨Nat.le_of_ble_eq_true rfl, Nat.le_of_ble_eq_true rfl⟩, ⟨Nat.le_of_ble_eq_true rfl, Nat.le_of_ble_eq_true rfl⟩⟩ ⟨rfl, rfl⟩ (m_tCarter G hM3 hP hSm h61 hk) (fun v h2 hq => ?_)
          obtain ⟨rfl, I4, rfl, m4, hM4⟩ := hq
          refine aw_lstore_n (ls2 := [_, _, _, _]) dX11_digest_147 (by decide) rfl rfl ?_
          refine aw_iinc_n (ls2 := [_, _, _, _]) dX11_digest_148 rfl (by decide) rfl rfl ?_
          refine aw_goto (tgt := 133) dX11_digest_151 (by decide) ?_
          exact ihc _ _ hM4
      · refine aw_iload_n dX11_digest_91 rfl ?_
        refine aw_bipush (v := 8) dX11_digest_92 (by decide) ?_
        refine aw_ic_ge_n (a := p) (b := 8) (tgt := 131) dX11_digest_94 (by decide) (by omega) (by omega) (fun z => absurd z (by omega)) (fun c94 => ?_)
        refine aw_ldc2 dX11_digest_97 co11_307 ?_
        refine aw_lload_n dX11_digest_100 rfl ?_
        refine aw_lmul dX11_digest_101 ?_
        refine aw_aload_n dX11_digest_102 rfl ?_
        refine aw_iconst (v := 0) dX11_digest_103 rfl ?_
        refine aw_iload_n dX11_digest_104 rfl ?_
        refine aw_V0c (As := [_, _]) dX11_digest_105 k11_221 rfl rfl rfl ⟨Nat.le_of_ble_eq_true rfl, Nat.le_of_ble_eq_true rfl⟩ (Nat.le_of_ble_eq_true rfl) ⟨⟨Nat.le_of_ble_eq_true rfl, Nat.le_of_ble_eq_true rfl⟩, ⟨Nat.le_of_ble_eq_true rfl, Nat.le_of_ble_eq_true rfl⟩⟩ ⟨rfl, rfl⟩ (w_farBy G (p := 0) (g := p) hMb.2.2.2.1 (by omega) (by omega) (fun j hj => (hP.2.2.2.2.2.1 j hj).2)) (fun v h2 hq => ?_)
        obtain ⟨rfl, rfl⟩ := hq
        rw [show (if y 1 (8 * 0 + p) < 9999 then y 1 (8 * 0 + p) + 1 else 0) = z_far y 0 p from rfl]
        refine aw_i2l dX11_digest_108 ?_
        refine aw_ladd dX11_digest_109 ?_
        refine aw_lstore_n (ls2 := [_, _, _, _]) dX11_digest_110 (by decide) rfl rfl ?_
        refine aw_ldc2 dX11_digest_111 co11_307 ?_
        refine aw_lload_n dX11_digest_114 rfl ?_
        refine aw_lmul dX11_digest_115 ?_
        refine aw_aload_n dX11_digest_116 rfl ?_
        refine aw_iload_n dX11_digest_117 rfl ?_
        refine aw_iconst (v := 3) dX11_digest_118 rfl ?_
        refine aw_V0c (As := [_, _]) dX11_digest_119 k11_221 rfl rfl rfl ⟨Nat.le_of_ble_eq_true rfl, Nat.le_of_ble_eq_true rfl⟩ (Nat.le_of_ble_eq_true rfl) ⟨⟨Nat.le_of_ble_eq_true rfl, Nat.le_of_ble_eq_true rfl⟩, ⟨Nat.le_of_ble_eq_true rfl, Nat.le_of_ble_eq_true rfl⟩⟩ ⟨rfl, rfl⟩ (w_farBy G (p := p) (g := 3) hMb.2.2.2.1 (by omega) (by omega) (fun j hj => (hP.2.2.2.2.2.1 j hj).2)) (fun v h2 hq => ?_)
        obtain ⟨rfl, rfl⟩ := hq
        rw [show (if y 1 (8 * p + 3) < 9999 then y 1 (8 * p + 3) + 1 else 0) = z_far y p 3 from rfl]
        refine aw_i2l dX11_digest_122 ?_
        refine aw_ladd dX11_digest_123 ?_
        refine aw_lstore_n (ls2 := [_, _, _, _]) dX11_digest_124 (by decide) rfl rfl ?_
        refine aw_iinc_n (ls2 := [_, _, _, _]) dX11_digest_125 rfl (by decide) rfl rfl ?_
        refine aw_goto (tgt := 91) dX11_digest_128 (by decide) ?_
        exact ihf
    · refine aw_iload_n dX11_digest_59 rfl ?_
      refine aw_iconst (v := 4) dX11_digest_60 rfl ?_
      refine aw_aload_n dX11_digest_61 rfl ?_
      refine aw_getI dX11_digest_62 f11_127 rfl ⟨Nat.le_of_ble_eq_true rfl, Nat.le_of_ble_eq_true rfl⟩ rfl ?_
      refine aw_top hMb.1.1 ?_
      refine aw_imul_n (a := 4) (b := kk) dX11_digest_65 ?_
      refine aw_ic_ge_n (a := i) (b := 4 * kk) (tgt := 89) dX11_digest_66 (by decide) (by omega) (by omega) (fun z => absurd z (by omega)) (fun c66 => ?_)
      refine aw_ldc2 dX11_digest_69 co11_307 ?_
      refine aw_lload_n dX11_digest_72 rfl ?_
      refine aw_lmul dX11_digest_73 ?_
      refine aw_aload_n dX11_digest_74 rfl ?_
      refine aw_getR dX11_digest_75 f11_28 rfl ⟨Nat.le_of_ble_eq_true rfl, Nat.le_of_ble_eq_true rfl⟩ rfl rfl ?_
      refine aw_iload_n dX11_digest_78 rfl ?_
      refine aw_iald_n (j := i) dX11_digest_79 rfl (Nat.le_of_ble_eq_true rfl) (by decide) (by omega) ?_
      refine aw_top (show _ = nI (V (i / 4) (i % 4)) from (show _ = Ib 88 (4 * (i / 4) + i % 4) from congrArg (Ib 88) (by omega)).trans (hMb.1.2 (i / 4) (i % 4) (by omega) (by omega))) ?_
      refine aw_i2l dX11_digest_80 ?_
      refine aw_ladd dX11_digest_81 ?_
      refine aw_lstore_n (ls2 := [_, _, _, _]) dX11_digest_82 (by decide) rfl rfl ?_
      refine aw_iinc_n (ls2 := [_, _, _, _]) dX11_digest_83 rfl (by decide) rfl rfl ?_
      refine aw_goto (tgt := 59) dX11_digest_86 (by decide) ?_
      exact ihv
  · obtain ⟨hI3, hF3, -⟩ := hh
    refine aw_iload_n dX11_digest_6 rfl ?_
    refine aw_bipush (v := 8) dX11_digest_7 (by decide) ?_
    refine aw_ic_ge_n (a := i) (b := 8) (tgt := 31) dX11_digest_9 (by decide) (by omega) (by omega) (fun z => absurd z (by omega)) (fun c9 => ?_)
    refine aw_ldc2 dX11_digest_12 co11_307 ?_
    refine aw_lload_n dX11_digest_15 rfl ?_
    refine aw_lmul dX11_digest_16 ?_
    refine aw_aload_n dX11_digest_17 rfl ?_
    refine aw_iload_n dX11_digest_18 rfl ?_
    refine aw_V0c (As := [_]) dX11_digest_19 k11_315 rfl rfl rfl ⟨Nat.le_of_ble_eq_true rfl, Nat.le_of_ble_eq_true rfl⟩ (Nat.le_of_ble_eq_true rfl) ⟨⟨Nat.le_of_ble_eq_true rfl, Nat.le_of_ble_eq_true rfl⟩, ⟨Nat.le_of_ble_eq_true rfl, Nat.le_of_ble_eq_true rfl⟩⟩ ⟨rfl, rfl⟩ (m_countY G hX hI3 hi) (fun v h2 hq => ?_)
    obtain ⟨rfl, I4, rfl, m4, hM4⟩ := hq
    refine aw_i2l dX11_digest_22 ?_
    refine aw_ladd dX11_digest_23 ?_
    refine aw_lstore_n (ls2 := [_, _, _, _]) dX11_digest_24 (by decide) rfl rfl ?_
    refine aw_iinc_n (ls2 := [_, _, _, _]) dX11_digest_25 rfl (by decide) rfl rfl ?_
    refine aw_goto (tgt := 6) dX11_digest_28 (by decide) ?_
    exact ih1 _ ⟨hI3.my hM4, (hM4.base hF3).2.2.2.2.2.2.2, fun _ => ⟨m4, hM4.base hF3⟩⟩
