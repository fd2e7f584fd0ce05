/-! rumours, markets, counts of the class; the reference, asked -/
theorem c_rumour (G : aw_G) {n c : Nat} {I : Nat → Nat → Int32} {L : Nat → Nat → Int64} {b0 b1 : Nat → Nat} {l0 l1 : Nat} {t u x y V g : Nat → Nat → Nat} {kk : Nat} {F S : Nat → Nat} {E : Nat → Nat → Int32} {fd : Int32} (hX : zTx b0 b1 l0 l1 t u x y V kk) (hI : zCI b0 b1 l0 l1 t u x y g F S E fd I) {a1 : Int32} {a2 : Int32} {a3 : Int32} : aw_Met G mX10_rumour [.ref 3, .int a1, .int a2, .int a3] (zH n I L c) (fun v h2 => v = some (.long (if zok a1 17 ∧ zok a2 (t 6 0) ∧ zok a3 2 then lN ((if (zt a3) = 0 then (z_sum (z_wf x u t (zt a1) (zt a2)) (2 ^ u 2 0)) else 16 ^ u 2 0) / Nat.gcd (z_sum (z_wf x u t (zt a1) (zt a2)) (2 ^ u 2 0)) (16 ^ u 2 0)) else -9223372036854775806)) ∧ ∃ I2 L2 c2, h2 = zH n I2 L2 c2 ∧ zCI b0 b1 l0 l1 t u x y g F S E fd I2 ∧ ∀ o, 81 ≤ o → I2 o = I o) := by
  obtain ⟨hW, hC, hF, ⟨s0, hO, hR⟩, ⟨t2, s2, hD⟩, hG, hS, hfd⟩ := id hI
  obtain ⟨hP, h60, h61, htc, hV, hkk, hx, hy⟩ := id hX
  have h8 := hP.1.1
  have hk10 : kk ≤ 10 := by rw [hkk]; exact q_k_leW hW.1.2.2.2.2
  have hi6 : I 6 5 = nI (t 6 0) := by rw [h60]; exact hC.2.2
  have hi4 : I 4 5 = nI kk := by rw [hkk]; exact hW.2.2
  have hVo : f_Vok V kk := by rw [hV, hkk]; exact v_w_ok
  have hsm := zSame hP hO.1
  have hbd := zBd (m := z0) (u := u) hP.1 hP.2.2.2.1 hP.2.2.2.2.1 hP.2.2.2.2.2 hO.1
  have hS0 : p_play s0 t u x 0 0 = t 6 0 := hbd.1.1
  refine aw_Met.of okX10_rumour (Nat.le_of_ble_eq_true rfl) ?_
  show aw_W G mX10_rumour 0 [.ref 3, .int a1, .int a2, .int a3] [] (zH n I L c) (0, 0) _
  refine aw_iload_n dX10_rumour_0 rfl ?_
  refine aw_bipush (v := 17) dX10_rumour_1 (by decide) ?_
  refine aw_S0c (As := [_, _]) dX10_rumour_3 k10_100 rfl rfl (Nat.le_of_ble_eq_true rfl) ⟨⟨Nat.le_of_ble_eq_true rfl, Nat.le_of_ble_eq_true rfl⟩, ⟨Nat.le_of_ble_eq_true rfl, Nat.le_of_ble_eq_true rfl⟩⟩ ⟨rfl, rfl⟩ (w_within G a1 (b := 17) (by omega)) (fun v h2 hq => ?_)
  obtain ⟨rfl, rfl⟩ := hq
  refine aw_if_eq_B (tgt := 25) dX10_rumour_6 (by decide) (fun c6 => ?_) (fun c6 => ?_)
  · refine aw_ldc2 dX10_rumour_25 co10_231 ?_
    refine aw_retl dX10_rumour_28 rfl ⟨Nat.le_of_ble_eq_true rfl, Nat.le_of_ble_eq_true rfl⟩ ?_
    refine ⟨by rw [if_neg (fun z => c6 z.1)], _, _, _, rfl, hI, fun _ _ => rfl⟩
  · obtain ⟨p1, hp1, rfl⟩ := zok_ex c6
    refine aw_aload_n dX10_rumour_9 rfl ?_
    refine aw_iload_n dX10_rumour_10 rfl ?_
    refine aw_V0c (As := [_]) dX10_rumour_11 k10_135 rfl rfl rfl ⟨Nat.le_of_ble_eq_true rfl, Nat.le_of_ble_eq_true rfl⟩ (Nat.le_of_ble_eq_true rfl) ⟨⟨Nat.le_of_ble_eq_true rfl, Nat.le_of_ble_eq_true rfl⟩, ⟨Nat.le_of_ble_eq_true rfl, Nat.le_of_ble_eq_true rfl⟩⟩ ⟨rfl, rfl⟩ (w_cIsCarter G a2 hi6 h8) (fun v h2 hq => ?_)
    obtain ⟨rfl, rfl⟩ := hq
    refine aw_if_eq_B (tgt := 25) dX10_rumour_14 (by decide) (fun c14 => ?_) (fun c14 => ?_)
    · refine aw_ldc2 dX10_rumour_25 co10_231 ?_
      refine aw_retl dX10_rumour_28 rfl ⟨Nat.le_of_ble_eq_true rfl, Nat.le_of_ble_eq_true rfl⟩ ?_
      refine ⟨by rw [if_neg (fun z => c14 z.2.1)], _, _, _, rfl, hI, fun _ _ => rfl⟩
    · obtain ⟨p2, hp2, rfl⟩ := zok_ex c14
      refine aw_iload_n dX10_rumour_17 rfl ?_
      refine aw_iconst (v := 2) dX10_rumour_18 rfl ?_
      refine aw_S0c (As := [_, _]) dX10_rumour_19 k10_100 rfl rfl (Nat.le_of_ble_eq_true rfl) ⟨⟨Nat.le_of_ble_eq_true rfl, Nat.le_of_ble_eq_true rfl⟩, ⟨Nat.le_of_ble_eq_true rfl, Nat.le_of_ble_eq_true rfl⟩⟩ ⟨rfl, rfl⟩ (w_within G a3 (b := 2) (by omega)) (fun v h2 hq => ?_)
      obtain ⟨rfl, rfl⟩ := hq
      refine aw_if_ne_B (tgt := 29) dX10_rumour_22 (by decide) (fun c22 => ?_) (fun c22 => ?_)
      · obtain ⟨p3, hp3, rfl⟩ := zok_ex c22
        refine aw_aload_n dX10_rumour_29 rfl ?_
        refine aw_getR dX10_rumour_30 f10_85 rfl ⟨Nat.le_of_ble_eq_true rfl, Nat.le_of_ble_eq_true rfl⟩ rfl rfl ?_
        refine aw_iload_n dX10_rumour_33 rfl ?_
        refine aw_V0c (As := [_]) dX10_rumour_34 k10_233 rfl rfl rfl ⟨Nat.le_of_ble_eq_true rfl, Nat.le_of_ble_eq_true rfl⟩ (Nat.le_of_ble_eq_true rfl) ⟨⟨Nat.le_of_ble_eq_true rfl, Nat.le_of_ble_eq_true rfl⟩, ⟨Nat.le_of_ble_eq_true rfl, Nat.le_of_ble_eq_true rfl⟩⟩ ⟨rfl, rfl⟩ (w_cWeigh G hF hD (c := p1) (by omega)) (fun v h2 hq => ?_)
        obtain ⟨rfl, I2, L2, rfl, ⟨t3, s3, hD3⟩, hWt, hA4, hFl⟩ := hq
        have hu8 := hP.2.2.1.1
        have hp16 := pow16_le hu8
        have hwk : L2 71 p2 = lN (z_sum (z_wf x u t p1 p2) (2 ^ u 2 0)) := by rw [hWt p2 (by omega), if_pos hp2]
        have hpw : (16 : Nat) ^ u 2 0 = 2 ^ (4 * u 2 0) := by rw [Nat.pow_mul]
        have hsl := z_wf_sum (x := x) (u := u) (t := t) (c := p1) (k := p2) (by omega) (Nat.le_refl (2 ^ u 2 0))
        refine aw_aload_n dX10_rumour_37 rfl ?_
        refine aw_getR dX10_rumour_38 f10_85 rfl ⟨Nat.le_of_ble_eq_true rfl, Nat.le_of_ble_eq_true rfl⟩ rfl rfl ?_
        refine aw_iload_n dX10_rumour_41 rfl ?_
        refine aw_V0c (As := [_]) dX10_rumour_42 k10_236 rfl rfl rfl ⟨Nat.le_of_ble_eq_true rfl, Nat.le_of_ble_eq_true rfl⟩ (Nat.le_of_ble_eq_true rfl) ⟨⟨Nat.le_of_ble_eq_true rfl, Nat.le_of_ble_eq_true rfl⟩, ⟨Nat.le_of_ble_eq_true rfl, Nat.le_of_ble_eq_true rfl⟩⟩ ⟨rfl, rfl⟩ (w_reduce G (k := p2) (A := (z_sum (z_wf x u t p1 p2) (2 ^ u 2 0))) (m := 4 * u 2 0) (by omega) hwk (by rw [← hpw]; exact hA4) (by omega) (by omega)) (fun v h2 hq => ?_)
        obtain ⟨rfl, L3, rfl, h5, h6, -, -⟩ := hq
        rw [← hpw] at h5 h6
        refine aw_iload_n dX10_rumour_45 rfl ?_
        refine aw_if_ne_n (a := p3) (tgt := 59) dX10_rumour_46 (by decide) (by omega) (fun c46 => ?_) (fun c46 => ?_)
        · refine aw_aload_n dX10_rumour_59 rfl ?_
          refine aw_getR dX10_rumour_60 f10_85 rfl ⟨Nat.le_of_ble_eq_true rfl, Nat.le_of_ble_eq_true rfl⟩ rfl rfl ?_
          refine aw_getL dX10_rumour_63 f10_243 rfl ⟨Nat.le_of_ble_eq_true rfl, Nat.le_of_ble_eq_true rfl⟩ rfl ?_
          refine aw_topl h6 ?_
          refine aw_retl dX10_rumour_66 rfl ⟨Nat.le_of_ble_eq_true rfl, Nat.le_of_ble_eq_true rfl⟩ ?_
          exact ⟨by rw [if_pos ⟨c6, c14, c22⟩, zt_nI (show p1 < 2147483648 by omega), zt_nI (show p2 < 2147483648 by omega), zt_nI (show p3 < 2147483648 by omega), if_neg c46], _, _, _, rfl, hI.dy hD3, hD3.fr⟩
        · refine aw_aload_n dX10_rumour_49 rfl ?_
          refine aw_getR dX10_rumour_50 f10_85 rfl ⟨Nat.le_of_ble_eq_true rfl, Nat.le_of_ble_eq_true rfl⟩ rfl rfl ?_
          refine aw_getL dX10_rumour_53 f10_239 rfl ⟨Nat.le_of_ble_eq_true rfl, Nat.le_of_ble_eq_true rfl⟩ rfl ?_
          refine aw_topl h5 ?_
          refine aw_goto (tgt := 66) dX10_rumour_56 (by decide) ?_
          refine aw_retl dX10_rumour_66 rfl ⟨Nat.le_of_ble_eq_true rfl, Nat.le_of_ble_eq_true rfl⟩ ?_
          exact ⟨by rw [if_pos ⟨c6, c14, c22⟩, zt_nI (show p1 < 2147483648 by omega), zt_nI (show p2 < 2147483648 by omega), zt_nI (show p3 < 2147483648 by omega), if_pos c46], _, _, _, rfl, hI.dy hD3, hD3.fr⟩
      · refine aw_ldc2 dX10_rumour_25 co10_231 ?_
        refine aw_retl dX10_rumour_28 rfl ⟨Nat.le_of_ble_eq_true rfl, Nat.le_of_ble_eq_true rfl⟩ ?_
        refine ⟨by rw [if_neg (fun z => c22 z.2.2)], _, _, _, rfl, hI, fun _ _ => rfl⟩
theorem c_market (G : aw_G) {n c : Nat} {I : Nat → Nat → Int32} {L : Nat → Nat → Int64} {b0 b1 : Nat → Nat} {l0 l1 : Nat} {t u x y V g : Nat → Nat → Nat} {kk : Nat} {F S : Nat → Nat} {E : Nat → Nat → Int32} {fd : Int32} (hX : zTx b0 b1 l0 l1 t u x y V kk) (hI : zCI b0 b1 l0 l1 t u x y g F S E fd I) {a1 : Int32} {a2 : Int32} : aw_Met G mX10_market [.ref 3, .int a1, .int a2] (zH n I L c) (fun v h2 => v = some (.int (if zok a2 2 then nI (z_ones (o_who x u (t_dr t a1 (t 6 0)) (if (zt a2) = 0 then 2 else 4))) else -2)) ∧ ∃ I2 L2 c2, h2 = zH n I2 L2 c2 ∧ zCI b0 b1 l0 l1 t u x y g F S E fd I2 ∧ ∀ o, 81 ≤ o → I2 o = I o) := by
  obtain ⟨hW, hC, hF, ⟨s0, hO, hR⟩, ⟨t2, s2, hD⟩, hG, hS, hfd⟩ := id hI
  obtain ⟨hP, h60, h61, htc, hV, hkk, hx, hy⟩ := id hX
  have h8 := hP.1.1
  have hk10 : kk ≤ 10 := by rw [hkk]; exact q_k_leW hW.1.2.2.2.2
  have hi6 : I 6 5 = nI (t 6 0) := by rw [h60]; exact hC.2.2
  have hi4 : I 4 5 = nI kk := by rw [hkk]; exact hW.2.2
  have hVo : f_Vok V kk := by rw [hV, hkk]; exact v_w_ok
  have hsm := zSame hP hO.1
  have hbd := zBd (m := z0) (u := u) hP.1 hP.2.2.2.1 hP.2.2.2.2.1 hP.2.2.2.2.2 hO.1
  have hS0 : p_play s0 t u x 0 0 = t 6 0 := hbd.1.1
  refine aw_Met.of okX10_market (Nat.le_of_ble_eq_true rfl) ?_
  show aw_W G mX10_market 0 [.ref 3, .int a1, .int a2] [] (zH n I L c) (0, 0) _
  refine aw_iload_n dX10_market_0 rfl ?_
  refine aw_iconst (v := 2) dX10_market_1 rfl ?_
  refine aw_S0c (As := [_, _]) dX10_market_2 k10_100 rfl rfl (Nat.le_of_ble_eq_true rfl) ⟨⟨Nat.le_of_ble_eq_true rfl, Nat.le_of_ble_eq_true rfl⟩, ⟨Nat.le_of_ble_eq_true rfl, Nat.le_of_ble_eq_true rfl⟩⟩ ⟨rfl, rfl⟩ (w_within G a2 (b := 2) (by omega)) (fun v h2 hq => ?_)
  obtain ⟨rfl, rfl⟩ := hq
  refine aw_if_ne_B (tgt := 11) dX10_market_5 (by decide) (fun c5 => ?_) (fun c5 => ?_)
  · obtain ⟨p2, hp2, rfl⟩ := zok_ex c5
    refine aw_aload_n dX10_market_11 rfl ?_
    refine aw_getR dX10_market_12 f10_85 rfl ⟨Nat.le_of_ble_eq_true rfl, Nat.le_of_ble_eq_true rfl⟩ rfl rfl ?_
    refine aw_iload_n dX10_market_15 rfl ?_
    refine aw_iload_n dX10_market_16 rfl ?_
    refine aw_if_ne_n (a := p2) (tgt := 24) dX10_market_17 (by decide) (by omega) (fun c17 => ?_) (fun c17 => ?_)
    · refine aw_iconst (v := 4) dX10_market_24 rfl ?_
      refine aw_V0c (As := [_, _]) dX10_market_25 k10_246 rfl rfl rfl ⟨Nat.le_of_ble_eq_true rfl, Nat.le_of_ble_eq_true rfl⟩ (Nat.le_of_ble_eq_true rfl) ⟨⟨Nat.le_of_ble_eq_true rfl, Nat.le_of_ble_eq_true rfl⟩, ⟨Nat.le_of_ble_eq_true rfl, Nat.le_of_ble_eq_true rfl⟩⟩ ⟨rfl, rfl⟩ (w_drawn G hF hD (sd := a1) (a := 4) (by decide)) (fun v h2 hq => ?_)
      obtain ⟨rfl, I2, rfl, t3, s3, hD3⟩ := hq
      refine aw_reti dX10_market_28 rfl rfl ⟨Nat.le_of_ble_eq_true rfl, Nat.le_of_ble_eq_true rfl⟩ ?_
      exact ⟨by rw [if_pos c5, zt_nI (show p2 < 2147483648 by omega), if_neg c17], _, _, _, rfl, hI.dy hD3, hD3.fr⟩
    · refine aw_iconst (v := 2) dX10_market_20 rfl ?_
      refine aw_goto (tgt := 25) dX10_market_21 (by decide) ?_
      refine aw_V0c (As := [_, _]) dX10_market_25 k10_246 rfl rfl rfl ⟨Nat.le_of_ble_eq_true rfl, Nat.le_of_ble_eq_true rfl⟩ (Nat.le_of_ble_eq_true rfl) ⟨⟨Nat.le_of_ble_eq_true rfl, Nat.le_of_ble_eq_true rfl⟩, ⟨Nat.le_of_ble_eq_true rfl, Nat.le_of_ble_eq_true rfl⟩⟩ ⟨rfl, rfl⟩ (w_drawn G hF hD (sd := a1) (a := 2) (by decide)) (fun v h2 hq => ?_)
      obtain ⟨rfl, I2, rfl, t3, s3, hD3⟩ := hq
      refine aw_reti dX10_market_28 rfl rfl ⟨Nat.le_of_ble_eq_true rfl, Nat.le_of_ble_eq_true rfl⟩ ?_
      exact ⟨by rw [if_pos c5, zt_nI (show p2 < 2147483648 by omega), if_pos c17], _, _, _, rfl, hI.dy hD3, hD3.fr⟩
  · refine aw_bipush (v := -2) dX10_market_8 (by decide) ?_
    refine aw_reti dX10_market_10 rfl rfl ⟨Nat.le_of_ble_eq_true rfl, Nat.le_of_ble_eq_true rfl⟩ ?_
    refine ⟨by rw [if_neg (fun z => c5 z)], _, _, _, rfl, hI, fun _ _ => rfl⟩
def r_cnt (l : List Int32) (a : Nat) : Int32 := l.getD a 0
theorem c_count0 (G : aw_G) {n c : Nat} {I : Nat → Nat → Int32} {L : Nat → Nat → Int64} {b0 b1 : Nat → Nat} {l0 l1 : Nat} {t u x y V g : Nat → Nat → Nat} {kk : Nat} {F S : Nat → Nat} {E : Nat → Nat → Int32} {fd : Int32} (hX : zTx b0 b1 l0 l1 t u x y V kk) (hI : zCI b0 b1 l0 l1 t u x y g F S E fd I)  : aw_Met G mX10_count [.ref 3, .int 0] (zH n I L c) (fun v h2 => v = some (.int (nI kk)) ∧ ∃ I2 L2 c2, h2 = zH n I2 L2 c2 ∧ zCI b0 b1 l0 l1 t u x y g F S E fd I2 ∧ ∀ o, 81 ≤ o → I2 o = I o) := by
  obtain ⟨hW, hC, hF, ⟨s0, hO, hR⟩, ⟨t2, s2, hD⟩, hG, hS, hfd⟩ := id hI
  obtain ⟨hP, h60, h61, htc, hV, hkk, hx, hy⟩ := id hX
  have h8 := hP.1.1
  have hk10 : kk ≤ 10 := by rw [hkk]; exact q_k_leW hW.1.2.2.2.2
  have hi6 : I 6 5 = nI (t 6 0) := by rw [h60]; exact hC.2.2
  have hi4 : I 4 5 = nI kk := by rw [hkk]; exact hW.2.2
  have hVo : f_Vok V kk := by rw [hV, hkk]; exact v_w_ok
  have hsm := zSame hP hO.1
  have hbd := zBd (m := z0) (u := u) hP.1 hP.2.2.2.1 hP.2.2.2.2.1 hP.2.2.2.2.2 hO.1
  have hS0 : p_play s0 t u x 0 0 = t 6 0 := hbd.1.1
  refine aw_Met.of okX10_count (Nat.le_of_ble_eq_true rfl) ?_
  show aw_W G mX10_count 0 [.ref 3, .int 0] [] (zH n I L c) (0, 0) _
  refine aw_iload_n dX10_count_0 rfl ?_
  refine aw_swIn (off := 51) (tgt := 52) dX10_count_1 (by decide) (by decide) rfl (by decide) ?_
  refine aw_aload_n dX10_count_52 rfl ?_
  refine aw_getR dX10_count_53 f10_18 rfl ⟨Nat.le_of_ble_eq_true rfl, Nat.le_of_ble_eq_true rfl⟩ rfl rfl ?_
  refine aw_getI dX10_count_56 f10_128 rfl ⟨Nat.le_of_ble_eq_true rfl, Nat.le_of_ble_eq_true rfl⟩ rfl ?_
  refine aw_top hi4 ?_
  refine aw_reti dX10_count_59 rfl rfl ⟨Nat.le_of_ble_eq_true rfl, Nat.le_of_ble_eq_true rfl⟩ ?_
  exact ⟨rfl, _, _, _, rfl, hI, fun _ _ => rfl⟩
theorem c_count1 (G : aw_G) {n c : Nat} {I : Nat → Nat → Int32} {L : Nat → Nat → Int64} {b0 b1 : Nat → Nat} {l0 l1 : Nat} {t u x y V g : Nat → Nat → Nat} {kk : Nat} {F S : Nat → Nat} {E : Nat → Nat → Int32} {fd : Int32} (hX : zTx b0 b1 l0 l1 t u x y V kk) (hI : zCI b0 b1 l0 l1 t u x y g F S E fd I)  : aw_Met G mX10_count [.ref 3, .int 1] (zH n I L c) (fun v h2 => v = some (.int (nI (t 6 0))) ∧ ∃ I2 L2 c2, h2 = zH n I2 L2 c2 ∧ zCI b0 b1 l0 l1 t u x y g F S E fd I2 ∧ ∀ o, 81 ≤ o → I2 o = I o) := by
  obtain ⟨hW, hC, hF, ⟨s0, hO, hR⟩, ⟨t2, s2, hD⟩, hG, hS, hfd⟩ := id hI
  obtain ⟨hP, h60, h61, htc, hV, hkk, hx, hy⟩ := id hX
  have h8 := hP.1.1
  have hk10 : kk ≤ 10 := by rw [hkk]; exact q_k_leW hW.1.2.2.2.2
  have hi6 : I 6 5 = nI (t 6 0) := by rw [h60]; exact hC.2.2
  have hi4 : I 4 5 = nI kk := by rw [hkk]; exact hW.2.2
  have hVo : f_Vok V kk := by rw [hV, hkk]; exact v_w_ok
  have hsm := zSame hP hO.1
  have hbd := zBd (m := z0) (u := u) hP.1 hP.2.2.2.1 hP.2.2.2.2.1 hP.2.2.2.2.2 hO.1
  have hS0 : p_play s0 t u x 0 0 = t 6 0 := hbd.1.1
  refine aw_Met.of okX10_count (Nat.le_of_ble_eq_true rfl) ?_
  show aw_W G mX10_count 0 [.ref 3, .int 1] [] (zH n I L c) (0, 0) _
  refine aw_iload_n dX10_count_0 rfl ?_
  refine aw_swIn (off := 59) (tgt := 60) dX10_count_1 (by decide) (by decide) rfl (by decide) ?_
  refine aw_aload_n dX10_count_60 rfl ?_
  refine aw_getR dX10_count_61 f10_25 rfl ⟨Nat.le_of_ble_eq_true rfl, Nat.le_of_ble_eq_true rfl⟩ rfl rfl ?_
  refine aw_getI dX10_count_64 f10_128 rfl ⟨Nat.le_of_ble_eq_true rfl, Nat.le_of_ble_eq_true rfl⟩ rfl ?_
  refine aw_top hi6 ?_
  refine aw_reti dX10_count_67 rfl rfl ⟨Nat.le_of_ble_eq_true rfl, Nat.le_of_ble_eq_true rfl⟩ ?_
  exact ⟨rfl, _, _, _, rfl, hI, fun _ _ => rfl⟩
theorem c_count2 (G : aw_G) {n c : Nat} {I : Nat → Nat → Int32} {L : Nat → Nat → Int64} {b0 b1 : Nat → Nat} {l0 l1 : Nat} {t u x y V g : Nat → Nat → Nat} {kk : Nat} {F S : Nat → Nat} {E : Nat → Nat → Int32} {fd : Int32} (hX : zTx b0 b1 l0 l1 t u x y V kk) (hI : zCI b0 b1 l0 l1 t u x y g F S E fd I)  : aw_Met G mX10_count [.ref 3, .int 2] (zH n I L c) (fun v h2 => v = some (.int (nI l0)) ∧ ∃ I2 L2 c2, h2 = zH n I2 L2 c2 ∧ zCI b0 b1 l0 l1 t u x y g F S E fd I2 ∧ ∀ o, 81 ≤ o → I2 o = I o) := by
  obtain ⟨hW, hC, hF, ⟨s0, hO, hR⟩, ⟨t2, s2, hD⟩, hG, hS, hfd⟩ := id hI
  obtain ⟨hP, h60, h61, htc, hV, hkk, hx, hy⟩ := id hX
  have h8 := hP.1.1
  have hk10 : kk ≤ 10 := by rw [hkk]; exact q_k_leW hW.1.2.2.2.2
  have hi6 : I 6 5 = nI (t 6 0) := by rw [h60]; exact hC.2.2
  have hi4 : I 4 5 = nI kk := by rw [hkk]; exact hW.2.2
  have hVo : f_Vok V kk := by rw [hV, hkk]; exact v_w_ok
  have hsm := zSame hP hO.1
  have hbd := zBd (m := z0) (u := u) hP.1 hP.2.2.2.1 hP.2.2.2.2.1 hP.2.2.2.2.2 hO.1
  have hS0 : p_play s0 t u x 0 0 = t 6 0 := hbd.1.1
  refine aw_Met.of okX10_count (Nat.le_of_ble_eq_true rfl) ?_
  show aw_W G mX10_count 0 [.ref 3, .int 2] [] (zH n I L c) (0, 0) _
  refine aw_iload_n dX10_count_0 rfl ?_
  refine aw_swIn (off := 67) (tgt := 68) dX10_count_1 (by decide) (by decide) rfl (by decide) ?_
  refine aw_aload_n dX10_count_68 rfl ?_
  refine aw_getR dX10_count_69 f10_18 rfl ⟨Nat.le_of_ble_eq_true rfl, Nat.le_of_ble_eq_true rfl⟩ rfl rfl ?_
  refine aw_getI dX10_count_72 f10_119 rfl ⟨Nat.le_of_ble_eq_true rfl, Nat.le_of_ble_eq_true rfl⟩ rfl ?_
  refine aw_top hW.1.2.2.1 ?_
  refine aw_reti dX10_count_75 rfl rfl ⟨Nat.le_of_ble_eq_true rfl, Nat.le_of_ble_eq_true rfl⟩ ?_
  exact ⟨rfl, _, _, _, rfl, hI, fun _ _ => rfl⟩
theorem c_count3 (G : aw_G) {n c : Nat} {I : Nat → Nat → Int32} {L : Nat → Nat → Int64} {b0 b1 : Nat → Nat} {l0 l1 : Nat} {t u x y V g : Nat → Nat → Nat} {kk : Nat} {F S : Nat → Nat} {E : Nat → Nat → Int32} {fd : Int32} (hX : zTx b0 b1 l0 l1 t u x y V kk) (hI : zCI b0 b1 l0 l1 t u x y g F S E fd I)  : aw_Met G mX10_count [.ref 3, .int 3] (zH n I L c) (fun v h2 => v = some (.int (nI l1)) ∧ ∃ I2 L2 c2, h2 = zH n I2 L2 c2 ∧ zCI b0 b1 l0 l1 t u x y g F S E fd I2 ∧ ∀ o, 81 ≤ o → I2 o = I o) := by
  obtain ⟨hW, hC, hF, ⟨s0, hO, hR⟩, ⟨t2, s2, hD⟩, hG, hS, hfd⟩ := id hI
  obtain ⟨hP, h60, h61, htc, hV, hkk, hx, hy⟩ := id hX
  have h8 := hP.1.1
  have hk10 : kk ≤ 10 := by rw [hkk]; exact q_k_leW hW.1.2.2.2.2
  have hi6 : I 6 5 = nI (t 6 0) := by rw [h60]; exact hC.2.2
  have hi4 : I 4 5 = nI kk := by rw [hkk]; exact hW.2.2
  have hVo : f_Vok V kk := by rw [hV, hkk]; exact v_w_ok
  have hsm := zSame hP hO.1
  have hbd := zBd (m := z0) (u := u) hP.1 hP.2.2.2.1 hP.2.2.2.2.1 hP.2.2.2.2.2 hO.1
  have hS0 : p_play s0 t u x 0 0 = t 6 0 := hbd.1.1
  refine aw_Met.of okX10_count (Nat.le_of_ble_eq_true rfl) ?_
  show aw_W G mX10_count 0 [.ref 3, .int 3] [] (zH n I L c) (0, 0) _
  refine aw_iload_n dX10_count_0 rfl ?_
  refine aw_swIn (off := 75) (tgt := 76) dX10_count_1 (by decide) (by decide) rfl (by decide) ?_
  refine aw_aload_n dX10_count_76 rfl ?_
  refine aw_getR dX10_count_77 f10_25 rfl ⟨Nat.le_of_ble_eq_true rfl, Nat.le_of_ble_eq_true rfl⟩ rfl rfl ?_
  refine aw_getI dX10_count_80 f10_119 rfl ⟨Nat.le_of_ble_eq_true rfl, Nat.le_of_ble_eq_true rfl⟩ rfl ?_
  refine aw_top hC.1.2.2.1 ?_
  refine aw_reti dX10_count_83 rfl rfl ⟨Nat.le_of_ble_eq_true rfl, Nat.le_of_ble_eq_true rfl⟩ ?_
  exact ⟨rfl, _, _, _, rfl, hI, fun _ _ => rfl⟩
theorem c_count4 (G : aw_G) {n c : Nat} {I : Nat → Nat → Int32} {L : Nat → Nat → Int64} {b0 b1 : Nat → Nat} {l0 l1 : Nat} {t u x y V g : Nat → Nat → Nat} {kk : Nat} {F S : Nat → Nat} {E : Nat → Nat → Int32} {fd : Int32} (hX : zTx b0 b1 l0 l1 t u x y V kk) (hI : zCI b0 b1 l0 l1 t u x y g F S E fd I)  : aw_Met G mX10_count [.ref 3, .int 4] (zH n I L c) (fun v h2 => v = some (.int (nI (u 2 0))) ∧ ∃ I2 L2 c2, h2 = zH n I2 L2 c2 ∧ zCI b0 b1 l0 l1 t u x y g F S E fd I2 ∧ ∀ o, 81 ≤ o → I2 o = I o) := by
  obtain ⟨hW, hC, hF, ⟨s0, hO, hR⟩, ⟨t2, s2, hD⟩, hG, hS, hfd⟩ := id hI
  obtain ⟨hP, h60, h61, htc, hV, hkk, hx, hy⟩ := id hX
  have h8 := hP.1.1
  have hk10 : kk ≤ 10 := by rw [hkk]; exact q_k_leW hW.1.2.2.2.2
  have hi6 : I 6 5 = nI (t 6 0) := by rw [h60]; exact hC.2.2
  have hi4 : I 4 5 = nI kk := by rw [hkk]; exact hW.2.2
  have hVo : f_Vok V kk := by rw [hV, hkk]; exact v_w_ok
  have hsm := zSame hP hO.1
  have hbd := zBd (m := z0) (u := u) hP.1 hP.2.2.2.1 hP.2.2.2.2.1 hP.2.2.2.2.2 hO.1
  have hS0 : p_play s0 t u x 0 0 = t 6 0 := hbd.1.1
  refine aw_Met.of okX10_count (Nat.le_of_ble_eq_true rfl) ?_
  show aw_W G mX10_count 0 [.ref 3, .int 4] [] (zH n I L c) (0, 0) _
  refine aw_iload_n dX10_count_0 rfl ?_
  refine aw_swIn (off := 83) (tgt := 84) dX10_count_1 (by decide) (by decide) rfl (by decide) ?_
  refine aw_aload_n dX10_count_84 rfl ?_
  refine aw_getR dX10_count_85 f10_31 rfl ⟨Nat.le_of_ble_eq_true rfl, Nat.le_of_ble_eq_true rfl⟩ rfl rfl ?_
  refine aw_getI dX10_count_88 f10_145 rfl ⟨Nat.le_of_ble_eq_true rfl, Nat.le_of_ble_eq_true rfl⟩ rfl ?_
  refine aw_top hF.2.2.2.1.1 ?_
  refine aw_reti dX10_count_91 rfl rfl ⟨Nat.le_of_ble_eq_true rfl, Nat.le_of_ble_eq_true rfl⟩ ?_
  exact ⟨rfl, _, _, _, rfl, hI, fun _ _ => rfl⟩
theorem c_count5 (G : aw_G) {n c : Nat} {I : Nat → Nat → Int32} {L : Nat → Nat → Int64} {b0 b1 : Nat → Nat} {l0 l1 : Nat} {t u x y V g : Nat → Nat → Nat} {kk : Nat} {F S : Nat → Nat} {E : Nat → Nat → Int32} {fd : Int32} (hX : zTx b0 b1 l0 l1 t u x y V kk) (hI : zCI b0 b1 l0 l1 t u x y g F S E fd I)  : aw_Met G mX10_count [.ref 3, .int 5] (zH n I L c) (fun v h2 => v = some (.int (nI (o_cm x u t))) ∧ ∃ I2 L2 c2, h2 = zH n I2 L2 c2 ∧ zCI b0 b1 l0 l1 t u x y g F S E fd I2 ∧ ∀ o, 81 ≤ o → I2 o = I o) := by
  obtain ⟨hW, hC, hF, ⟨s0, hO, hR⟩, ⟨t2, s2, hD⟩, hG, hS, hfd⟩ := id hI
  obtain ⟨hP, h60, h61, htc, hV, hkk, hx, hy⟩ := id hX
  have h8 := hP.1.1
  have hk10 : kk ≤ 10 := by rw [hkk]; exact q_k_leW hW.1.2.2.2.2
  have hi6 : I 6 5 = nI (t 6 0) := by rw [h60]; exact hC.2.2
  have hi4 : I 4 5 = nI kk := by rw [hkk]; exact hW.2.2
  have hVo : f_Vok V kk := by rw [hV, hkk]; exact v_w_ok
  have hsm := zSame hP hO.1
  have hbd := zBd (m := z0) (u := u) hP.1 hP.2.2.2.1 hP.2.2.2.2.1 hP.2.2.2.2.2 hO.1
  have hS0 : p_play s0 t u x 0 0 = t 6 0 := hbd.1.1
  refine aw_Met.of okX10_count (Nat.le_of_ble_eq_true rfl) ?_
  show aw_W G mX10_count 0 [.ref 3, .int 5] [] (zH n I L c) (0, 0) _
  refine aw_iload_n dX10_count_0 rfl ?_
  refine aw_swIn (off := 91) (tgt := 92) dX10_count_1 (by decide) (by decide) rfl (by decide) ?_
  refine aw_aload_n dX10_count_92 rfl ?_
  refine aw_getR dX10_count_93 f10_58 rfl ⟨Nat.le_of_ble_eq_true rfl, Nat.le_of_ble_eq_true rfl⟩ rfl rfl ?_
  refine aw_iconst (v := 2) dX10_count_96 rfl ?_
  refine aw_V0c (As := [_]) dX10_count_97 k10_279 rfl rfl rfl ⟨Nat.le_of_ble_eq_true rfl, Nat.le_of_ble_eq_true rfl⟩ (Nat.le_of_ble_eq_true rfl) ⟨⟨Nat.le_of_ble_eq_true rfl, Nat.le_of_ble_eq_true rfl⟩, ⟨Nat.le_of_ble_eq_true rfl, Nat.le_of_ble_eq_true rfl⟩⟩ ⟨rfl, rfl⟩ (w_howMany22 G hR (a := 2) (by omega) (by rw [hS0]; exact h8) (fun k hk => by rw [hS0] at hk; have := (hbd.2 k hk).1; omega)) (fun v h2 hq => ?_)
  obtain ⟨rfl, rfl⟩ := hq
  have hw : z_who (fun k => p_play s0 t u x 6 k == 2) (p_play s0 t u x 0 0) = o_who x u t 2 := by
    rw [hS0]; exact z_who_congr (fun j hj => by rw [(hsm.1 j hj).1])
  rw [hw]
  refine aw_reti dX10_count_100 rfl rfl ⟨Nat.le_of_ble_eq_true rfl, Nat.le_of_ble_eq_true rfl⟩ ?_
  exact ⟨rfl, _, _, _, rfl, hI, fun _ _ => rfl⟩
theorem c_count6 (G : aw_G) {n c : Nat} {I : Nat → Nat → Int32} {L : Nat → Nat → Int64} {b0 b1 : Nat → Nat} {l0 l1 : Nat} {t u x y V g : Nat → Nat → Nat} {kk : Nat} {F S : Nat → Nat} {E : Nat → Nat → Int32} {fd : Int32} (hX : zTx b0 b1 l0 l1 t u x y V kk) (hI : zCI b0 b1 l0 l1 t u x y g F S E fd I)  : aw_Met G mX10_count [.ref 3, .int 6] (zH n I L c) (fun v h2 => v = some (.int (nI (z_sum (p_play z0 t u x 4) 8))) ∧ ∃ I2 L2 c2, h2 = zH n I2 L2 c2 ∧ zCI b0 b1 l0 l1 t u x y g F S E fd I2 ∧ ∀ o, 81 ≤ o → I2 o = I o) := by
  obtain ⟨hW, hC, hF, ⟨s0, hO, hR⟩, ⟨t2, s2, hD⟩, hG, hS, hfd⟩ := id hI
  obtain ⟨hP, h60, h61, htc, hV, hkk, hx, hy⟩ := id hX
  have h8 := hP.1.1
  have hk10 : kk ≤ 10 := by rw [hkk]; exact q_k_leW hW.1.2.2.2.2
  have hi6 : I 6 5 = nI (t 6 0) := by rw [h60]; exact hC.2.2
  have hi4 : I 4 5 = nI kk := by rw [hkk]; exact hW.2.2
  have hVo : f_Vok V kk := by rw [hV, hkk]; exact v_w_ok
  have hsm := zSame hP hO.1
  have hbd := zBd (m := z0) (u := u) hP.1 hP.2.2.2.1 hP.2.2.2.2.1 hP.2.2.2.2.2 hO.1
  have hS0 : p_play s0 t u x 0 0 = t 6 0 := hbd.1.1
  refine aw_Met.of okX10_count (Nat.le_of_ble_eq_true rfl) ?_
  show aw_W G mX10_count 0 [.ref 3, .int 6] [] (zH n I L c) (0, 0) _
  refine aw_iload_n dX10_count_0 rfl ?_
  refine aw_swIn (off := 100) (tgt := 101) dX10_count_1 (by decide) (by decide) rfl (by decide) ?_
  refine aw_aload_n dX10_count_101 rfl ?_
  refine aw_getR dX10_count_102 f10_58 rfl ⟨Nat.le_of_ble_eq_true rfl, Nat.le_of_ble_eq_true rfl⟩ rfl rfl ?_
  refine aw_V0c (As := []) dX10_count_105 k10_282 rfl rfl rfl ⟨Nat.le_of_ble_eq_true rfl, Nat.le_of_ble_eq_true rfl⟩ (Nat.le_of_ble_eq_true rfl) ⟨⟨Nat.le_of_ble_eq_true rfl, Nat.le_of_ble_eq_true rfl⟩, ⟨Nat.le_of_ble_eq_true rfl, Nat.le_of_ble_eq_true rfl⟩⟩ ⟨rfl, rfl⟩ (w_allArr G hR) (fun v h2 hq => ?_)
  obtain ⟨rfl, rfl⟩ := hq
  rw [z_sum_congr (fun j hj => hsm.2.1 j hj)]
  refine aw_reti dX10_count_108 rfl rfl ⟨Nat.le_of_ble_eq_true rfl, Nat.le_of_ble_eq_true rfl⟩ ?_
  exact ⟨rfl, _, _, _, rfl, hI, fun _ _ => rfl⟩
theorem c_count7 (G : aw_G) {n c : Nat} {I : Nat → Nat → Int32} {L : Nat → Nat → Int64} {b0 b1 : Nat → Nat} {l0 l1 : Nat} {t u x y V g : Nat → Nat → Nat} {kk : Nat} {F S : Nat → Nat} {E : Nat → Nat → Int32} {fd : Int32} (hX : zTx b0 b1 l0 l1 t u x y V kk) (hI : zCI b0 b1 l0 l1 t u x y g F S E fd I)  : aw_Met G mX10_count [.ref 3, .int 7] (zH n I L c) (fun v h2 => v = some (.int (nI (g 3 0))) ∧ ∃ I2 L2 c2, h2 = zH n I2 L2 c2 ∧ zCI b0 b1 l0 l1 t u x y g F S E fd I2 ∧ ∀ o, 81 ≤ o → I2 o = I o) := by
  obtain ⟨hW, hC, hF, ⟨s0, hO, hR⟩, ⟨t2, s2, hD⟩, hG, hS, hfd⟩ := id hI
  obtain ⟨hP, h60, h61, htc, hV, hkk, hx, hy⟩ := id hX
  have h8 := hP.1.1
  have hk10 : kk ≤ 10 := by rw [hkk]; exact q_k_leW hW.1.2.2.2.2
  have hi6 : I 6 5 = nI (t 6 0) := by rw [h60]; exact hC.2.2
  have hi4 : I 4 5 = nI kk := by rw [hkk]; exact hW.2.2
  have hVo : f_Vok V kk := by rw [hV, hkk]; exact v_w_ok
  have hsm := zSame hP hO.1
  have hbd := zBd (m := z0) (u := u) hP.1 hP.2.2.2.1 hP.2.2.2.2.1 hP.2.2.2.2.2 hO.1
  have hS0 : p_play s0 t u x 0 0 = t 6 0 := hbd.1.1
  refine aw_Met.of okX10_count (Nat.le_of_ble_eq_true rfl) ?_
  show aw_W G mX10_count 0 [.ref 3, .int 7] [] (zH n I L c) (0, 0) _
  refine aw_iload_n dX10_count_0 rfl ?_
  refine aw_swIn (off := 108) (tgt := 109) dX10_count_1 (by decide) (by decide) rfl (by decide) ?_
  refine aw_aload_n dX10_count_109 rfl ?_
  refine aw_getR dX10_count_110 f10_78 rfl ⟨Nat.le_of_ble_eq_true rfl, Nat.le_of_ble_eq_true rfl⟩ rfl rfl ?_
  refine aw_getI dX10_count_113 f10_206 rfl ⟨Nat.le_of_ble_eq_true rfl, Nat.le_of_ble_eq_true rfl⟩ rfl ?_
  refine aw_top hG.1 ?_
  refine aw_reti dX10_count_116 rfl rfl ⟨Nat.le_of_ble_eq_true rfl, Nat.le_of_ble_eq_true rfl⟩ ?_
  exact ⟨rfl, _, _, _, rfl, hI, fun _ _ => rfl⟩
theorem c_count8 (G : aw_G) {n c : Nat} {I : Nat → Nat → Int32} {L : Nat → Nat → Int64} {b0 b1 : Nat → Nat} {l0 l1 : Nat} {t u x y V g : Nat → Nat → Nat} {kk : Nat} {F S : Nat → Nat} {E : Nat → Nat → Int32} {fd : Int32} (hX : zTx b0 b1 l0 l1 t u x y V kk) (hI : zCI b0 b1 l0 l1 t u x y g F S E fd I)  : aw_Met G mX10_count [.ref 3, .int 8] (zH n I L c) (fun v h2 => v = some (.int (fd)) ∧ ∃ I2 L2 c2, h2 = zH n I2 L2 c2 ∧ zCI b0 b1 l0 l1 t u x y g F S E fd I2 ∧ ∀ o, 81 ≤ o → I2 o = I o) := by
  obtain ⟨hW, hC, hF, ⟨s0, hO, hR⟩, ⟨t2, s2, hD⟩, hG, hS, hfd⟩ := id hI
  obtain ⟨hP, h60, h61, htc, hV, hkk, hx, hy⟩ := id hX
  have h8 := hP.1.1
  have hk10 : kk ≤ 10 := by rw [hkk]; exact q_k_leW hW.1.2.2.2.2
  have hi6 : I 6 5 = nI (t 6 0) := by rw [h60]; exact hC.2.2
  have hi4 : I 4 5 = nI kk := by rw [hkk]; exact hW.2.2
  have hVo : f_Vok V kk := by rw [hV, hkk]; exact v_w_ok
  have hsm := zSame hP hO.1
  have hbd := zBd (m := z0) (u := u) hP.1 hP.2.2.2.1 hP.2.2.2.2.1 hP.2.2.2.2.2 hO.1
  have hS0 : p_play s0 t u x 0 0 = t 6 0 := hbd.1.1
  refine aw_Met.of okX10_count (Nat.le_of_ble_eq_true rfl) ?_
  show aw_W G mX10_count 0 [.ref 3, .int 8] [] (zH n I L c) (0, 0) _
  refine aw_iload_n dX10_count_0 rfl ?_
  refine aw_swIn (off := 116) (tgt := 117) dX10_count_1 (by decide) (by decide) rfl (by decide) ?_
  refine aw_aload_n dX10_count_117 rfl ?_
  refine aw_getI dX10_count_118 f10_96 rfl ⟨Nat.le_of_ble_eq_true rfl, Nat.le_of_ble_eq_true rfl⟩ rfl ?_
  refine aw_top hfd ?_
  refine aw_reti dX10_count_121 rfl rfl ⟨Nat.le_of_ble_eq_true rfl, Nat.le_of_ble_eq_true rfl⟩ ?_
  exact ⟨rfl, _, _, _, rfl, hI, fun _ _ => rfl⟩
theorem c_countB (G : aw_G) {n c : Nat} {I : Nat → Nat → Int32} {L : Nat → Nat → Int64} {b0 b1 : Nat → Nat} {l0 l1 : Nat} {t u x y V g : Nat → Nat → Nat} {kk : Nat} {F S : Nat → Nat} {E : Nat → Nat → Int32} {fd : Int32} (hX : zTx b0 b1 l0 l1 t u x y V kk) (hI : zCI b0 b1 l0 l1 t u x y g F S E fd I) {a1 : Int32} (hz : ¬ zok a1 9) : aw_Met G mX10_count [.ref 3, .int a1] (zH n I L c) (fun v h2 => v = some (.int (-2)) ∧ ∃ I2 L2 c2, h2 = zH n I2 L2 c2 ∧ zCI b0 b1 l0 l1 t u x y g F S E fd I2 ∧ ∀ o, 81 ≤ o → I2 o = I o) := by
  obtain ⟨hW, hC, hF, ⟨s0, hO, hR⟩, ⟨t2, s2, hD⟩, hG, hS, hfd⟩ := id hI
  obtain ⟨hP, h60, h61, htc, hV, hkk, hx, hy⟩ := id hX
  have h8 := hP.1.1
  have hk10 : kk ≤ 10 := by rw [hkk]; exact q_k_leW hW.1.2.2.2.2
  have hi6 : I 6 5 = nI (t 6 0) := by rw [h60]; exact hC.2.2
  have hi4 : I 4 5 = nI kk := by rw [hkk]; exact hW.2.2
  have hVo : f_Vok V kk := by rw [hV, hkk]; exact v_w_ok
  have hsm := zSame hP hO.1
  have hbd := zBd (m := z0) (u := u) hP.1 hP.2.2.2.1 hP.2.2.2.2.1 hP.2.2.2.2.2 hO.1
  have hS0 : p_play s0 t u x 0 0 = t 6 0 := hbd.1.1
  refine aw_Met.of okX10_count (Nat.le_of_ble_eq_true rfl) ?_
  show aw_W G mX10_count 0 [.ref 3, .int a1] [] (zH n I L c) (0, 0) _
  refine aw_iload_n dX10_count_0 rfl ?_
  refine aw_swOut (tgt := 122) dX10_count_1 (by by_cases h0 : a1.toInt < 0; exact Or.inl h0; exact Or.inr (by have hz : ¬ (0 ≤ a1.toInt ∧ a1.toInt < 9) := hz; omega)) (by decide) ?_
  refine aw_bipush (v := -2) dX10_count_122 (by decide) ?_
  refine aw_reti dX10_count_124 rfl rfl ⟨Nat.le_of_ble_eq_true rfl, Nat.le_of_ble_eq_true rfl⟩ ?_
  exact ⟨rfl, _, _, _, rfl, hI, fun _ _ => rfl⟩
theorem c_count (G : aw_G) {n c : Nat} {I : Nat → Nat → Int32} {L : Nat → Nat → Int64} {b0 b1 : Nat → Nat} {l0 l1 : Nat} {t u x y V g : Nat → Nat → Nat} {kk : Nat} {F S : Nat → Nat} {E : Nat → Nat → Int32} {fd : Int32} (hX : zTx b0 b1 l0 l1 t u x y V kk) (hI : zCI b0 b1 l0 l1 t u x y g F S E fd I) {a1 : Int32} : aw_Met G mX10_count [.ref 3, .int a1] (zH n I L c) (fun v h2 => v = some (.int (if zok a1 9 then r_cnt [nI kk, nI (t 6 0), nI l0, nI l1, nI (u 2 0), nI (o_cm x u t), nI (z_sum (p_play z0 t u x 4) 8), nI (g 3 0), fd] (zt a1) else -2)) ∧ ∃ I2 L2 c2, h2 = zH n I2 L2 c2 ∧ zCI b0 b1 l0 l1 t u x y g F S E fd I2 ∧ ∀ o, 81 ≤ o → I2 o = I o) := by
  by_cases h : zok a1 9
  · obtain ⟨p, hp, rfl⟩ := zok_ex h
    rw [if_pos h, zt_nI (show p < 2147483648 by omega)]
    have h' : p = 0 ∨ p = 1 ∨ p = 2 ∨ p = 3 ∨ p = 4 ∨ p = 5 ∨ p = 6 ∨ p = 7 ∨ p = 8 := by omega
    rcases h' with rfl | rfl | rfl | rfl | rfl | rfl | rfl | rfl | rfl
    · exact c_count0 G hX hI
    · exact c_count1 G hX hI
    · exact c_count2 G hX hI
    · exact c_count3 G hX hI
    · exact c_count4 G hX hI
    · exact c_count5 G hX hI
    · exact c_count6 G hX hI
    · exact c_count7 G hX hI
    · exact c_count8 G hX hI
  · rw [if_neg h]; exact c_countB G hX hI h
theorem zShM.mv {F S : Nat → Nat} {E I I2 : Nat → Nat → Int32} (h : zShM F S E I) (h1 : I2 82 = I 82) (h2 : I2 83 = I 83) (h3 : I2 84 = I 84) : zShM F S E I2 := fun s hs => by
  rw [h1, h2, h3]; exact h s hs
section ZMI
variable {b0 b1 : Nat → Nat} {l0 l1 : Nat} {t u x y V g m : Nat → Nat → Nat} {kk : Nat} {F S : Nat → Nat} {E : Nat → Nat → Int32} {fd : Int32} {I I2 : Nat → Nat → Int32}
theorem zMI.my (h : zMI b0 b1 l0 l1 t u g F S E fd I) (hM : zMy V kk t u y m I I2) : zMI b0 b1 l0 l1 t u g F S E fd I2 := by
  obtain ⟨⟨h1, -, -, -, h5, -⟩, h7, h8⟩ := h
  have hF := hM.2.2.2.2.2.2.2
  have hr : ∀ o, o < 88 → o ≠ 81 → I2 o = I o := fun o a b => hF.1 o b (by omega) (by omega) (by omega) (by omega) (by omega)
  exact ⟨⟨h1.fm hF, hM.2.2.2.2.2.2.1, hM.2.2.1, hM.2.1.2.2.2, h5.mv hF, m, hM.2.2.2.2.1, hM.2.2.2.2.2.1⟩, h7.mv (hr 82 (by decide) (by decide)) (hr 83 (by decide) (by decide)) (hr 84 (by decide) (by decide)), by rw [hF.2 4 (by decide) (by decide) (by decide) (by decide) (by decide) (by decide)]; exact h8⟩
theorem zMy.fr (hM : zMy V kk t u y m I I2) : ∀ o, o < 81 → I2 o = I o := fun o ho => hM.2.2.2.2.2.2.2.1 o (by omega) (by omega) (by omega) (by omega) (by omega) (by omega)
theorem zMI.f1 {o f : Nat} (h : zMI b0 b1 l0 l1 t u g F S E fd I) (hF : zFr1 o f I I2) (ho : (o = 88 ∧ f = 7) ∨ (o = 89 ∧ f = 9)) : zMI b0 b1 l0 l1 t u g F S E fd I2 := by
  obtain ⟨⟨h1, h2, h3, h4, h5, m, hm, hmo⟩, h7, h8⟩ := h
  have hr : ∀ a, a ≠ 88 → a ≠ 89 → a ≠ 81 → I2 a = I a := fun a x y z => hF.1 a (by omega) z
  have hf : ∀ j, j ≠ 7 → j ≠ 9 → I2 81 j = I 81 j := fun j x y => hF.2 j (by omega)
  have hFm : zFm I I2 := ⟨fun a a1 a2 a3 _ _ _ => hr a a2 a3 a1, fun j a1 a2 _ _ _ _ => hf j a1 a2⟩
  exact ⟨⟨h1.fm hFm, fun k hk => by rw [hr 90 (by decide) (by decide) (by decide)]; exact h2 k hk, ⟨by rw [hf 12 (by decide) (by decide)]; exact h3.1, fun a ha => by rw [hr 91 (by decide) (by decide) (by decide)]; exact h3.2 a ha⟩, by rw [hf 14 (by decide) (by decide)]; exact h4, h5.mv hFm, m, hm.mv2 (fun i hi => hr _ (by omega) (by omega) (by omega)) (hf 26 (by decide) (by decide)) (hf 27 (by decide) (by decide)), hmo⟩, h7.mv (hr 82 (by decide) (by decide) (by decide)) (hr 83 (by decide) (by decide) (by decide)) (hr 84 (by decide) (by decide) (by decide)), by rw [hf 4 (by decide) (by decide)]; exact h8⟩
theorem zFr1.fr {o f : Nat} (hF : zFr1 o f I I2) (ho : 81 ≤ o) : ∀ a, a < 81 → I2 a = I a := fun a ha => hF.1 a (by omega) (by omega)
end ZMI
theorem w_in25 (G : aw_G) {h : aw_H} (x : Int32) : aw_Met G mX11_in [.long x.toInt64, .long 2, .long 5] h (fun v h2 => v = some (.int (if 2 ≤ x.toInt ∧ x.toInt ≤ 5 then 1 else 0)) ∧ h2 = h) := by
  have := w_in0 G (h := h) x.toInt64 2 5
  rw [Int32.toInt_toInt64] at this
  exact this
theorem m_readsText0 (G : aw_G) {n c : Nat} {I : Nat → Nat → Int32} {L : Nat → Nat → Int64} {b0 b1 : Nat → Nat} {l0 l1 : Nat} {t u x y V g : Nat → Nat → Nat} {kk : Nat} {F S : Nat → Nat} {E : Nat → Nat → Int32} {fd : Int32} (hX : zTx b0 b1 l0 l1 t u x y V kk) (hI : zMI b0 b1 l0 l1 t u g F S E fd I)  : aw_Met G mX11_readsText [.ref 81, .int 0] (zH n I L c) (fun v h2 => v = some (.int (nI (q_f (q_w b0) 5 l0) - 1)) ∧ ∃ I2, h2 = zH n I2 L c ∧ zMI b0 b1 l0 l1 t u g F S E fd I2 ∧ ∀ o, o < 81 → I2 o = I o) := by
  obtain ⟨hP, h60, h61, htc, hV, hkk, hx, hy⟩ := id hX
  have h8 := hP.1.1
  have hB := hI.1.1
  have hk10 : kk ≤ 10 := by rw [hkk]; exact q_k_leW hB.2.2.2.2.1
  have hVo : f_Vok V kk := by rw [hV, hkk]; exact v_w_ok
  refine aw_Met.of okX11_readsText (Nat.le_of_ble_eq_true rfl) ?_
  show aw_W G mX11_readsText 0 [.ref 81, .int 0] [] (zH n I L c) (0, 0) _
  refine aw_iload_n dX11_readsText_0 rfl ?_
  refine aw_if_ne (tgt := 11) dX11_readsText_1 (by decide) (fun z => absurd (by decide) z) (fun _ => ?_)
  refine aw_aload_n dX11_readsText_4 rfl ?_
  refine aw_V0c (As := []) dX11_readsText_5 k11_139 rfl rfl rfl ⟨Nat.le_of_ble_eq_true rfl, Nat.le_of_ble_eq_true rfl⟩ (Nat.le_of_ble_eq_true rfl) ⟨⟨Nat.le_of_ble_eq_true rfl, Nat.le_of_ble_eq_true rfl⟩, ⟨Nat.le_of_ble_eq_true rfl, Nat.le_of_ble_eq_true rfl⟩⟩ ⟨rfl, rfl⟩ (w_readsWays G hB) (fun v h2 hq => ?_)
  obtain ⟨rfl, I2, rfl, hW2, hF2⟩ := hq
  refine aw_goto (tgt := 15) dX11_readsText_8 (by decide) ?_
  refine aw_reti dX11_readsText_15 rfl rfl ⟨Nat.le_of_ble_eq_true rfl, Nat.le_of_ble_eq_true rfl⟩ ?_
  exact ⟨rfl, _, rfl, hI.f1 hF2 (by decide), hF2.fr (by decide)⟩
theorem m_fault0 (G : aw_G) {n c : Nat} {I : Nat → Nat → Int32} {L : Nat → Nat → Int64} {b0 b1 : Nat → Nat} {l0 l1 : Nat} {t u x y V g : Nat → Nat → Nat} {kk : Nat} {F S : Nat → Nat} {E : Nat → Nat → Int32} {fd : Int32} (hX : zTx b0 b1 l0 l1 t u x y V kk) (hI : zMI b0 b1 l0 l1 t u g F S E fd I)  : aw_Met G mX11_fault [.ref 81, .int 0] (zH n I L c) (fun v h2 => v = some (.int (nI (q_f (q_w b0) 5 l0) - 1)) ∧ ∃ I2, h2 = zH n I2 L c ∧ zMI b0 b1 l0 l1 t u g F S E fd I2 ∧ ∀ o, o < 81 → I2 o = I o) := by
  obtain ⟨hP, h60, h61, htc, hV, hkk, hx, hy⟩ := id hX
  have h8 := hP.1.1
  have hB := hI.1.1
  have hk10 : kk ≤ 10 := by rw [hkk]; exact q_k_leW hB.2.2.2.2.1
  have hVo : f_Vok V kk := by rw [hV, hkk]; exact v_w_ok
  refine aw_Met.of okX11_fault (Nat.le_of_ble_eq_true rfl) ?_
  show aw_W G mX11_fault 0 [.ref 81, .int 0] [] (zH n I L c) (0, 0) _
  refine aw_iload_n dX11_fault_0 rfl ?_
  refine aw_S0c (As := [_]) dX11_fault_1 k11_110 rfl rfl (Nat.le_of_ble_eq_true rfl) ⟨⟨Nat.le_of_ble_eq_true rfl, Nat.le_of_ble_eq_true rfl⟩, ⟨Nat.le_of_ble_eq_true rfl, Nat.le_of_ble_eq_true rfl⟩⟩ ⟨rfl, rfl⟩ (w_isTwo G 0) (fun v h2 hq => ?_)
  obtain ⟨rfl, rfl⟩ := hq
  refine aw_if_eq_B (tgt := 15) dX11_fault_4 (by decide) (fun z => absurd z (fun q => q (by decide))) (fun c4 => ?_)
  refine aw_aload_n dX11_fault_7 rfl ?_
  refine aw_iload_n dX11_fault_8 rfl ?_
  refine aw_V0c (As := [_]) dX11_fault_9 k11_146 rfl rfl rfl ⟨Nat.le_of_ble_eq_true rfl, Nat.le_of_ble_eq_true rfl⟩ (Nat.le_of_ble_eq_true rfl) ⟨⟨Nat.le_of_ble_eq_true rfl, Nat.le_of_ble_eq_true rfl⟩, ⟨Nat.le_of_ble_eq_true rfl, Nat.le_of_ble_eq_true rfl⟩⟩ ⟨rfl, rfl⟩ (m_readsText0 G hX hI) (fun v h2 hq => ?_)
  obtain ⟨rfl, I2, rfl, hI2, hFr⟩ := hq
  refine aw_goto (tgt := 17) dX11_fault_12 (by decide) ?_
  refine aw_reti dX11_fault_17 rfl rfl ⟨Nat.le_of_ble_eq_true rfl, Nat.le_of_ble_eq_true rfl⟩ ?_
  exact ⟨rfl, _, rfl, hI2, hFr⟩
theorem m_readsText1 (G : aw_G) {n c : Nat} {I : Nat → Nat → Int32} {L : Nat → Nat → Int64} {b0 b1 : Nat → Nat} {l0 l1 : Nat} {t u x y V g : Nat → Nat → Nat} {kk : Nat} {F S : Nat → Nat} {E : Nat → Nat → Int32} {fd : Int32} (hX : zTx b0 b1 l0 l1 t u x y V kk) (hI : zMI b0 b1 l0 l1 t u g F S E fd I)  : aw_Met G mX11_readsText [.ref 81, .int 1] (zH n I L c) (fun v h2 => v = some (.int (nI (q_f (q_c b1) 7 l1) - 1)) ∧ ∃ I2, h2 = zH n I2 L c ∧ zMI b0 b1 l0 l1 t u g F S E fd I2 ∧ ∀ o, o < 81 → I2 o = I o) := by
  obtain ⟨hP, h60, h61, htc, hV, hkk, hx, hy⟩ := id hX
  have h8 := hP.1.1
  have hB := hI.1.1
  have hk10 : kk ≤ 10 := by rw [hkk]; exact q_k_leW hB.2.2.2.2.1
  have hVo : f_Vok V kk := by rw [hV, hkk]; exact v_w_ok
  refine aw_Met.of okX11_readsText (Nat.le_of_ble_eq_true rfl) ?_
  show aw_W G mX11_readsText 0 [.ref 81, .int 1] [] (zH n I L c) (0, 0) _
  refine aw_iload_n dX11_readsText_0 rfl ?_
  refine aw_if_ne (tgt := 11) dX11_readsText_1 (by decide) (fun _ => ?_) (fun z => absurd z (by decide))
  refine aw_aload_n dX11_readsText_11 rfl ?_
  refine aw_V0c (As := []) dX11_readsText_12 k11_143 rfl rfl rfl ⟨Nat.le_of_ble_eq_true rfl, Nat.le_of_ble_eq_true rfl⟩ (Nat.le_of_ble_eq_true rfl) ⟨⟨Nat.le_of_ble_eq_true rfl, Nat.le_of_ble_eq_true rfl⟩, ⟨Nat.le_of_ble_eq_true rfl, Nat.le_of_ble_eq_true rfl⟩⟩ ⟨rfl, rfl⟩ (w_readsCarters G hB) (fun v h2 hq => ?_)
  obtain ⟨rfl, I2, rfl, hW2, hF2⟩ := hq
  refine aw_reti dX11_readsText_15 rfl rfl ⟨Nat.le_of_ble_eq_true rfl, Nat.le_of_ble_eq_true rfl⟩ ?_
  exact ⟨rfl, _, rfl, hI.f1 hF2 (by decide), hF2.fr (by decide)⟩
theorem m_fault1 (G : aw_G) {n c : Nat} {I : Nat → Nat → Int32} {L : Nat → Nat → Int64} {b0 b1 : Nat → Nat} {l0 l1 : Nat} {t u x y V g : Nat → Nat → Nat} {kk : Nat} {F S : Nat → Nat} {E : Nat → Nat → Int32} {fd : Int32} (hX : zTx b0 b1 l0 l1 t u x y V kk) (hI : zMI b0 b1 l0 l1 t u g F S E fd I)  : aw_Met G mX11_fault [.ref 81, .int 1] (zH n I L c) (fun v h2 => v = some (.int (nI (q_f (q_c b1) 7 l1) - 1)) ∧ ∃ I2, h2 = zH n I2 L c ∧ zMI b0 b1 l0 l1 t u g F S E fd I2 ∧ ∀ o, o < 81 → I2 o = I o) := by
  obtain ⟨hP, h60, h61, htc, hV, hkk, hx, hy⟩ := id hX
  have h8 := hP.1.1
  have hB := hI.1.1
  have hk10 : kk ≤ 10 := by rw [hkk]; exact q_k_leW hB.2.2.2.2.1
  have hVo : f_Vok V kk := by rw [hV, hkk]; exact v_w_ok
  refine aw_Met.of okX11_fault (Nat.le_of_ble_eq_true rfl) ?_
  show aw_W G mX11_fault 0 [.ref 81, .int 1] [] (zH n I L c) (0, 0) _
  refine aw_iload_n dX11_fault_0 rfl ?_
  refine aw_S0c (As := [_]) dX11_fault_1 k11_110 rfl rfl (Nat.le_of_ble_eq_true rfl) ⟨⟨Nat.le_of_ble_eq_true rfl, Nat.le_of_ble_eq_true rfl⟩, ⟨Nat.le_of_ble_eq_true rfl, Nat.le_of_ble_eq_true rfl⟩⟩ ⟨rfl, rfl⟩ (w_isTwo G 1) (fun v h2 hq => ?_)
  obtain ⟨rfl, rfl⟩ := hq
  refine aw_if_eq_B (tgt := 15) dX11_fault_4 (by decide) (fun z => absurd z (fun q => q (by decide))) (fun c4 => ?_)
  refine aw_aload_n dX11_fault_7 rfl ?_
  refine aw_iload_n dX11_fault_8 rfl ?_
  refine aw_V0c (As := [_]) dX11_fault_9 k11_146 rfl rfl rfl ⟨Nat.le_of_ble_eq_true rfl, Nat.le_of_ble_eq_true rfl⟩ (Nat.le_of_ble_eq_true rfl) ⟨⟨Nat.le_of_ble_eq_true rfl, Nat.le_of_ble_eq_true rfl⟩, ⟨Nat.le_of_ble_eq_true rfl, Nat.le_of_ble_eq_true rfl⟩⟩ ⟨rfl, rfl⟩ (m_readsText1 G hX hI) (fun v h2 hq => ?_)
  obtain ⟨rfl, I2, rfl, hI2, hFr⟩ := hq
  refine aw_goto (tgt := 17) dX11_fault_12 (by decide) ?_
  refine aw_reti dX11_fault_17 rfl rfl ⟨Nat.le_of_ble_eq_true rfl, Nat.le_of_ble_eq_true rfl⟩ ?_
  exact ⟨rfl, _, rfl, hI2, hFr⟩
theorem m_faultB (G : aw_G) {n c : Nat} {I : Nat → Nat → Int32} {L : Nat → Nat → Int64} {b0 b1 : Nat → Nat} {l0 l1 : Nat} {t u x y V g : Nat → Nat → Nat} {kk : Nat} {F S : Nat → Nat} {E : Nat → Nat → Int32} {fd : Int32} (hX : zTx b0 b1 l0 l1 t u x y V kk) (hI : zMI b0 b1 l0 l1 t u g F S E fd I) {a1 : Int32} (hz : ¬ zok a1 2) : aw_Met G mX11_fault [.ref 81, .int a1] (zH n I L c) (fun v h2 => v = some (.int (-2)) ∧ ∃ I2, h2 = zH n I2 L c ∧ zMI b0 b1 l0 l1 t u g F S E fd I2 ∧ ∀ o, o < 81 → I2 o = I o) := by
  obtain ⟨hP, h60, h61, htc, hV, hkk, hx, hy⟩ := id hX
  have h8 := hP.1.1
  have hB := hI.1.1
  have hk10 : kk ≤ 10 := by rw [hkk]; exact q_k_leW hB.2.2.2.2.1
  have hVo : f_Vok V kk := by rw [hV, hkk]; exact v_w_ok
  refine aw_Met.of okX11_fault (Nat.le_of_ble_eq_true rfl) ?_
  show aw_W G mX11_fault 0 [.ref 81, .int a1] [] (zH n I L c) (0, 0) _
  refine aw_iload_n dX11_fault_0 rfl ?_
  refine aw_S0c (As := [_]) dX11_fault_1 k11_110 rfl rfl (Nat.le_of_ble_eq_true rfl) ⟨⟨Nat.le_of_ble_eq_true rfl, Nat.le_of_ble_eq_true rfl⟩, ⟨Nat.le_of_ble_eq_true rfl, Nat.le_of_ble_eq_true rfl⟩⟩ ⟨rfl, rfl⟩ (w_isTwo G a1) (fun v h2 hq => ?_)
  obtain ⟨rfl, rfl⟩ := hq
  refine aw_if_eq_B (tgt := 15) dX11_fault_4 (by decide) (fun c4 => ?_) (fun z => absurd z hz)
  refine aw_bipush (v := -2) dX11_fault_15 (by decide) ?_
  refine aw_reti dX11_fault_17 rfl rfl ⟨Nat.le_of_ble_eq_true rfl, Nat.le_of_ble_eq_true rfl⟩ ?_
  exact ⟨rfl, _, rfl, hI, fun _ _ => rfl⟩
theorem m_fault (G : aw_G) {n c : Nat} {I : Nat → Nat → Int32} {L : Nat → Nat → Int64} {b0 b1 : Nat → Nat} {l0 l1 : Nat} {t u x y V g : Nat → Nat → Nat} {kk : Nat} {F S : Nat → Nat} {E : Nat → Nat → Int32} {fd : Int32} (hX : zTx b0 b1 l0 l1 t u x y V kk) (hI : zMI b0 b1 l0 l1 t u g F S E fd I) {a1 : Int32} : aw_Met G mX11_fault [.ref 81, .int a1] (zH n I L c) (fun v h2 => v = some (.int (if zok a1 2 then (if zt a1 = 0 then nI (q_f (q_w b0) 5 l0) - 1 else nI (q_f (q_c b1) 7 l1) - 1) else -2)) ∧ ∃ I2, h2 = zH n I2 L c ∧ zMI b0 b1 l0 l1 t u g F S E fd I2 ∧ ∀ o, o < 81 → I2 o = I o) := by
  by_cases h : zok a1 2
  · obtain ⟨p, hp, rfl⟩ := zok_ex h
    have h' : p = 0 ∨ p = 1 := by omega
    rcases h' with rfl | rfl
    · rw [if_pos h, zt_nI (by decide), if_pos rfl]; exact m_fault0 G hX hI
    · rw [if_pos h, zt_nI (by decide), if_neg (by decide)]; exact m_fault1 G hX hI
  · rw [if_neg h]; exact m_faultB G hX hI h
theorem m_way (G : aw_G) {n c : Nat} {I : Nat → Nat → Int32} {L : Nat → Nat → Int64} {b0 b1 : Nat → Nat} {l0 l1 : Nat} {t u x y V g : Nat → Nat → Nat} {kk : Nat} {F S : Nat → Nat} {E : Nat → Nat → Int32} {fd : Int32} (hX : zTx b0 b1 l0 l1 t u x y V kk) (hI : zMI b0 b1 l0 l1 t u g F S E fd I) {a1 : Int32} {a2 : Int32} : aw_Met G mX11_way [.ref 81, .int a1, .int a2] (zH n I L c) (fun v h2 => v = some (.int (if zok a1 kk ∧ zok a2 4 then nI (V (zt a1) (zt a2)) else -2)) ∧ ∃ I2, h2 = zH n I2 L c ∧ zMI b0 b1 l0 l1 t u g F S E fd I2 ∧ ∀ o, o < 81 → I2 o = I o) := by
  obtain ⟨hP, h60, h61, htc, hV, hkk, hx, hy⟩ := id hX
  have h8 := hP.1.1
  have hB := hI.1.1
  have hk10 : kk ≤ 10 := by rw [hkk]; exact q_k_leW hB.2.2.2.2.1
  have hVo : f_Vok V kk := by rw [hV, hkk]; exact v_w_ok
  refine aw_Met.of okX11_way (Nat.le_of_ble_eq_true rfl) ?_
  show aw_W G mX11_way 0 [.ref 81, .int a1, .int a2] [] (zH n I L c) (0, 0) _
  refine aw_aload_n dX11_way_0 rfl ?_
  refine aw_V0c (As := []) dX11_way_1 k11_139 rfl rfl rfl ⟨Nat.le_of_ble_eq_true rfl, Nat.le_of_ble_eq_true rfl⟩ (Nat.le_of_ble_eq_true rfl) ⟨⟨Nat.le_of_ble_eq_true rfl, Nat.le_of_ble_eq_true rfl⟩, ⟨Nat.le_of_ble_eq_true rfl, Nat.le_of_ble_eq_true rfl⟩⟩ ⟨rfl, rfl⟩ (w_readsWays G hB) (fun v h2 hq => ?_)
  obtain ⟨rfl, I2, rfl, hW2, hF2⟩ := hq
  rw [← hV, ← hkk] at hW2
  refine aw_pop dX11_way_4 rfl ?_
  refine aw_iload_n dX11_way_5 rfl ?_
  refine aw_i2l dX11_way_6 ?_
  refine aw_lconst (v := 0) dX11_way_7 rfl ?_
  refine aw_aload_n dX11_way_8 rfl ?_
  refine aw_getI dX11_way_9 f11_127 rfl ⟨Nat.le_of_ble_eq_true rfl, Nat.le_of_ble_eq_true rfl⟩ rfl ?_
  refine aw_top hW2.1 ?_
  refine aw_iconst (v := 1) dX11_way_12 rfl ?_
  refine aw_isub dX11_way_13 ?_
  refine aw_i2l dX11_way_14 ?_
  refine aw_S0c (As := [_, _, _]) dX11_way_15 k11_81 rfl rfl (Nat.le_of_ble_eq_true rfl) ⟨⟨Nat.le_of_ble_eq_true rfl, Nat.le_of_ble_eq_true rfl⟩, ⟨Nat.le_of_ble_eq_true rfl, Nat.le_of_ble_eq_true rfl⟩⟩ ⟨rfl, rfl⟩ (w_in G a1 (b := kk) rfl (by rw [Int32.toInt_toInt64, zp_toInt (by omega)])) (fun v h2 hq => ?_)
  obtain ⟨rfl, rfl⟩ := hq
  refine aw_if_eq_B (tgt := 46) dX11_way_18 (by decide) (fun c18 => ?_) (fun c18 => ?_)
  · refine aw_bipush (v := -2) dX11_way_46 (by decide) ?_
    refine aw_reti dX11_way_48 rfl rfl ⟨Nat.le_of_ble_eq_true rfl, Nat.le_of_ble_eq_true rfl⟩ ?_
    refine ⟨by rw [if_neg (fun z => c18 z.1)], _, rfl, hI.f1 hF2 (by decide), hF2.fr (by decide)⟩
  · obtain ⟨p1, hp1, rfl⟩ := zok_ex c18
    refine aw_iload_n dX11_way_21 rfl ?_
    refine aw_i2l dX11_way_22 ?_
    refine aw_lconst (v := 0) dX11_way_23 rfl ?_
    refine aw_ldc2 dX11_way_24 co11_89 ?_
    refine aw_S0c (As := [_, _, _]) dX11_way_27 k11_81 rfl rfl (Nat.le_of_ble_eq_true rfl) ⟨⟨Nat.le_of_ble_eq_true rfl, Nat.le_of_ble_eq_true rfl⟩, ⟨Nat.le_of_ble_eq_true rfl, Nat.le_of_ble_eq_true rfl⟩⟩ ⟨rfl, rfl⟩ (w_in G a2 (b := 4) rfl rfl) (fun v h2 hq => ?_)
    obtain ⟨rfl, rfl⟩ := hq
    refine aw_if_eq_B (tgt := 46) dX11_way_30 (by decide) (fun c30 => ?_) (fun c30 => ?_)
    · refine aw_bipush (v := -2) dX11_way_46 (by decide) ?_
      refine aw_reti dX11_way_48 rfl rfl ⟨Nat.le_of_ble_eq_true rfl, Nat.le_of_ble_eq_true rfl⟩ ?_
      refine ⟨by rw [if_neg (fun z => c30 z.2)], _, rfl, hI.f1 hF2 (by decide), hF2.fr (by decide)⟩
    · obtain ⟨p2, hp2, rfl⟩ := zok_ex c30
      refine aw_aload_n dX11_way_33 rfl ?_
      refine aw_getR dX11_way_34 f11_28 rfl ⟨Nat.le_of_ble_eq_true rfl, Nat.le_of_ble_eq_true rfl⟩ rfl rfl ?_
      refine aw_iconst (v := 4) dX11_way_37 rfl ?_
      refine aw_iload_n dX11_way_38 rfl ?_
      refine aw_imul_n (a := 4) (b := p1) dX11_way_39 ?_
      refine aw_iload_n dX11_way_40 rfl ?_
      refine aw_iadd_n (a := 4 * p1) (b := p2) dX11_way_41 ?_
      refine aw_iald_n (j := (4 * p1) + p2) dX11_way_42 rfl (Nat.le_of_ble_eq_true rfl) (by decide) (by omega) ?_
      refine aw_top (show _ = nI (V p1 p2) from hW2.2 p1 p2 hp1 hp2) ?_
      refine aw_goto (tgt := 48) dX11_way_43 (by decide) ?_
      refine aw_reti dX11_way_48 rfl rfl ⟨Nat.le_of_ble_eq_true rfl, Nat.le_of_ble_eq_true rfl⟩ ?_
      exact ⟨by rw [if_pos ⟨c18, c30⟩, zt_nI (show p1 < 2147483648 by omega), zt_nI (show p2 < 2147483648 by omega)], _, rfl, hI.f1 hF2 (by decide), hF2.fr (by decide)⟩
theorem m_carter (G : aw_G) {n c : Nat} {I : Nat → Nat → Int32} {L : Nat → Nat → Int64} {b0 b1 : Nat → Nat} {l0 l1 : Nat} {t u x y V g : Nat → Nat → Nat} {kk : Nat} {F S : Nat → Nat} {E : Nat → Nat → Int32} {fd : Int32} (hX : zTx b0 b1 l0 l1 t u x y V kk) (hI : zMI b0 b1 l0 l1 t u g F S E fd I) {a1 : Int32} {a2 : Int32} : aw_Met G mX11_carter [.ref 81, .int a1, .int a2] (zH n I L c) (fun v h2 => v = some (.int (if zok a1 (t 6 0) ∧ zok a2 5 then nI (t (zt a2) (zt a1)) else -2)) ∧ ∃ I2, h2 = zH n I2 L c ∧ zMI b0 b1 l0 l1 t u g F S E fd I2 ∧ ∀ o, o < 81 → I2 o = I o) := by
  obtain ⟨hP, h60, h61, htc, hV, hkk, hx, hy⟩ := id hX
  have h8 := hP.1.1
  have hB := hI.1.1
  have hk10 : kk ≤ 10 := by rw [hkk]; exact q_k_leW hB.2.2.2.2.1
  have hVo : f_Vok V kk := by rw [hV, hkk]; exact v_w_ok
  refine aw_Met.of okX11_carter (Nat.le_of_ble_eq_true rfl) ?_
  show aw_W G mX11_carter 0 [.ref 81, .int a1, .int a2] [] (zH n I L c) (0, 0) _
  refine aw_aload_n dX11_carter_0 rfl ?_
  refine aw_V0c (As := []) dX11_carter_1 k11_143 rfl rfl rfl ⟨Nat.le_of_ble_eq_true rfl, Nat.le_of_ble_eq_true rfl⟩ (Nat.le_of_ble_eq_true rfl) ⟨⟨Nat.le_of_ble_eq_true rfl, Nat.le_of_ble_eq_true rfl⟩, ⟨Nat.le_of_ble_eq_true rfl, Nat.le_of_ble_eq_true rfl⟩⟩ ⟨rfl, rfl⟩ (w_readsCarters G hB) (fun v h2 hq => ?_)
  obtain ⟨rfl, I2, rfl, hW2, hF2⟩ := hq
  rw [← h60] at hW2
  refine aw_pop dX11_carter_4 rfl ?_
  refine aw_aload_n dX11_carter_5 rfl ?_
  refine aw_iload_n dX11_carter_6 rfl ?_
  refine aw_V0c (As := [_]) dX11_carter_7 k11_153 rfl rfl rfl ⟨Nat.le_of_ble_eq_true rfl, Nat.le_of_ble_eq_true rfl⟩ (Nat.le_of_ble_eq_true rfl) ⟨⟨Nat.le_of_ble_eq_true rfl, Nat.le_of_ble_eq_true rfl⟩, ⟨Nat.le_of_ble_eq_true rfl, Nat.le_of_ble_eq_true rfl⟩⟩ ⟨rfl, rfl⟩ (w_isCarter G a1 (k := t 6 0) hW2.1 h8) (fun v h2 hq => ?_)
  obtain ⟨rfl, rfl⟩ := hq
  refine aw_if_eq_B (tgt := 38) dX11_carter_10 (by decide) (fun c10 => ?_) (fun c10 => ?_)
  · refine aw_bipush (v := -2) dX11_carter_38 (by decide) ?_
    refine aw_reti dX11_carter_40 rfl rfl ⟨Nat.le_of_ble_eq_true rfl, Nat.le_of_ble_eq_true rfl⟩ ?_
    refine ⟨by rw [if_neg (fun z => c10 z.1)], _, rfl, hI.f1 hF2 (by decide), hF2.fr (by decide)⟩
  · obtain ⟨p1, hp1, rfl⟩ := zok_ex c10
    refine aw_iload_n dX11_carter_13 rfl ?_
    refine aw_i2l dX11_carter_14 ?_
    refine aw_lconst (v := 0) dX11_carter_15 rfl ?_
    refine aw_ldc2 dX11_carter_16 co11_156 ?_
    refine aw_S0c (As := [_, _, _]) dX11_carter_19 k11_81 rfl rfl (Nat.le_of_ble_eq_true rfl) ⟨⟨Nat.le_of_ble_eq_true rfl, Nat.le_of_ble_eq_true rfl⟩, ⟨Nat.le_of_ble_eq_true rfl, Nat.le_of_ble_eq_true rfl⟩⟩ ⟨rfl, rfl⟩ (w_in G a2 (b := 5) rfl rfl) (fun v h2 hq => ?_)
    obtain ⟨rfl, rfl⟩ := hq
    refine aw_if_eq_B (tgt := 38) dX11_carter_22 (by decide) (fun c22 => ?_) (fun c22 => ?_)
    · refine aw_bipush (v := -2) dX11_carter_38 (by decide) ?_
      refine aw_reti dX11_carter_40 rfl rfl ⟨Nat.le_of_ble_eq_true rfl, Nat.le_of_ble_eq_true rfl⟩ ?_
      refine ⟨by rw [if_neg (fun z => c22 z.2)], _, rfl, hI.f1 hF2 (by decide), hF2.fr (by decide)⟩
    · obtain ⟨p2, hp2, rfl⟩ := zok_ex c22
      refine aw_aload_n dX11_carter_25 rfl ?_
      refine aw_getR dX11_carter_26 f11_31 rfl ⟨Nat.le_of_ble_eq_true rfl, Nat.le_of_ble_eq_true rfl⟩ rfl rfl ?_
      refine aw_iconst (v := 5) dX11_carter_29 rfl ?_
      refine aw_iload_n dX11_carter_30 rfl ?_
      refine aw_imul_n (a := 5) (b := p1) dX11_carter_31 ?_
      refine aw_iload_n dX11_carter_32 rfl ?_
      refine aw_iadd_n (a := 5 * p1) (b := p2) dX11_carter_33 ?_
      refine aw_iald_n (j := (5 * p1) + p2) dX11_carter_34 rfl (Nat.le_of_ble_eq_true rfl) (by decide) (by omega) ?_
      refine aw_top (show _ = nI (t p2 p1) from (hW2.2 p1 p2 hp1 hp2).trans (by rw [htc p2 p1 hp2 hp1])) ?_
      refine aw_goto (tgt := 40) dX11_carter_35 (by decide) ?_
      refine aw_reti dX11_carter_40 rfl rfl ⟨Nat.le_of_ble_eq_true rfl, Nat.le_of_ble_eq_true rfl⟩ ?_
      exact ⟨by rw [if_pos ⟨c10, c22⟩, zt_nI (show p2 < 2147483648 by omega), zt_nI (show p1 < 2147483648 by omega)], _, rfl, hI.f1 hF2 (by decide), hF2.fr (by decide)⟩
theorem m_at (G : aw_G) {n c : Nat} {I : Nat → Nat → Int32} {L : Nat → Nat → Int64} {b0 b1 : Nat → Nat} {l0 l1 : Nat} {t u x y V g : Nat → Nat → Nat} {kk : Nat} {F S : Nat → Nat} {E : Nat → Nat → Int32} {fd : Int32} (hX : zTx b0 b1 l0 l1 t u x y V kk) (hI : zMI b0 b1 l0 l1 t u g F S E fd I) {a1 : Int32} {a2 : Int32} {a3 : Int32} : aw_Met G mX11_at [.ref 81, .int a1, .int a2, .int a3] (zH n I L c) (fun v h2 => v = some (.int (if zok a1 40 ∧ zok a2 (t 6 0) ∧ zok a3 4 then mE 6 (zt a3) (zOb (p_play z0 t u x) t (zt a2) (zt a1) (zt a3)) else -2)) ∧ ∃ I2, h2 = zH n I2 L c ∧ zMI b0 b1 l0 l1 t u g F S E fd I2 ∧ ∀ o, o < 81 → I2 o = I o) := by
  obtain ⟨hP, h60, h61, htc, hV, hkk, hx, hy⟩ := id hX
  have h8 := hP.1.1
  have hB := hI.1.1
  have hk10 : kk ≤ 10 := by rw [hkk]; exact q_k_leW hB.2.2.2.2.1
  have hVo : f_Vok V kk := by rw [hV, hkk]; exact v_w_ok
  refine aw_Met.of okX11_at (Nat.le_of_ble_eq_true rfl) ?_
  show aw_W G mX11_at 0 [.ref 81, .int a1, .int a2, .int a3] [] (zH n I L c) (0, 0) _
  refine aw_aload_n dX11_at_0 rfl ?_
  refine aw_V0c (As := []) dX11_at_1 k11_218 rfl rfl rfl ⟨Nat.le_of_ble_eq_true rfl, Nat.le_of_ble_eq_true rfl⟩ (Nat.le_of_ble_eq_true rfl) ⟨⟨Nat.le_of_ble_eq_true rfl, Nat.le_of_ble_eq_true rfl⟩, ⟨Nat.le_of_ble_eq_true rfl, Nat.le_of_ble_eq_true rfl⟩⟩ ⟨rfl, rfl⟩ (w_find G hX hI.1) (fun v h2 hq => ?_)
  obtain ⟨rfl, I2, rfl, m, ho, hM, hTo⟩ := hq
  have hot := zOut (u := u) (s := z0) (m := m) hP.1 hP.2.2.2.1 hP.2.2.2.2.1 hP.2.2.2.2.2 z0_old ho.1 (fun k hk => hP.2.1 k (by omega))
  refine aw_iload_n dX11_at_4 rfl ?_
  refine aw_S0c (As := [_]) dX11_at_5 k11_160 rfl rfl (Nat.le_of_ble_eq_true rfl) ⟨⟨Nat.le_of_ble_eq_true rfl, Nat.le_of_ble_eq_true rfl⟩, ⟨Nat.le_of_ble_eq_true rfl, Nat.le_of_ble_eq_true rfl⟩⟩ ⟨rfl, rfl⟩ (w_isHour G a1) (fun v h2 hq => ?_)
  obtain ⟨rfl, rfl⟩ := hq
  refine aw_if_eq_B (tgt := 49) dX11_at_8 (by decide) (fun c8 => ?_) (fun c8 => ?_)
  · refine aw_bipush (v := -2) dX11_at_49 (by decide) ?_
    refine aw_reti dX11_at_51 rfl rfl ⟨Nat.le_of_ble_eq_true rfl, Nat.le_of_ble_eq_true rfl⟩ ?_
    refine ⟨by rw [if_neg (fun z => c8 z.1)], _, rfl, hI.my hM, hM.fr⟩
  · obtain ⟨p1, hp1, rfl⟩ := zok_ex c8
    refine aw_aload_n dX11_at_11 rfl ?_
    refine aw_iload_n dX11_at_12 rfl ?_
    refine aw_V0c (As := [_]) dX11_at_13 k11_153 rfl rfl rfl ⟨Nat.le_of_ble_eq_true rfl, Nat.le_of_ble_eq_true rfl⟩ (Nat.le_of_ble_eq_true rfl) ⟨⟨Nat.le_of_ble_eq_true rfl, Nat.le_of_ble_eq_true rfl⟩, ⟨Nat.le_of_ble_eq_true rfl, Nat.le_of_ble_eq_true rfl⟩⟩ ⟨rfl, rfl⟩ (w_isCarter G a2 (k := t 6 0) hM.2.1.2.2.1 h8) (fun v h2 hq => ?_)
    obtain ⟨rfl, rfl⟩ := hq
    refine aw_if_eq_B (tgt := 49) dX11_at_16 (by decide) (fun c16 => ?_) (fun c16 => ?_)
    · refine aw_bipush (v := -2) dX11_at_49 (by decide) ?_
      refine aw_reti dX11_at_51 rfl rfl ⟨Nat.le_of_ble_eq_true rfl, Nat.le_of_ble_eq_true rfl⟩ ?_
      refine ⟨by rw [if_neg (fun z => c16 z.2.1)], _, rfl, hI.my hM, hM.fr⟩
    · obtain ⟨p2, hp2, rfl⟩ := zok_ex c16
      refine aw_iload_n dX11_at_19 rfl ?_
      refine aw_i2l dX11_at_20 ?_
      refine aw_lconst (v := 0) dX11_at_21 rfl ?_
      refine aw_ldc2 dX11_at_22 co11_89 ?_
      refine aw_S0c (As := [_, _, _]) dX11_at_25 k11_81 rfl rfl (Nat.le_of_ble_eq_true rfl) ⟨⟨Nat.le_of_ble_eq_true rfl, Nat.le_of_ble_eq_true rfl⟩, ⟨Nat.le_of_ble_eq_true rfl, Nat.le_of_ble_eq_true rfl⟩⟩ ⟨rfl, rfl⟩ (w_in G a3 (b := 4) rfl rfl) (fun v h2 hq => ?_)
      obtain ⟨rfl, rfl⟩ := hq
      refine aw_if_eq_B (tgt := 49) dX11_at_28 (by decide) (fun c28 => ?_) (fun c28 => ?_)
      · refine aw_bipush (v := -2) dX11_at_49 (by decide) ?_
        refine aw_reti dX11_at_51 rfl rfl ⟨Nat.le_of_ble_eq_true rfl, Nat.le_of_ble_eq_true rfl⟩ ?_
        refine ⟨by rw [if_neg (fun z => c28 z.2.2)], _, rfl, hI.my hM, hM.fr⟩
      · obtain ⟨p3, hp3, rfl⟩ := zok_ex c28
        refine aw_aload_n dX11_at_31 rfl ?_
        refine aw_getR dX11_at_32 f11_64 rfl ⟨Nat.le_of_ble_eq_true rfl, Nat.le_of_ble_eq_true rfl⟩ rfl rfl ?_
        refine aw_bipush (v := 32) dX11_at_35 (by decide) ?_
        refine aw_iload_n dX11_at_37 rfl ?_
        refine aw_imul_n (a := 32) (b := p1) dX11_at_38 ?_
        refine aw_iconst (v := 4) dX11_at_39 rfl ?_
        refine aw_iload_n dX11_at_40 rfl ?_
        refine aw_imul_n (a := 4) (b := p2) dX11_at_41 ?_
        refine aw_iadd_n (a := 32 * p1) (b := 4 * p2) dX11_at_42 ?_
        refine aw_iload_n dX11_at_43 rfl ?_
        refine aw_iadd_n (a := (32 * p1) + (4 * p2)) (b := p3) dX11_at_44 ?_
        refine aw_iald_n (j := ((32 * p1) + (4 * p2)) + p3) dX11_at_45 rfl (Nat.le_of_ble_eq_true rfl) (by decide) (by omega) ?_
        refine aw_top (show _ = mE 6 p3 (zOb (p_play z0 t u x) t p2 p1 p3) from (hM.2.2.2.2.1.at 6 (32 * p1 + 4 * p2 + p3) (by decide) (by omega)).trans (by rw [(hot.1 p2 hp2).2.2.1 p1 p3 hp1 hp3]; unfold mE; rw [show (32 * p1 + 4 * p2 + p3) % 2 = p3 % 2 by omega])) ?_
        refine aw_goto (tgt := 51) dX11_at_46 (by decide) ?_
        refine aw_reti dX11_at_51 rfl rfl ⟨Nat.le_of_ble_eq_true rfl, Nat.le_of_ble_eq_true rfl⟩ ?_
        exact ⟨by rw [if_pos ⟨c8, c16, c28⟩, zt_nI (show p1 < 2147483648 by omega), zt_nI (show p2 < 2147483648 by omega), zt_nI (show p3 < 2147483648 by omega)], _, rfl, hI.my hM, hM.fr⟩
theorem m_ends (G : aw_G) {n c : Nat} {I : Nat → Nat → Int32} {L : Nat → Nat → Int64} {b0 b1 : Nat → Nat} {l0 l1 : Nat} {t u x y V g : Nat → Nat → Nat} {kk : Nat} {F S : Nat → Nat} {E : Nat → Nat → Int32} {fd : Int32} (hX : zTx b0 b1 l0 l1 t u x y V kk) (hI : zMI b0 b1 l0 l1 t u g F S E fd I) {a1 : Int32} : aw_Met G mX11_ends [.ref 81, .int a1] (zH n I L c) (fun v h2 => v = some (.int (if zok a1 (t 6 0) then nI (o_en x u t (zt a1)) - 1 else -2)) ∧ ∃ I2, h2 = zH n I2 L c ∧ zMI b0 b1 l0 l1 t u g F S E fd I2 ∧ ∀ o, o < 81 → I2 o = I o) := by
  obtain ⟨hP, h60, h61, htc, hV, hkk, hx, hy⟩ := id hX
  have h8 := hP.1.1
  have hB := hI.1.1
  have hk10 : kk ≤ 10 := by rw [hkk]; exact q_k_leW hB.2.2.2.2.1
  have hVo : f_Vok V kk := by rw [hV, hkk]; exact v_w_ok
  refine aw_Met.of okX11_ends (Nat.le_of_ble_eq_true rfl) ?_
  show aw_W G mX11_ends 0 [.ref 81, .int a1] [] (zH n I L c) (0, 0) _
  refine aw_aload_n dX11_ends_0 rfl ?_
  refine aw_V0c (As := []) dX11_ends_1 k11_218 rfl rfl rfl ⟨Nat.le_of_ble_eq_true rfl, Nat.le_of_ble_eq_true rfl⟩ (Nat.le_of_ble_eq_true rfl) ⟨⟨Nat.le_of_ble_eq_true rfl, Nat.le_of_ble_eq_true rfl⟩, ⟨Nat.le_of_ble_eq_true rfl, Nat.le_of_ble_eq_true rfl⟩⟩ ⟨rfl, rfl⟩ (w_find G hX hI.1) (fun v h2 hq => ?_)
  obtain ⟨rfl, I2, rfl, m, ho, hM, hTo⟩ := hq
  have hot := zOut (u := u) (s := z0) (m := m) hP.1 hP.2.2.2.1 hP.2.2.2.2.1 hP.2.2.2.2.2 z0_old ho.1 (fun k hk => hP.2.1 k (by omega))
  refine aw_aload_n dX11_ends_4 rfl ?_
  refine aw_iload_n dX11_ends_5 rfl ?_
  refine aw_V0c (As := [_]) dX11_ends_6 k11_153 rfl rfl rfl ⟨Nat.le_of_ble_eq_true rfl, Nat.le_of_ble_eq_true rfl⟩ (Nat.le_of_ble_eq_true rfl) ⟨⟨Nat.le_of_ble_eq_true rfl, Nat.le_of_ble_eq_true rfl⟩, ⟨Nat.le_of_ble_eq_true rfl, Nat.le_of_ble_eq_true rfl⟩⟩ ⟨rfl, rfl⟩ (w_isCarter G a1 (k := t 6 0) hM.2.1.2.2.1 h8) (fun v h2 hq => ?_)
  obtain ⟨rfl, rfl⟩ := hq
  refine aw_if_eq_B (tgt := 21) dX11_ends_9 (by decide) (fun c9 => ?_) (fun c9 => ?_)
  · refine aw_bipush (v := -2) dX11_ends_21 (by decide) ?_
    refine aw_reti dX11_ends_23 rfl rfl ⟨Nat.le_of_ble_eq_true rfl, Nat.le_of_ble_eq_true rfl⟩ ?_
    refine ⟨by rw [if_neg (fun z => c9 z)], _, rfl, hI.my hM, hM.fr⟩
  · obtain ⟨p1, hp1, rfl⟩ := zok_ex c9
    refine aw_aload_n dX11_ends_12 rfl ?_
    refine aw_getR dX11_ends_13 f11_61 rfl ⟨Nat.le_of_ble_eq_true rfl, Nat.le_of_ble_eq_true rfl⟩ rfl rfl ?_
    refine aw_iload_n dX11_ends_16 rfl ?_
    refine aw_iald_n (j := p1) dX11_ends_17 rfl (Nat.le_of_ble_eq_true rfl) (by decide) (by omega) ?_
    refine aw_top (hTo p1 hp1).2.1 ?_
    refine aw_goto (tgt := 23) dX11_ends_18 (by decide) ?_
    refine aw_reti dX11_ends_23 rfl rfl ⟨Nat.le_of_ble_eq_true rfl, Nat.le_of_ble_eq_true rfl⟩ ?_
    exact ⟨by rw [if_pos c9, zt_nI (show p1 < 2147483648 by omega)], _, rfl, hI.my hM, hM.fr⟩
theorem m_far (G : aw_G) {n c : Nat} {I : Nat → Nat → Int32} {L : Nat → Nat → Int64} {b0 b1 : Nat → Nat} {l0 l1 : Nat} {t u x y V g : Nat → Nat → Nat} {kk : Nat} {F S : Nat → Nat} {E : Nat → Nat → Int32} {fd : Int32} (hX : zTx b0 b1 l0 l1 t u x y V kk) (hI : zMI b0 b1 l0 l1 t u g F S E fd I) {a1 : Int32} {a2 : Int32} : aw_Met G mX11_far [.ref 81, .int a1, .int a2] (zH n I L c) (fun v h2 => v = some (.int (if zok a1 8 ∧ zok a2 8 then nI (z_far y (zt a1) (zt a2)) - 1 else -2)) ∧ ∃ I2, h2 = zH n I2 L c ∧ zMI b0 b1 l0 l1 t u g F S E fd I2 ∧ ∀ o, o < 81 → I2 o = I o) := by
  obtain ⟨hP, h60, h61, htc, hV, hkk, hx, hy⟩ := id hX
  have h8 := hP.1.1
  have hB := hI.1.1
  have hk10 : kk ≤ 10 := by rw [hkk]; exact q_k_leW hB.2.2.2.2.1
  have hVo : f_Vok V kk := by rw [hV, hkk]; exact v_w_ok
  refine aw_Met.of okX11_far (Nat.le_of_ble_eq_true rfl) ?_
  show aw_W G mX11_far 0 [.ref 81, .int a1, .int a2] [] (zH n I L c) (0, 0) _
  refine aw_aload_n dX11_far_0 rfl ?_
  refine aw_V0c (As := []) dX11_far_1 k11_218 rfl rfl rfl ⟨Nat.le_of_ble_eq_true rfl, Nat.le_of_ble_eq_true rfl⟩ (Nat.le_of_ble_eq_true rfl) ⟨⟨Nat.le_of_ble_eq_true rfl, Nat.le_of_ble_eq_true rfl⟩, ⟨Nat.le_of_ble_eq_true rfl, Nat.le_of_ble_eq_true rfl⟩⟩ ⟨rfl, rfl⟩ (w_find G hX hI.1) (fun v h2 hq => ?_)
  obtain ⟨rfl, I2, rfl, m, ho, hM, hTo⟩ := hq
  have hot := zOut (u := u) (s := z0) (m := m) hP.1 hP.2.2.2.1 hP.2.2.2.2.1 hP.2.2.2.2.2 z0_old ho.1 (fun k hk => hP.2.1 k (by omega))
  refine aw_iload_n dX11_far_4 rfl ?_
  refine aw_S0c (As := [_]) dX11_far_5 k11_163 rfl rfl (Nat.le_of_ble_eq_true rfl) ⟨⟨Nat.le_of_ble_eq_true rfl, Nat.le_of_ble_eq_true rfl⟩, ⟨Nat.le_of_ble_eq_true rfl, Nat.le_of_ble_eq_true rfl⟩⟩ ⟨rfl, rfl⟩ (w_isPlace G a1) (fun v h2 hq => ?_)
  obtain ⟨rfl, rfl⟩ := hq
  refine aw_if_eq_B (tgt := 27) dX11_far_8 (by decide) (fun c8 => ?_) (fun c8 => ?_)
  · refine aw_bipush (v := -2) dX11_far_27 (by decide) ?_
    refine aw_reti dX11_far_29 rfl rfl ⟨Nat.le_of_ble_eq_true rfl, Nat.le_of_ble_eq_true rfl⟩ ?_
    refine ⟨by rw [if_neg (fun z => c8 z.1)], _, rfl, hI.my hM, hM.fr⟩
  · obtain ⟨p1, hp1, rfl⟩ := zok_ex c8
    refine aw_iload_n dX11_far_11 rfl ?_
    refine aw_S0c (As := [_]) dX11_far_12 k11_163 rfl rfl (Nat.le_of_ble_eq_true rfl) ⟨⟨Nat.le_of_ble_eq_true rfl, Nat.le_of_ble_eq_true rfl⟩, ⟨Nat.le_of_ble_eq_true rfl, Nat.le_of_ble_eq_true rfl⟩⟩ ⟨rfl, rfl⟩ (w_isPlace G a2) (fun v h2 hq => ?_)
    obtain ⟨rfl, rfl⟩ := hq
    refine aw_if_eq_B (tgt := 27) dX11_far_15 (by decide) (fun c15 => ?_) (fun c15 => ?_)
    · refine aw_bipush (v := -2) dX11_far_27 (by decide) ?_
      refine aw_reti dX11_far_29 rfl rfl ⟨Nat.le_of_ble_eq_true rfl, Nat.le_of_ble_eq_true rfl⟩ ?_
      refine ⟨by rw [if_neg (fun z => c15 z.2)], _, rfl, hI.my hM, hM.fr⟩
    · obtain ⟨p2, hp2, rfl⟩ := zok_ex c15
      refine aw_aload_n dX11_far_18 rfl ?_
      refine aw_iload_n dX11_far_19 rfl ?_
      refine aw_iload_n dX11_far_20 rfl ?_
      refine aw_V0c (As := [_, _]) dX11_far_21 k11_221 rfl rfl rfl ⟨Nat.le_of_ble_eq_true rfl, Nat.le_of_ble_eq_true rfl⟩ (Nat.le_of_ble_eq_true rfl) ⟨⟨Nat.le_of_ble_eq_true rfl, Nat.le_of_ble_eq_true rfl⟩, ⟨Nat.le_of_ble_eq_true rfl, Nat.le_of_ble_eq_true rfl⟩⟩ ⟨rfl, rfl⟩ (w_farBy G hM.2.2.2.1 hp1 hp2 (fun j hj => (hP.2.2.2.2.2.1 j hj).2)) (fun v h2 hq => ?_)
      obtain ⟨rfl, rfl⟩ := hq
      rw [show (if y 1 (8 * p1 + p2) < 9999 then y 1 (8 * p1 + p2) + 1 else 0) = z_far y p1 p2 from rfl]
      refine aw_goto (tgt := 29) dX11_far_24 (by decide) ?_
      refine aw_reti dX11_far_29 rfl rfl ⟨Nat.le_of_ble_eq_true rfl, Nat.le_of_ble_eq_true rfl⟩ ?_
      exact ⟨by rw [if_pos ⟨c8, c15⟩, zt_nI (show p1 < 2147483648 by omega), zt_nI (show p2 < 2147483648 by omega)], _, rfl, hI.my hM, hM.fr⟩
theorem m_who (G : aw_G) {n c : Nat} {I : Nat → Nat → Int32} {L : Nat → Nat → Int64} {b0 b1 : Nat → Nat} {l0 l1 : Nat} {t u x y V g : Nat → Nat → Nat} {kk : Nat} {F S : Nat → Nat} {E : Nat → Nat → Int32} {fd : Int32} (hX : zTx b0 b1 l0 l1 t u x y V kk) (hI : zMI b0 b1 l0 l1 t u g F S E fd I) {a1 : Int32} : aw_Met G mX11_who [.ref 81, .int a1] (zH n I L c) (fun v h2 => v = some (.int (if 2 ≤ a1.toInt ∧ a1.toInt ≤ 5 then nI (o_who x u t (zt a1)) else -2)) ∧ ∃ I2, h2 = zH n I2 L c ∧ zMI b0 b1 l0 l1 t u g F S E fd I2 ∧ ∀ o, o < 81 → I2 o = I o) := by
  obtain ⟨hP, h60, h61, htc, hV, hkk, hx, hy⟩ := id hX
  have h8 := hP.1.1
  have hB := hI.1.1
  have hk10 : kk ≤ 10 := by rw [hkk]; exact q_k_leW hB.2.2.2.2.1
  have hVo : f_Vok V kk := by rw [hV, hkk]; exact v_w_ok
  refine aw_Met.of okX11_who (Nat.le_of_ble_eq_true rfl) ?_
  show aw_W G mX11_who 0 [.ref 81, .int a1] [] (zH n I L c) (0, 0) _
  refine aw_aload_n dX11_who_0 rfl ?_
  refine aw_V0c (As := []) dX11_who_1 k11_218 rfl rfl rfl ⟨Nat.le_of_ble_eq_true rfl, Nat.le_of_ble_eq_true rfl⟩ (Nat.le_of_ble_eq_true rfl) ⟨⟨Nat.le_of_ble_eq_true rfl, Nat.le_of_ble_eq_true rfl⟩, ⟨Nat.le_of_ble_eq_true rfl, Nat.le_of_ble_eq_true rfl⟩⟩ ⟨rfl, rfl⟩ (w_find G hX hI.1) (fun v h2 hq => ?_)
  obtain ⟨rfl, I2, rfl, m, ho, hM, hTo⟩ := hq
  have hot := zOut (u := u) (s := z0) (m := m) hP.1 hP.2.2.2.1 hP.2.2.2.2.1 hP.2.2.2.2.2 z0_old ho.1 (fun k hk => hP.2.1 k (by omega))
  refine aw_iload_n dX11_who_4 rfl ?_
  refine aw_i2l dX11_who_5 ?_
  refine aw_ldc2 dX11_who_6 co11_95 ?_
  refine aw_ldc2 dX11_who_9 co11_224 ?_
  refine aw_S0c (As := [_, _, _]) dX11_who_12 k11_81 rfl rfl (Nat.le_of_ble_eq_true rfl) ⟨⟨Nat.le_of_ble_eq_true rfl, Nat.le_of_ble_eq_true rfl⟩, ⟨Nat.le_of_ble_eq_true rfl, Nat.le_of_ble_eq_true rfl⟩⟩ ⟨rfl, rfl⟩ (w_in25 G a1) (fun v h2 hq => ?_)
  obtain ⟨rfl, rfl⟩ := hq
  refine aw_if_eq_B (tgt := 26) dX11_who_15 (by decide) (fun c15 => ?_) (fun c15 => ?_)
  · refine aw_bipush (v := -2) dX11_who_26 (by decide) ?_
    refine aw_reti dX11_who_28 rfl rfl ⟨Nat.le_of_ble_eq_true rfl, Nat.le_of_ble_eq_true rfl⟩ ?_
    exact ⟨by rw [if_neg c15], _, rfl, hI.my hM, hM.fr⟩
  · obtain ⟨p1, hp1, hp2, rfl⟩ := zi_25 (a := a1) (by rw [Int32.lt_iff_toInt_lt]; have := c15.1; show ¬ a1.toInt < 2; omega) (by rw [Int32.le_iff_toInt_le]; exact c15.2)
    refine aw_aload_n dX11_who_18 rfl ?_
    refine aw_iload_n dX11_who_19 rfl ?_
    refine aw_V0c (As := [_]) dX11_who_20 k11_226 rfl rfl rfl ⟨Nat.le_of_ble_eq_true rfl, Nat.le_of_ble_eq_true rfl⟩ (Nat.le_of_ble_eq_true rfl) ⟨⟨Nat.le_of_ble_eq_true rfl, Nat.le_of_ble_eq_true rfl⟩, ⟨Nat.le_of_ble_eq_true rfl, Nat.le_of_ble_eq_true rfl⟩⟩ ⟨rfl, rfl⟩ (w_whoBy G (a := p1) hM.2.2.2.2.1 hM.2.1.2.2.1 (by omega) h8 (fun j hj => by rw [(hot.1 j hj).1]; have := o_st_le (u := u) hP.1 hP.2.2.2 hj; unfold o_st at this; omega)) (fun v h2 hq => ?_)
    obtain ⟨rfl, rfl⟩ := hq
    rw [zCmM hP ho]
    refine aw_goto (tgt := 28) dX11_who_23 (by decide) ?_
    refine aw_reti dX11_who_28 rfl rfl ⟨Nat.le_of_ble_eq_true rfl, Nat.le_of_ble_eq_true rfl⟩ ?_
    exact ⟨by rw [if_pos c15, zt_nI (by omega)], _, rfl, hI.my hM, hM.fr⟩
theorem m_met (G : aw_G) {n c : Nat} {I : Nat → Nat → Int32} {L : Nat → Nat → Int64} {b0 b1 : Nat → Nat} {l0 l1 : Nat} {t u x y V g : Nat → Nat → Nat} {kk : Nat} {F S : Nat → Nat} {E : Nat → Nat → Int32} {fd : Int32} (hX : zTx b0 b1 l0 l1 t u x y V kk) (hI : zMI b0 b1 l0 l1 t u g F S E fd I) {a1 : Int32} : aw_Met G mX11_met [.ref 81, .int a1] (zH n I L c) (fun v h2 => v = some (.int (if zok a1 2 then (if zt a1 = 0 then nI (p_play z0 t u x 0 10) - 1 else nI (p_play z0 t u x 0 11) - 1) else -2)) ∧ ∃ I2, h2 = zH n I2 L c ∧ zMI b0 b1 l0 l1 t u g F S E fd I2 ∧ ∀ o, o < 81 → I2 o = I o) := by
  obtain ⟨hP, h60, h61, htc, hV, hkk, hx, hy⟩ := id hX
  have h8 := hP.1.1
  have hB := hI.1.1
  have hk10 : kk ≤ 10 := by rw [hkk]; exact q_k_leW hB.2.2.2.2.1
  have hVo : f_Vok V kk := by rw [hV, hkk]; exact v_w_ok
  refine aw_Met.of okX11_met (Nat.le_of_ble_eq_true rfl) ?_
  show aw_W G mX11_met 0 [.ref 81, .int a1] [] (zH n I L c) (0, 0) _
  refine aw_aload_n dX11_met_0 rfl ?_
  refine aw_V0c (As := []) dX11_met_1 k11_218 rfl rfl rfl ⟨Nat.le_of_ble_eq_true rfl, Nat.le_of_ble_eq_true rfl⟩ (Nat.le_of_ble_eq_true rfl) ⟨⟨Nat.le_of_ble_eq_true rfl, Nat.le_of_ble_eq_true rfl⟩, ⟨Nat.le_of_ble_eq_true rfl, Nat.le_of_ble_eq_true rfl⟩⟩ ⟨rfl, rfl⟩ (w_find G hX hI.1) (fun v h2 hq => ?_)
  obtain ⟨rfl, I2, rfl, m, ho, hM, hTo⟩ := hq
  have hot := zOut (u := u) (s := z0) (m := m) hP.1 hP.2.2.2.1 hP.2.2.2.2.1 hP.2.2.2.2.2 z0_old ho.1 (fun k hk => hP.2.1 k (by omega))
  refine aw_iload_n dX11_met_4 rfl ?_
  refine aw_S0c (As := [_]) dX11_met_5 k11_110 rfl rfl (Nat.le_of_ble_eq_true rfl) ⟨⟨Nat.le_of_ble_eq_true rfl, Nat.le_of_ble_eq_true rfl⟩, ⟨Nat.le_of_ble_eq_true rfl, Nat.le_of_ble_eq_true rfl⟩⟩ ⟨rfl, rfl⟩ (w_isTwo G a1) (fun v h2 hq => ?_)
  obtain ⟨rfl, rfl⟩ := hq
  refine aw_if_ne_B (tgt := 16) dX11_met_8 (by decide) (fun c8 => ?_) (fun c8 => ?_)
  · obtain ⟨p1, hp1, rfl⟩ := zok_ex c8
    refine aw_iload_n dX11_met_16 rfl ?_
    refine aw_if_ne_n (a := p1) (tgt := 27) dX11_met_17 (by decide) (by omega) (fun c17 => ?_) (fun c17 => ?_)
    · refine aw_aload_n dX11_met_27 rfl ?_
      refine aw_getI dX11_met_28 f11_198 rfl ⟨Nat.le_of_ble_eq_true rfl, Nat.le_of_ble_eq_true rfl⟩ rfl ?_
      refine aw_top hM.2.2.2.2.1.2.1.2 ?_
      refine aw_reti dX11_met_31 rfl rfl ⟨Nat.le_of_ble_eq_true rfl, Nat.le_of_ble_eq_true rfl⟩ ?_
      exact ⟨by rw [if_pos c8, zt_nI (show p1 < 2147483648 by omega), if_neg c17, hot.2.2.2], _, rfl, hI.my hM, hM.fr⟩
    · refine aw_aload_n dX11_met_20 rfl ?_
      refine aw_getI dX11_met_21 f11_195 rfl ⟨Nat.le_of_ble_eq_true rfl, Nat.le_of_ble_eq_true rfl⟩ rfl ?_
      refine aw_top hM.2.2.2.2.1.2.1.1 ?_
      refine aw_goto (tgt := 31) dX11_met_24 (by decide) ?_
      refine aw_reti dX11_met_31 rfl rfl ⟨Nat.le_of_ble_eq_true rfl, Nat.le_of_ble_eq_true rfl⟩ ?_
      exact ⟨by rw [if_pos c8, zt_nI (show p1 < 2147483648 by omega), if_pos c17, hot.2.2.1], _, rfl, hI.my hM, hM.fr⟩
  · refine aw_bipush (v := -2) dX11_met_11 (by decide) ?_
    refine aw_goto (tgt := 31) dX11_met_13 (by decide) ?_
    refine aw_reti dX11_met_31 rfl rfl ⟨Nat.le_of_ble_eq_true rfl, Nat.le_of_ble_eq_true rfl⟩ ?_
    refine ⟨by rw [if_neg (fun z => c8 z)], _, rfl, hI.my hM, hM.fr⟩
theorem m_busiest (G : aw_G) {n c : Nat} {I : Nat → Nat → Int32} {L : Nat → Nat → Int64} {b0 b1 : Nat → Nat} {l0 l1 : Nat} {t u x y V g : Nat → Nat → Nat} {kk : Nat} {F S : Nat → Nat} {E : Nat → Nat → Int32} {fd : Int32} (hX : zTx b0 b1 l0 l1 t u x y V kk) (hI : zMI b0 b1 l0 l1 t u g F S E fd I)  : aw_Met G mX11_busiest [.ref 81] (zH n I L c) (fun v h2 => v = some (.int (nI (z_most (p_play z0 t u x 4) 8).1 - 1)) ∧ ∃ I2, h2 = zH n I2 L c ∧ zMI b0 b1 l0 l1 t u g F S E fd I2 ∧ ∀ o, o < 81 → I2 o = I o) := by
  obtain ⟨hP, h60, h61, htc, hV, hkk, hx, hy⟩ := id hX
  have h8 := hP.1.1
  have hB := hI.1.1
  have hk10 : kk ≤ 10 := by rw [hkk]; exact q_k_leW hB.2.2.2.2.1
  have hVo : f_Vok V kk := by rw [hV, hkk]; exact v_w_ok
  refine aw_Met.of okX11_busiest (Nat.le_of_ble_eq_true rfl) ?_
  show aw_W G mX11_busiest 0 [.ref 81] [] (zH n I L c) (0, 0) _
  refine aw_aload_n dX11_busiest_0 rfl ?_
  refine aw_V0c (As := []) dX11_busiest_1 k11_218 rfl rfl rfl ⟨Nat.le_of_ble_eq_true rfl, Nat.le_of_ble_eq_true rfl⟩ (Nat.le_of_ble_eq_true rfl) ⟨⟨Nat.le_of_ble_eq_true rfl, Nat.le_of_ble_eq_true rfl⟩, ⟨Nat.le_of_ble_eq_true rfl, Nat.le_of_ble_eq_true rfl⟩⟩ ⟨rfl, rfl⟩ (w_find G hX hI.1) (fun v h2 hq => ?_)
  obtain ⟨rfl, I2, rfl, m, ho, hM, hTo⟩ := hq
  have hot := zOut (u := u) (s := z0) (m := m) hP.1 hP.2.2.2.1 hP.2.2.2.2.1 hP.2.2.2.2.2 z0_old ho.1 (fun k hk => hP.2.1 k (by omega))
  refine aw_aload_n dX11_busiest_4 rfl ?_
  refine aw_V0c (As := []) dX11_busiest_5 k11_232 rfl rfl rfl ⟨Nat.le_of_ble_eq_true rfl, Nat.le_of_ble_eq_true rfl⟩ (Nat.le_of_ble_eq_true rfl) ⟨⟨Nat.le_of_ble_eq_true rfl, Nat.le_of_ble_eq_true rfl⟩, ⟨Nat.le_of_ble_eq_true rfl, Nat.le_of_ble_eq_true rfl⟩⟩ ⟨rfl, rfl⟩ (w_busiestNow G hM.2.2.2.2.1 (fun j hj => by rw [← hot.2.1 j hj]; have := (zBd (m := z0) (u := u) hP.1 hP.2.2.2.1 hP.2.2.2.2.1 hP.2.2.2.2.2 z0_old).1.2.2.2.2 j; omega)) (fun v h2 hq => ?_)
  obtain ⟨rfl, rfl⟩ := hq
  refine aw_reti dX11_busiest_8 rfl rfl ⟨Nat.le_of_ble_eq_true rfl, Nat.le_of_ble_eq_true rfl⟩ ?_
  exact ⟨by rw [z_most_congr (fun j hj => hot.2.1 j hj)], _, rfl, hI.my hM, hM.fr⟩
theorem m_needs (G : aw_G) {n c : Nat} {I : Nat → Nat → Int32} {L : Nat → Nat → Int64} {b0 b1 : Nat → Nat} {l0 l1 : Nat} {t u x y V g : Nat → Nat → Nat} {kk : Nat} {F S : Nat → Nat} {E : Nat → Nat → Int32} {fd : Int32} (hX : zTx b0 b1 l0 l1 t u x y V kk) (hI : zMI b0 b1 l0 l1 t u g F S E fd I) {a1 : Int32} : aw_Met G mX11_needs [.ref 81, .int a1] (zH n I L c) (fun v h2 => v = some (.int (if zok a1 (t 6 0) then nI (zfst (fun w => o_st x u (aw_u t 3 (zt a1) w) (zt a1) == 2) 100) - 1 else -2)) ∧ ∃ I2, h2 = zH n I2 L c ∧ zMI b0 b1 l0 l1 t u g F S E fd I2 ∧ ∀ o, o < 81 → I2 o = I o) := by
  obtain ⟨hP, h60, h61, htc, hV, hkk, hx, hy⟩ := id hX
  have h8 := hP.1.1
  have hB := hI.1.1
  have hk10 : kk ≤ 10 := by rw [hkk]; exact q_k_leW hB.2.2.2.2.1
  have hVo : f_Vok V kk := by rw [hV, hkk]; exact v_w_ok
  refine aw_Met.of okX11_needs (Nat.le_of_ble_eq_true rfl) ?_
  show aw_W G mX11_needs 0 [.ref 81, .int a1] [] (zH n I L c) (0, 0) _
  refine aw_aload_n dX11_needs_0 rfl ?_
  refine aw_V0c (As := []) dX11_needs_1 k11_218 rfl rfl rfl ⟨Nat.le_of_ble_eq_true rfl, Nat.le_of_ble_eq_true rfl⟩ (Nat.le_of_ble_eq_true rfl) ⟨⟨Nat.le_of_ble_eq_true rfl, Nat.le_of_ble_eq_true rfl⟩, ⟨Nat.le_of_ble_eq_true rfl, Nat.le_of_ble_eq_true rfl⟩⟩ ⟨rfl, rfl⟩ (w_find G hX hI.1) (fun v h2 hq => ?_)
  obtain ⟨rfl, I2, rfl, m, ho, hM, hTo⟩ := hq
  have hot := zOut (u := u) (s := z0) (m := m) hP.1 hP.2.2.2.1 hP.2.2.2.2.1 hP.2.2.2.2.2 z0_old ho.1 (fun k hk => hP.2.1 k (by omega))
  refine aw_aload_n dX11_needs_4 rfl ?_
  refine aw_iload_n dX11_needs_5 rfl ?_
  refine aw_V0c (As := [_]) dX11_needs_6 k11_153 rfl rfl rfl ⟨Nat.le_of_ble_eq_true rfl, Nat.le_of_ble_eq_true rfl⟩ (Nat.le_of_ble_eq_true rfl) ⟨⟨Nat.le_of_ble_eq_true rfl, Nat.le_of_ble_eq_true rfl⟩, ⟨Nat.le_of_ble_eq_true rfl, Nat.le_of_ble_eq_true rfl⟩⟩ ⟨rfl, rfl⟩ (w_isCarter G a1 (k := t 6 0) hM.2.1.2.2.1 h8) (fun v h2 hq => ?_)
  obtain ⟨rfl, rfl⟩ := hq
  refine aw_if_eq_B (tgt := 20) dX11_needs_9 (by decide) (fun c9 => ?_) (fun c9 => ?_)
  · refine aw_bipush (v := -2) dX11_needs_20 (by decide) ?_
    refine aw_reti dX11_needs_22 rfl rfl ⟨Nat.le_of_ble_eq_true rfl, Nat.le_of_ble_eq_true rfl⟩ ?_
    refine ⟨by rw [if_neg (fun z => c9 z)], _, rfl, hI.my hM, hM.fr⟩
  · obtain ⟨p1, hp1, rfl⟩ := zok_ex c9
    refine aw_aload_n dX11_needs_12 rfl ?_
    refine aw_iload_n dX11_needs_13 rfl ?_
    refine aw_V0c (As := [_]) dX11_needs_14 k11_238 rfl rfl rfl ⟨Nat.le_of_ble_eq_true rfl, Nat.le_of_ble_eq_true rfl⟩ (Nat.le_of_ble_eq_true rfl) ⟨⟨Nat.le_of_ble_eq_true rfl, Nat.le_of_ble_eq_true rfl⟩, ⟨Nat.le_of_ble_eq_true rfl, Nat.le_of_ble_eq_true rfl⟩⟩ ⟨rfl, rfl⟩ (w_needsOf G hM hP hp1) (fun v h2 hq => ?_)
    obtain ⟨rfl, I3, rfl, m3, hM3⟩ := hq
    refine aw_goto (tgt := 22) dX11_needs_17 (by decide) ?_
    refine aw_reti dX11_needs_22 rfl rfl ⟨Nat.le_of_ble_eq_true rfl, Nat.le_of_ble_eq_true rfl⟩ ?_
    exact ⟨by rw [if_pos c9, zt_nI (show p1 < 2147483648 by omega)], _, rfl, hI.my hM3, hM3.fr⟩
theorem m_lend (G : aw_G) {n c : Nat} {I : Nat → Nat → Int32} {L : Nat → Nat → Int64} {b0 b1 : Nat → Nat} {l0 l1 : Nat} {t u x y V g : Nat → Nat → Nat} {kk : Nat} {F S : Nat → Nat} {E : Nat → Nat → Int32} {fd : Int32} (hX : zTx b0 b1 l0 l1 t u x y V kk) (hI : zMI b0 b1 l0 l1 t u g F S E fd I) {a1 : Int32} : aw_Met G mX11_lend [.ref 81, .int a1] (zH n I L c) (fun v h2 => v = some (.int (if zok a1 3 then r_lend (z_ld (fun a b => o_cm x u (t_swap t a b)) (t 6 0) 64) (zt a1) else -2)) ∧ ∃ I2, h2 = zH n I2 L c ∧ zMI b0 b1 l0 l1 t u g F S E fd I2 ∧ ∀ o, o < 81 → I2 o = I o) := by
  obtain ⟨hP, h60, h61, htc, hV, hkk, hx, hy⟩ := id hX
  have h8 := hP.1.1
  have hB := hI.1.1
  have hk10 : kk ≤ 10 := by rw [hkk]; exact q_k_leW hB.2.2.2.2.1
  have hVo : f_Vok V kk := by rw [hV, hkk]; exact v_w_ok
  refine aw_Met.of okX11_lend (Nat.le_of_ble_eq_true rfl) ?_
  show aw_W G mX11_lend 0 [.ref 81, .int a1] [] (zH n I L c) (0, 0) _
  refine aw_aload_n dX11_lend_0 rfl ?_
  refine aw_V0c (As := []) dX11_lend_1 k11_218 rfl rfl rfl ⟨Nat.le_of_ble_eq_true rfl, Nat.le_of_ble_eq_true rfl⟩ (Nat.le_of_ble_eq_true rfl) ⟨⟨Nat.le_of_ble_eq_true rfl, Nat.le_of_ble_eq_true rfl⟩, ⟨Nat.le_of_ble_eq_true rfl, Nat.le_of_ble_eq_true rfl⟩⟩ ⟨rfl, rfl⟩ (w_find G hX hI.1) (fun v h2 hq => ?_)
  obtain ⟨rfl, I2, rfl, m, ho, hM, hTo⟩ := hq
  have hot := zOut (u := u) (s := z0) (m := m) hP.1 hP.2.2.2.1 hP.2.2.2.2.1 hP.2.2.2.2.2 z0_old ho.1 (fun k hk => hP.2.1 k (by omega))
  refine aw_iload_n dX11_lend_4 rfl ?_
  refine aw_i2l dX11_lend_5 ?_
  refine aw_lconst (v := 0) dX11_lend_6 rfl ?_
  refine aw_ldc2 dX11_lend_7 co11_95 ?_
  refine aw_S0c (As := [_, _, _]) dX11_lend_10 k11_81 rfl rfl (Nat.le_of_ble_eq_true rfl) ⟨⟨Nat.le_of_ble_eq_true rfl, Nat.le_of_ble_eq_true rfl⟩, ⟨Nat.le_of_ble_eq_true rfl, Nat.le_of_ble_eq_true rfl⟩⟩ ⟨rfl, rfl⟩ (w_in G a1 (b := 3) rfl rfl) (fun v h2 hq => ?_)
  obtain ⟨rfl, rfl⟩ := hq
  refine aw_if_eq_B (tgt := 24) dX11_lend_13 (by decide) (fun c13 => ?_) (fun c13 => ?_)
  · refine aw_bipush (v := -2) dX11_lend_24 (by decide) ?_
    refine aw_reti dX11_lend_26 rfl rfl ⟨Nat.le_of_ble_eq_true rfl, Nat.le_of_ble_eq_true rfl⟩ ?_
    refine ⟨by rw [if_neg (fun z => c13 z)], _, rfl, hI.my hM, hM.fr⟩
  · obtain ⟨p1, hp1, rfl⟩ := zok_ex c13
    refine aw_aload_n dX11_lend_16 rfl ?_
    refine aw_iload_n dX11_lend_17 rfl ?_
    refine aw_V0c (As := [_]) dX11_lend_18 k11_247 rfl rfl rfl ⟨Nat.le_of_ble_eq_true rfl, Nat.le_of_ble_eq_true rfl⟩ (Nat.le_of_ble_eq_true rfl) ⟨⟨Nat.le_of_ble_eq_true rfl, Nat.le_of_ble_eq_true rfl⟩, ⟨Nat.le_of_ble_eq_true rfl, Nat.le_of_ble_eq_true rfl⟩⟩ ⟨rfl, rfl⟩ (w_lendBy G hM hP hp1) (fun v h2 hq => ?_)
    obtain ⟨rfl, I3, rfl, m3, hM3⟩ := hq
    refine aw_goto (tgt := 26) dX11_lend_21 (by decide) ?_
    refine aw_reti dX11_lend_26 rfl rfl ⟨Nat.le_of_ble_eq_true rfl, Nat.le_of_ble_eq_true rfl⟩ ?_
    exact ⟨by rw [if_pos c13, zt_nI (show p1 < 2147483648 by omega)], _, rfl, hI.my hM3, hM3.fr⟩
theorem m_delay (G : aw_G) {n c : Nat} {I : Nat → Nat → Int32} {L : Nat → Nat → Int64} {b0 b1 : Nat → Nat} {l0 l1 : Nat} {t u x y V g : Nat → Nat → Nat} {kk : Nat} {F S : Nat → Nat} {E : Nat → Nat → Int32} {fd : Int32} (hX : zTx b0 b1 l0 l1 t u x y V kk) (hI : zMI b0 b1 l0 l1 t u g F S E fd I) {a1 : Int32} {a2 : Int32} : aw_Met G mX11_delay [.ref 81, .int a1, .int a2] (zH n I L c) (fun v h2 => v = some (.int (if zok a1 (t 6 0) ∧ zok a2 2 then r_pl (z_best (fun v => o_cm x u (aw_u t 5 (zt a1) v)) 10) (zt a2) else -2)) ∧ ∃ I2, h2 = zH n I2 L c ∧ zMI b0 b1 l0 l1 t u g F S E fd I2 ∧ ∀ o, o < 81 → I2 o = I o) := by
  obtain ⟨hP, h60, h61, htc, hV, hkk, hx, hy⟩ := id hX
  have h8 := hP.1.1
  have hB := hI.1.1
  have hk10 : kk ≤ 10 := by rw [hkk]; exact q_k_leW hB.2.2.2.2.1
  have hVo : f_Vok V kk := by rw [hV, hkk]; exact v_w_ok
  refine aw_Met.of okX11_delay (Nat.le_of_ble_eq_true rfl) ?_
  show aw_W G mX11_delay 0 [.ref 81, .int a1, .int a2] [] (zH n I L c) (0, 0) _
  refine aw_aload_n dX11_delay_0 rfl ?_
  refine aw_V0c (As := []) dX11_delay_1 k11_218 rfl rfl rfl ⟨Nat.le_of_ble_eq_true rfl, Nat.le_of_ble_eq_true rfl⟩ (Nat.le_of_ble_eq_true rfl) ⟨⟨Nat.le_of_ble_eq_true rfl, Nat.le_of_ble_eq_true rfl⟩, ⟨Nat.le_of_ble_eq_true rfl, Nat.le_of_ble_eq_true rfl⟩⟩ ⟨rfl, rfl⟩ (w_find G hX hI.1) (fun v h2 hq => ?_)
  obtain ⟨rfl, I2, rfl, m, ho, hM, hTo⟩ := hq
  have hot := zOut (u := u) (s := z0) (m := m) hP.1 hP.2.2.2.1 hP.2.2.2.2.1 hP.2.2.2.2.2 z0_old ho.1 (fun k hk => hP.2.1 k (by omega))
  refine aw_aload_n dX11_delay_4 rfl ?_
  refine aw_iload_n dX11_delay_5 rfl ?_
  refine aw_V0c (As := [_]) dX11_delay_6 k11_153 rfl rfl rfl ⟨Nat.le_of_ble_eq_true rfl, Nat.le_of_ble_eq_true rfl⟩ (Nat.le_of_ble_eq_true rfl) ⟨⟨Nat.le_of_ble_eq_true rfl, Nat.le_of_ble_eq_true rfl⟩, ⟨Nat.le_of_ble_eq_true rfl, Nat.le_of_ble_eq_true rfl⟩⟩ ⟨rfl, rfl⟩ (w_isCarter G a1 (k := t 6 0) hM.2.1.2.2.1 h8) (fun v h2 hq => ?_)
  obtain ⟨rfl, rfl⟩ := hq
  refine aw_if_eq_B (tgt := 28) dX11_delay_9 (by decide) (fun c9 => ?_) (fun c9 => ?_)
  · refine aw_bipush (v := -2) dX11_delay_28 (by decide) ?_
    refine aw_reti dX11_delay_30 rfl rfl ⟨Nat.le_of_ble_eq_true rfl, Nat.le_of_ble_eq_true rfl⟩ ?_
    refine ⟨by rw [if_neg (fun z => c9 z.1)], _, rfl, hI.my hM, hM.fr⟩
  · obtain ⟨p1, hp1, rfl⟩ := zok_ex c9
    refine aw_iload_n dX11_delay_12 rfl ?_
    refine aw_S0c (As := [_]) dX11_delay_13 k11_110 rfl rfl (Nat.le_of_ble_eq_true rfl) ⟨⟨Nat.le_of_ble_eq_true rfl, Nat.le_of_ble_eq_true rfl⟩, ⟨Nat.le_of_ble_eq_true rfl, Nat.le_of_ble_eq_true rfl⟩⟩ ⟨rfl, rfl⟩ (w_isTwo G a2) (fun v h2 hq => ?_)
    obtain ⟨rfl, rfl⟩ := hq
    refine aw_if_eq_B (tgt := 28) dX11_delay_16 (by decide) (fun c16 => ?_) (fun c16 => ?_)
    · refine aw_bipush (v := -2) dX11_delay_28 (by decide) ?_
      refine aw_reti dX11_delay_30 rfl rfl ⟨Nat.le_of_ble_eq_true rfl, Nat.le_of_ble_eq_true rfl⟩ ?_
      refine ⟨by rw [if_neg (fun z => c16 z.2)], _, rfl, hI.my hM, hM.fr⟩
    · obtain ⟨p2, hp2, rfl⟩ := zok_ex c16
      refine aw_aload_n dX11_delay_19 rfl ?_
      refine aw_iload_n dX11_delay_20 rfl ?_
      refine aw_iload_n dX11_delay_21 rfl ?_
      refine aw_V0c (As := [_, _]) dX11_delay_22 k11_250 rfl rfl rfl ⟨Nat.le_of_ble_eq_true rfl, Nat.le_of_ble_eq_true rfl⟩ (Nat.le_of_ble_eq_true rfl) ⟨⟨Nat.le_of_ble_eq_true rfl, Nat.le_of_ble_eq_true rfl⟩, ⟨Nat.le_of_ble_eq_true rfl, Nat.le_of_ble_eq_true rfl⟩⟩ ⟨rfl, rfl⟩ (w_delayOf G hM hP (k := p1) (by omega) hp2) (fun v h2 hq => ?_)
      obtain ⟨rfl, I3, rfl, m3, hM3⟩ := hq
      refine aw_goto (tgt := 30) dX11_delay_25 (by decide) ?_
      refine aw_reti dX11_delay_30 rfl rfl ⟨Nat.le_of_ble_eq_true rfl, Nat.le_of_ble_eq_true rfl⟩ ?_
      exact ⟨by rw [if_pos ⟨c9, c16⟩, zt_nI (show p1 < 2147483648 by omega), zt_nI (show p2 < 2147483648 by omega)], _, rfl, hI.my hM3, hM3.fr⟩
theorem m_level (G : aw_G) {n c : Nat} {I : Nat → Nat → Int32} {L : Nat → Nat → Int64} {b0 b1 : Nat → Nat} {l0 l1 : Nat} {t u x y V g : Nat → Nat → Nat} {kk : Nat} {F S : Nat → Nat} {E : Nat → Nat → Int32} {fd : Int32} (hX : zTx b0 b1 l0 l1 t u x y V kk) (hI : zMI b0 b1 l0 l1 t u g F S E fd I) {a1 : Int32} : aw_Met G mX11_level [.ref 81, .int a1] (zH n I L c) (fun v h2 => v = some (.int (if zok a1 2 then r_pl (z_best (fun w => o_cm (f_x (f_lv V (w + 1)) kk) u t) kk) (zt a1) else -2)) ∧ ∃ I2, h2 = zH n I2 L c ∧ zMI b0 b1 l0 l1 t u g F S E fd I2 ∧ ∀ o, o < 81 → I2 o = I o) := by
  obtain ⟨hP, h60, h61, htc, hV, hkk, hx, hy⟩ := id hX
  have h8 := hP.1.1
  have hB := hI.1.1
  have hk10 : kk ≤ 10 := by rw [hkk]; exact q_k_leW hB.2.2.2.2.1
  have hVo : f_Vok V kk := by rw [hV, hkk]; exact v_w_ok
  refine aw_Met.of okX11_level (Nat.le_of_ble_eq_true rfl) ?_
  show aw_W G mX11_level 0 [.ref 81, .int a1] [] (zH n I L c) (0, 0) _
  refine aw_aload_n dX11_level_0 rfl ?_
  refine aw_V0c (As := []) dX11_level_1 k11_218 rfl rfl rfl ⟨Nat.le_of_ble_eq_true rfl, Nat.le_of_ble_eq_true rfl⟩ (Nat.le_of_ble_eq_true rfl) ⟨⟨Nat.le_of_ble_eq_true rfl, Nat.le_of_ble_eq_true rfl⟩, ⟨Nat.le_of_ble_eq_true rfl, Nat.le_of_ble_eq_true rfl⟩⟩ ⟨rfl, rfl⟩ (w_find G hX hI.1) (fun v h2 hq => ?_)
  obtain ⟨rfl, I2, rfl, m, ho, hM, hTo⟩ := hq
  have hot := zOut (u := u) (s := z0) (m := m) hP.1 hP.2.2.2.1 hP.2.2.2.2.1 hP.2.2.2.2.2 z0_old ho.1 (fun k hk => hP.2.1 k (by omega))
  refine aw_iload_n dX11_level_4 rfl ?_
  refine aw_S0c (As := [_]) dX11_level_5 k11_110 rfl rfl (Nat.le_of_ble_eq_true rfl) ⟨⟨Nat.le_of_ble_eq_true rfl, Nat.le_of_ble_eq_true rfl⟩, ⟨Nat.le_of_ble_eq_true rfl, Nat.le_of_ble_eq_true rfl⟩⟩ ⟨rfl, rfl⟩ (w_isTwo G a1) (fun v h2 hq => ?_)
  obtain ⟨rfl, rfl⟩ := hq
  refine aw_if_eq_B (tgt := 19) dX11_level_8 (by decide) (fun c8 => ?_) (fun c8 => ?_)
  · refine aw_bipush (v := -2) dX11_level_19 (by decide) ?_
    refine aw_reti dX11_level_21 rfl rfl ⟨Nat.le_of_ble_eq_true rfl, Nat.le_of_ble_eq_true rfl⟩ ?_
    refine ⟨by rw [if_neg (fun z => c8 z)], _, rfl, hI.my hM, hM.fr⟩
  · obtain ⟨p1, hp1, rfl⟩ := zok_ex c8
    refine aw_aload_n dX11_level_11 rfl ?_
    refine aw_iload_n dX11_level_12 rfl ?_
    refine aw_V0c (As := [_]) dX11_level_13 k11_253 rfl rfl rfl ⟨Nat.le_of_ble_eq_true rfl, Nat.le_of_ble_eq_true rfl⟩ (Nat.le_of_ble_eq_true rfl) ⟨⟨Nat.le_of_ble_eq_true rfl, Nat.le_of_ble_eq_true rfl⟩, ⟨Nat.le_of_ble_eq_true rfl, Nat.le_of_ble_eq_true rfl⟩⟩ ⟨rfl, rfl⟩ (w_levelBy G hM hP hp1 hk10 hVo) (fun v h2 hq => ?_)
    obtain ⟨rfl, I3, rfl, m3, hM3⟩ := hq
    refine aw_goto (tgt := 21) dX11_level_16 (by decide) ?_
    refine aw_reti dX11_level_21 rfl rfl ⟨Nat.le_of_ble_eq_true rfl, Nat.le_of_ble_eq_true rfl⟩ ?_
    exact ⟨by rw [if_pos c8, zt_nI (show p1 < 2147483648 by omega)], _, rfl, hI.my hM3, hM3.fr⟩
theorem m_never (G : aw_G) {n c : Nat} {I : Nat → Nat → Int32} {L : Nat → Nat → Int64} {b0 b1 : Nat → Nat} {l0 l1 : Nat} {t u x y V g : Nat → Nat → Nat} {kk : Nat} {F S : Nat → Nat} {E : Nat → Nat → Int32} {fd : Int32} (hX : zTx b0 b1 l0 l1 t u x y V kk) (hI : zMI b0 b1 l0 l1 t u g F S E fd I)  : aw_Met G mX11_never [.ref 81] (zH n I L c) (fun v h2 => v = some (.int (nI (z_who (fun a => z_fit x u g (aw_u t 6 1 (2 ^ a))) (u 2 0)))) ∧ ∃ I2, h2 = zH n I2 L c ∧ zMI b0 b1 l0 l1 t u g F S E fd I2 ∧ ∀ o, o < 81 → I2 o = I o) := by
  obtain ⟨hP, h60, h61, htc, hV, hkk, hx, hy⟩ := id hX
  have h8 := hP.1.1
  have hB := hI.1.1
  have hk10 : kk ≤ 10 := by rw [hkk]; exact q_k_leW hB.2.2.2.2.1
  have hVo : f_Vok V kk := by rw [hV, hkk]; exact v_w_ok
  refine aw_Met.of okX11_never (Nat.le_of_ble_eq_true rfl) ?_
  show aw_W G mX11_never 0 [.ref 81] [] (zH n I L c) (0, 0) _
  refine aw_aload_n dX11_never_0 rfl ?_
  refine aw_V0c (As := []) dX11_never_1 k11_218 rfl rfl rfl ⟨Nat.le_of_ble_eq_true rfl, Nat.le_of_ble_eq_true rfl⟩ (Nat.le_of_ble_eq_true rfl) ⟨⟨Nat.le_of_ble_eq_true rfl, Nat.le_of_ble_eq_true rfl⟩, ⟨Nat.le_of_ble_eq_true rfl, Nat.le_of_ble_eq_true rfl⟩⟩ ⟨rfl, rfl⟩ (w_find G hX hI.1) (fun v h2 hq => ?_)
  obtain ⟨rfl, I2, rfl, m, ho, hM, hTo⟩ := hq
  have hot := zOut (u := u) (s := z0) (m := m) hP.1 hP.2.2.2.1 hP.2.2.2.2.1 hP.2.2.2.2.2 z0_old ho.1 (fun k hk => hP.2.1 k (by omega))
  refine aw_aload_n dX11_never_4 rfl ?_
  refine aw_V0c (As := []) dX11_never_5 k11_265 rfl rfl rfl ⟨Nat.le_of_ble_eq_true rfl, Nat.le_of_ble_eq_true rfl⟩ (Nat.le_of_ble_eq_true rfl) ⟨⟨Nat.le_of_ble_eq_true rfl, Nat.le_of_ble_eq_true rfl⟩, ⟨Nat.le_of_ble_eq_true rfl, Nat.le_of_ble_eq_true rfl⟩⟩ ⟨rfl, rfl⟩ (w_neverNow G hM hP hI.1.2.2.2.2.1 h61) (fun v h2 hq => ?_)
  obtain ⟨rfl, I3, rfl, m3, hM3⟩ := hq
  refine aw_reti dX11_never_8 rfl rfl ⟨Nat.le_of_ble_eq_true rfl, Nat.le_of_ble_eq_true rfl⟩ ?_
  exact ⟨rfl, _, rfl, hI.my hM3, hM3.fr⟩
theorem m_sort (G : aw_G) {n c : Nat} {I : Nat → Nat → Int32} {L : Nat → Nat → Int64} {b0 b1 : Nat → Nat} {l0 l1 : Nat} {t u x y V g : Nat → Nat → Nat} {kk : Nat} {F S : Nat → Nat} {E : Nat → Nat → Int32} {fd : Int32} (hX : zTx b0 b1 l0 l1 t u x y V kk) (hI : zMI b0 b1 l0 l1 t u g F S E fd I) {a1 : Int32} : aw_Met G mX11_sort [.ref 81, .int a1] (zH n I L c) (fun v h2 => v = some (.int (if zok a1 (t 6 0) then nI (z_who (fun v => z_fit x u g (aw_u t 2 (zt a1) v)) 3) else -2)) ∧ ∃ I2, h2 = zH n I2 L c ∧ zMI b0 b1 l0 l1 t u g F S E fd I2 ∧ ∀ o, o < 81 → I2 o = I o) := by
  obtain ⟨hP, h60, h61, htc, hV, hkk, hx, hy⟩ := id hX
  have h8 := hP.1.1
  have hB := hI.1.1
  have hk10 : kk ≤ 10 := by rw [hkk]; exact q_k_leW hB.2.2.2.2.1
  have hVo : f_Vok V kk := by rw [hV, hkk]; exact v_w_ok
  refine aw_Met.of okX11_sort (Nat.le_of_ble_eq_true rfl) ?_
  show aw_W G mX11_sort 0 [.ref 81, .int a1] [] (zH n I L c) (0, 0) _
  refine aw_aload_n dX11_sort_0 rfl ?_
  refine aw_V0c (As := []) dX11_sort_1 k11_218 rfl rfl rfl ⟨Nat.le_of_ble_eq_true rfl, Nat.le_of_ble_eq_true rfl⟩ (Nat.le_of_ble_eq_true rfl) ⟨⟨Nat.le_of_ble_eq_true rfl, Nat.le_of_ble_eq_true rfl⟩, ⟨Nat.le_of_ble_eq_true rfl, Nat.le_of_ble_eq_true rfl⟩⟩ ⟨rfl, rfl⟩ (w_find G hX hI.1) (fun v h2 hq => ?_)
  obtain ⟨rfl, I2, rfl, m, ho, hM, hTo⟩ := hq
  have hot := zOut (u := u) (s := z0) (m := m) hP.1 hP.2.2.2.1 hP.2.2.2.2.1 hP.2.2.2.2.2 z0_old ho.1 (fun k hk => hP.2.1 k (by omega))
  refine aw_aload_n dX11_sort_4 rfl ?_
  refine aw_iload_n dX11_sort_5 rfl ?_
  refine aw_V0c (As := [_]) dX11_sort_6 k11_153 rfl rfl rfl ⟨Nat.le_of_ble_eq_true rfl, Nat.le_of_ble_eq_true rfl⟩ (Nat.le_of_ble_eq_true rfl) ⟨⟨Nat.le_of_ble_eq_true rfl, Nat.le_of_ble_eq_true rfl⟩, ⟨Nat.le_of_ble_eq_true rfl, Nat.le_of_ble_eq_true rfl⟩⟩ ⟨rfl, rfl⟩ (w_isCarter G a1 (k := t 6 0) hM.2.1.2.2.1 h8) (fun v h2 hq => ?_)
  obtain ⟨rfl, rfl⟩ := hq
  refine aw_if_eq_B (tgt := 20) dX11_sort_9 (by decide) (fun c9 => ?_) (fun c9 => ?_)
  · refine aw_bipush (v := -2) dX11_sort_20 (by decide) ?_
    refine aw_reti dX11_sort_22 rfl rfl ⟨Nat.le_of_ble_eq_true rfl, Nat.le_of_ble_eq_true rfl⟩ ?_
    refine ⟨by rw [if_neg (fun z => c9 z)], _, rfl, hI.my hM, hM.fr⟩
  · obtain ⟨p1, hp1, rfl⟩ := zok_ex c9
    refine aw_aload_n dX11_sort_12 rfl ?_
    refine aw_iload_n dX11_sort_13 rfl ?_
    refine aw_V0c (As := [_]) dX11_sort_14 k11_268 rfl rfl rfl ⟨Nat.le_of_ble_eq_true rfl, Nat.le_of_ble_eq_true rfl⟩ (Nat.le_of_ble_eq_true rfl) ⟨⟨Nat.le_of_ble_eq_true rfl, Nat.le_of_ble_eq_true rfl⟩, ⟨Nat.le_of_ble_eq_true rfl, Nat.le_of_ble_eq_true rfl⟩⟩ ⟨rfl, rfl⟩ (w_sortOf G hM hP hI.1.2.2.2.2.1 hp1) (fun v h2 hq => ?_)
    obtain ⟨rfl, I3, rfl, ⟨m3, hM3⟩, hPc⟩ := hq
    refine aw_goto (tgt := 22) dX11_sort_17 (by decide) ?_
    refine aw_reti dX11_sort_22 rfl rfl ⟨Nat.le_of_ble_eq_true rfl, Nat.le_of_ble_eq_true rfl⟩ ?_
    exact ⟨by rw [if_pos c9, zt_nI (show p1 < 2147483648 by omega)], _, rfl, hI.my hM3, hM3.fr⟩
theorem m_force (G : aw_G) {n c : Nat} {I : Nat → Nat → Int32} {L : Nat → Nat → Int64} {b0 b1 : Nat → Nat} {l0 l1 : Nat} {t u x y V g : Nat → Nat → Nat} {kk : Nat} {F S : Nat → Nat} {E : Nat → Nat → Int32} {fd : Int32} (hX : zTx b0 b1 l0 l1 t u x y V kk) (hI : zMI b0 b1 l0 l1 t u g F S E fd I) {a1 : Int32} {a2 : Int32} : aw_Met G mX11_force [.ref 81, .int a1, .int a2] (zH n I L c) (fun v h2 => v = some (.int (if zok a1 (t 6 0) ∧ zok a2 3 then r_force (fun v => z_fit x u g (aw_u t 3 (zt a1) v)) (zt a2) else -2)) ∧ ∃ I2, h2 = zH n I2 L c ∧ zMI b0 b1 l0 l1 t u g F S E fd I2 ∧ ∀ o, o < 81 → I2 o = I o) := by
  obtain ⟨hP, h60, h61, htc, hV, hkk, hx, hy⟩ := id hX
  have h8 := hP.1.1
  have hB := hI.1.1
  have hk10 : kk ≤ 10 := by rw [hkk]; exact q_k_leW hB.2.2.2.2.1
  have hVo : f_Vok V kk := by rw [hV, hkk]; exact v_w_ok
  refine aw_Met.of okX11_force (Nat.le_of_ble_eq_true rfl) ?_
  show aw_W G mX11_force 0 [.ref 81, .int a1, .int a2] [] (zH n I L c) (0, 0) _
  refine aw_aload_n dX11_force_0 rfl ?_
  refine aw_V0c (As := []) dX11_force_1 k11_218 rfl rfl rfl ⟨Nat.le_of_ble_eq_true rfl, Nat.le_of_ble_eq_true rfl⟩ (Nat.le_of_ble_eq_true rfl) ⟨⟨Nat.le_of_ble_eq_true rfl, Nat.le_of_ble_eq_true rfl⟩, ⟨Nat.le_of_ble_eq_true rfl, Nat.le_of_ble_eq_true rfl⟩⟩ ⟨rfl, rfl⟩ (w_find G hX hI.1) (fun v h2 hq => ?_)
  obtain ⟨rfl, I2, rfl, m, ho, hM, hTo⟩ := hq
  have hot := zOut (u := u) (s := z0) (m := m) hP.1 hP.2.2.2.1 hP.2.2.2.2.1 hP.2.2.2.2.2 z0_old ho.1 (fun k hk => hP.2.1 k (by omega))
  refine aw_aload_n dX11_force_4 rfl ?_
  refine aw_iload_n dX11_force_5 rfl ?_
  refine aw_V0c (As := [_]) dX11_force_6 k11_153 rfl rfl rfl ⟨Nat.le_of_ble_eq_true rfl, Nat.le_of_ble_eq_true rfl⟩ (Nat.le_of_ble_eq_true rfl) ⟨⟨Nat.le_of_ble_eq_true rfl, Nat.le_of_ble_eq_true rfl⟩, ⟨Nat.le_of_ble_eq_true rfl, Nat.le_of_ble_eq_true rfl⟩⟩ ⟨rfl, rfl⟩ (w_isCarter G a1 (k := t 6 0) hM.2.1.2.2.1 h8) (fun v h2 hq => ?_)
  obtain ⟨rfl, rfl⟩ := hq
  refine aw_if_eq_B (tgt := 33) dX11_force_9 (by decide) (fun c9 => ?_) (fun c9 => ?_)
  · refine aw_bipush (v := -2) dX11_force_33 (by decide) ?_
    refine aw_reti dX11_force_35 rfl rfl ⟨Nat.le_of_ble_eq_true rfl, Nat.le_of_ble_eq_true rfl⟩ ?_
    refine ⟨by rw [if_neg (fun z => c9 z.1)], _, rfl, hI.my hM, hM.fr⟩
  · obtain ⟨p1, hp1, rfl⟩ := zok_ex c9
    refine aw_iload_n dX11_force_12 rfl ?_
    refine aw_i2l dX11_force_13 ?_
    refine aw_lconst (v := 0) dX11_force_14 rfl ?_
    refine aw_ldc2 dX11_force_15 co11_95 ?_
    refine aw_S0c (As := [_, _, _]) dX11_force_18 k11_81 rfl rfl (Nat.le_of_ble_eq_true rfl) ⟨⟨Nat.le_of_ble_eq_true rfl, Nat.le_of_ble_eq_true rfl⟩, ⟨Nat.le_of_ble_eq_true rfl, Nat.le_of_ble_eq_true rfl⟩⟩ ⟨rfl, rfl⟩ (w_in G a2 (b := 3) rfl rfl) (fun v h2 hq => ?_)
    obtain ⟨rfl, rfl⟩ := hq
    refine aw_if_eq_B (tgt := 33) dX11_force_21 (by decide) (fun c21 => ?_) (fun c21 => ?_)
    · refine aw_bipush (v := -2) dX11_force_33 (by decide) ?_
      refine aw_reti dX11_force_35 rfl rfl ⟨Nat.le_of_ble_eq_true rfl, Nat.le_of_ble_eq_true rfl⟩ ?_
      refine ⟨by rw [if_neg (fun z => c21 z.2)], _, rfl, hI.my hM, hM.fr⟩
    · obtain ⟨p2, hp2, rfl⟩ := zok_ex c21
      refine aw_aload_n dX11_force_24 rfl ?_
      refine aw_iload_n dX11_force_25 rfl ?_
      refine aw_iload_n dX11_force_26 rfl ?_
      refine aw_V0c (As := [_, _]) dX11_force_27 k11_271 rfl rfl rfl ⟨Nat.le_of_ble_eq_true rfl, Nat.le_of_ble_eq_true rfl⟩ (Nat.le_of_ble_eq_true rfl) ⟨⟨Nat.le_of_ble_eq_true rfl, Nat.le_of_ble_eq_true rfl⟩, ⟨Nat.le_of_ble_eq_true rfl, Nat.le_of_ble_eq_true rfl⟩⟩ ⟨rfl, rfl⟩ (w_forceOf G hM hP hI.1.2.2.2.2.1 hp1 hp2) (fun v h2 hq => ?_)
      obtain ⟨rfl, I3, rfl, m3, hM3⟩ := hq
      refine aw_goto (tgt := 35) dX11_force_30 (by decide) ?_
      refine aw_reti dX11_force_35 rfl rfl ⟨Nat.le_of_ble_eq_true rfl, Nat.le_of_ble_eq_true rfl⟩ ?_
      exact ⟨by rw [if_pos ⟨c9, c21⟩, zt_nI (show p1 < 2147483648 by omega), zt_nI (show p2 < 2147483648 by omega)], _, rfl, hI.my hM3, hM3.fr⟩
theorem m_ask (G : aw_G) {n c : Nat} {I : Nat → Nat → Int32} {L : Nat → Nat → Int64} {b0 b1 : Nat → Nat} {l0 l1 : Nat} {t u x y V g : Nat → Nat → Nat} {kk : Nat} {F S : Nat → Nat} {E : Nat → Nat → Int32} {fd : Int32} (hX : zTx b0 b1 l0 l1 t u x y V kk) (hI : zMI b0 b1 l0 l1 t u g F S E fd I) {a1 : Int32} : aw_Met G mX11_ask [.ref 81, .int a1] (zH n I L c) (fun v h2 => v = some (.int (if zok a1 (t 6 0) then nI (z_mp (z_al (fun v => z_fit x u g (aw_u t 2 (zt a1) v)) (fun v => o_pl x u (aw_u t 2 (zt a1) v) (zt a1)) (fun v => o_en x u (aw_u t 2 (zt a1) v) (zt a1))) 40).1 else -2)) ∧ ∃ I2, h2 = zH n I2 L c ∧ zMI b0 b1 l0 l1 t u g F S E fd I2 ∧ ∀ o, o < 81 → I2 o = I o) := by
  obtain ⟨hP, h60, h61, htc, hV, hkk, hx, hy⟩ := id hX
  have h8 := hP.1.1
  have hB := hI.1.1
  have hk10 : kk ≤ 10 := by rw [hkk]; exact q_k_leW hB.2.2.2.2.1
  have hVo : f_Vok V kk := by rw [hV, hkk]; exact v_w_ok
  refine aw_Met.of okX11_ask (Nat.le_of_ble_eq_true rfl) ?_
  show aw_W G mX11_ask 0 [.ref 81, .int a1] [] (zH n I L c) (0, 0) _
  refine aw_aload_n dX11_ask_0 rfl ?_
  refine aw_V0c (As := []) dX11_ask_1 k11_218 rfl rfl rfl ⟨Nat.le_of_ble_eq_true rfl, Nat.le_of_ble_eq_true rfl⟩ (Nat.le_of_ble_eq_true rfl) ⟨⟨Nat.le_of_ble_eq_true rfl, Nat.le_of_ble_eq_true rfl⟩, ⟨Nat.le_of_ble_eq_true rfl, Nat.le_of_ble_eq_true rfl⟩⟩ ⟨rfl, rfl⟩ (w_find G hX hI.1) (fun v h2 hq => ?_)
  obtain ⟨rfl, I2, rfl, m, ho, hM, hTo⟩ := hq
  have hot := zOut (u := u) (s := z0) (m := m) hP.1 hP.2.2.2.1 hP.2.2.2.2.1 hP.2.2.2.2.2 z0_old ho.1 (fun k hk => hP.2.1 k (by omega))
  refine aw_aload_n dX11_ask_4 rfl ?_
  refine aw_iload_n dX11_ask_5 rfl ?_
  refine aw_V0c (As := [_]) dX11_ask_6 k11_153 rfl rfl rfl ⟨Nat.le_of_ble_eq_true rfl, Nat.le_of_ble_eq_true rfl⟩ (Nat.le_of_ble_eq_true rfl) ⟨⟨Nat.le_of_ble_eq_true rfl, Nat.le_of_ble_eq_true rfl⟩, ⟨Nat.le_of_ble_eq_true rfl, Nat.le_of_ble_eq_true rfl⟩⟩ ⟨rfl, rfl⟩ (w_isCarter G a1 (k := t 6 0) hM.2.1.2.2.1 h8) (fun v h2 hq => ?_)
  obtain ⟨rfl, rfl⟩ := hq
  refine aw_if_eq_B (tgt := 20) dX11_ask_9 (by decide) (fun c9 => ?_) (fun c9 => ?_)
  · refine aw_bipush (v := -2) dX11_ask_20 (by decide) ?_
    refine aw_reti dX11_ask_22 rfl rfl ⟨Nat.le_of_ble_eq_true rfl, Nat.le_of_ble_eq_true rfl⟩ ?_
    refine ⟨by rw [if_neg (fun z => c9 z)], _, rfl, hI.my hM, hM.fr⟩
  · obtain ⟨p1, hp1, rfl⟩ := zok_ex c9
    refine aw_aload_n dX11_ask_12 rfl ?_
    refine aw_iload_n dX11_ask_13 rfl ?_
    refine aw_V0c (As := [_]) dX11_ask_14 k11_277 rfl rfl rfl ⟨Nat.le_of_ble_eq_true rfl, Nat.le_of_ble_eq_true rfl⟩ (Nat.le_of_ble_eq_true rfl) ⟨⟨Nat.le_of_ble_eq_true rfl, Nat.le_of_ble_eq_true rfl⟩, ⟨Nat.le_of_ble_eq_true rfl, Nat.le_of_ble_eq_true rfl⟩⟩ ⟨rfl, rfl⟩ (w_askOf G hM hP hI.1.2.2.2.2.1 hp1) (fun v h2 hq => ?_)
    obtain ⟨rfl, I3, rfl, m3, hM3⟩ := hq
    refine aw_goto (tgt := 22) dX11_ask_17 (by decide) ?_
    refine aw_reti dX11_ask_22 rfl rfl ⟨Nat.le_of_ble_eq_true rfl, Nat.le_of_ble_eq_true rfl⟩ ?_
    exact ⟨by rw [if_pos c9, zt_nI (show p1 < 2147483648 by omega)], _, rfl, hI.my hM3, hM3.fr⟩
theorem w_no (G : aw_G) {h : aw_H} : aw_Met G mX11_no [.int (-2)] h (fun v h2 => v = some (.long (-9223372036854775806)) ∧ h2 = h) := by
  refine aw_Met.of okX11_no (Nat.le_of_ble_eq_true rfl) ?_
  show aw_W G mX11_no 0 [.int (-2)] [] h (0, 0) _
  refine aw_ldc2 dX11_no_0 co11_79 ?_
  refine aw_iload_n dX11_no_3 rfl ?_
  refine aw_i2l dX11_no_4 ?_
  refine aw_lsub dX11_no_5 ?_
  refine aw_retl dX11_no_6 rfl ⟨Nat.le_of_ble_eq_true rfl, Nat.le_of_ble_eq_true rfl⟩ ?_
  exact ⟨congrArg (fun z => some (Value.long z)) (by decide), rfl⟩
theorem m_rumour (G : aw_G) {n c : Nat} {I : Nat → Nat → Int32} {L : Nat → Nat → Int64} {b0 b1 : Nat → Nat} {l0 l1 : Nat} {t u x y V g : Nat → Nat → Nat} {kk : Nat} {F S : Nat → Nat} {E : Nat → Nat → Int32} {fd : Int32} (hX : zTx b0 b1 l0 l1 t u x y V kk) (hI : zMI b0 b1 l0 l1 t u g F S E fd I) {a1 : Int32} {a2 : Int32} {a3 : Int32} : aw_Met G mX11_rumour [.ref 81, .int a1, .int a2, .int a3] (zH n I L c) (fun v h2 => v = some (.long (if zok a1 17 ∧ zok a2 (t 6 0) ∧ zok a3 2 then lN ((if (zt a3) = 0 then (z_sum (z_wf x u t (zt a1) (zt a2)) (2 ^ u 2 0)) else 16 ^ u 2 0) / Nat.gcd (z_sum (z_wf x u t (zt a1) (zt a2)) (2 ^ u 2 0)) (16 ^ u 2 0)) else -9223372036854775806)) ∧ ∃ I2, h2 = zH n I2 L c ∧ zMI b0 b1 l0 l1 t u g F S E fd I2 ∧ ∀ o, o < 81 → I2 o = I o) := by
  obtain ⟨hP, h60, h61, htc, hV, hkk, hx, hy⟩ := id hX
  have h8 := hP.1.1
  have hB := hI.1.1
  have hk10 : kk ≤ 10 := by rw [hkk]; exact q_k_leW hB.2.2.2.2.1
  have hVo : f_Vok V kk := by rw [hV, hkk]; exact v_w_ok
  refine aw_Met.of okX11_rumour (Nat.le_of_ble_eq_true rfl) ?_
  show aw_W G mX11_rumour 0 [.ref 81, .int a1, .int a2, .int a3] [] (zH n I L c) (0, 0) _
  refine aw_aload_n dX11_rumour_0 rfl ?_
  refine aw_V0c (As := []) dX11_rumour_1 k11_218 rfl rfl rfl ⟨Nat.le_of_ble_eq_true rfl, Nat.le_of_ble_eq_true rfl⟩ (Nat.le_of_ble_eq_true rfl) ⟨⟨Nat.le_of_ble_eq_true rfl, Nat.le_of_ble_eq_true rfl⟩, ⟨Nat.le_of_ble_eq_true rfl, Nat.le_of_ble_eq_true rfl⟩⟩ ⟨rfl, rfl⟩ (w_find G hX hI.1) (fun v h2 hq => ?_)
  obtain ⟨rfl, I2, rfl, m, ho, hM, hTo⟩ := hq
  have hot := zOut (u := u) (s := z0) (m := m) hP.1 hP.2.2.2.1 hP.2.2.2.2.1 hP.2.2.2.2.2 z0_old ho.1 (fun k hk => hP.2.1 k (by omega))
  refine aw_iload_n dX11_rumour_4 rfl ?_
  refine aw_i2l dX11_rumour_5 ?_
  refine aw_lconst (v := 0) dX11_rumour_6 rfl ?_
  refine aw_ldc2 dX11_rumour_7 co11_284 ?_
  refine aw_S0c (As := [_, _, _]) dX11_rumour_10 k11_81 rfl rfl (Nat.le_of_ble_eq_true rfl) ⟨⟨Nat.le_of_ble_eq_true rfl, Nat.le_of_ble_eq_true rfl⟩, ⟨Nat.le_of_ble_eq_true rfl, Nat.le_of_ble_eq_true rfl⟩⟩ ⟨rfl, rfl⟩ (w_in G a1 (b := 17) rfl rfl) (fun v h2 hq => ?_)
  obtain ⟨rfl, rfl⟩ := hq
  refine aw_if_eq_B (tgt := 41) dX11_rumour_13 (by decide) (fun c13 => ?_) (fun c13 => ?_)
  · refine aw_bipush (v := -2) dX11_rumour_41 (by decide) ?_
    refine aw_S0c (As := [_]) dX11_rumour_43 k11_290 rfl rfl (Nat.le_of_ble_eq_true rfl) ⟨⟨Nat.le_of_ble_eq_true rfl, Nat.le_of_ble_eq_true rfl⟩, ⟨Nat.le_of_ble_eq_true rfl, Nat.le_of_ble_eq_true rfl⟩⟩ ⟨rfl, rfl⟩ (w_no G) (fun v h2 hq => ?_)
    obtain ⟨rfl, rfl⟩ := hq
    refine aw_retl dX11_rumour_46 rfl ⟨Nat.le_of_ble_eq_true rfl, Nat.le_of_ble_eq_true rfl⟩ ?_
    refine ⟨by rw [if_neg (fun z => c13 z.1)], _, rfl, hI.my hM, hM.fr⟩
  · obtain ⟨p1, hp1, rfl⟩ := zok_ex c13
    refine aw_aload_n dX11_rumour_16 rfl ?_
    refine aw_iload_n dX11_rumour_17 rfl ?_
    refine aw_V0c (As := [_]) dX11_rumour_18 k11_153 rfl rfl rfl ⟨Nat.le_of_ble_eq_true rfl, Nat.le_of_ble_eq_true rfl⟩ (Nat.le_of_ble_eq_true rfl) ⟨⟨Nat.le_of_ble_eq_true rfl, Nat.le_of_ble_eq_true rfl⟩, ⟨Nat.le_of_ble_eq_true rfl, Nat.le_of_ble_eq_true rfl⟩⟩ ⟨rfl, rfl⟩ (w_isCarter G a2 (k := t 6 0) hM.2.1.2.2.1 h8) (fun v h2 hq => ?_)
    obtain ⟨rfl, rfl⟩ := hq
    refine aw_if_eq_B (tgt := 41) dX11_rumour_21 (by decide) (fun c21 => ?_) (fun c21 => ?_)
    · refine aw_bipush (v := -2) dX11_rumour_41 (by decide) ?_
      refine aw_S0c (As := [_]) dX11_rumour_43 k11_290 rfl rfl (Nat.le_of_ble_eq_true rfl) ⟨⟨Nat.le_of_ble_eq_true rfl, Nat.le_of_ble_eq_true rfl⟩, ⟨Nat.le_of_ble_eq_true rfl, Nat.le_of_ble_eq_true rfl⟩⟩ ⟨rfl, rfl⟩ (w_no G) (fun v h2 hq => ?_)
      obtain ⟨rfl, rfl⟩ := hq
      refine aw_retl dX11_rumour_46 rfl ⟨Nat.le_of_ble_eq_true rfl, Nat.le_of_ble_eq_true rfl⟩ ?_
      refine ⟨by rw [if_neg (fun z => c21 z.2.1)], _, rfl, hI.my hM, hM.fr⟩
    · obtain ⟨p2, hp2, rfl⟩ := zok_ex c21
      refine aw_iload_n dX11_rumour_24 rfl ?_
      refine aw_S0c (As := [_]) dX11_rumour_25 k11_110 rfl rfl (Nat.le_of_ble_eq_true rfl) ⟨⟨Nat.le_of_ble_eq_true rfl, Nat.le_of_ble_eq_true rfl⟩, ⟨Nat.le_of_ble_eq_true rfl, Nat.le_of_ble_eq_true rfl⟩⟩ ⟨rfl, rfl⟩ (w_isTwo G a3) (fun v h2 hq => ?_)
      obtain ⟨rfl, rfl⟩ := hq
      refine aw_if_eq_B (tgt := 41) dX11_rumour_28 (by decide) (fun c28 => ?_) (fun c28 => ?_)
      · refine aw_bipush (v := -2) dX11_rumour_41 (by decide) ?_
        refine aw_S0c (As := [_]) dX11_rumour_43 k11_290 rfl rfl (Nat.le_of_ble_eq_true rfl) ⟨⟨Nat.le_of_ble_eq_true rfl, Nat.le_of_ble_eq_true rfl⟩, ⟨Nat.le_of_ble_eq_true rfl, Nat.le_of_ble_eq_true rfl⟩⟩ ⟨rfl, rfl⟩ (w_no G) (fun v h2 hq => ?_)
        obtain ⟨rfl, rfl⟩ := hq
        refine aw_retl dX11_rumour_46 rfl ⟨Nat.le_of_ble_eq_true rfl, Nat.le_of_ble_eq_true rfl⟩ ?_
        refine ⟨by rw [if_neg (fun z => c28 z.2.2)], _, rfl, hI.my hM, hM.fr⟩
      · obtain ⟨p3, hp3, rfl⟩ := zok_ex c28
        refine aw_aload_n dX11_rumour_31 rfl ?_
        refine aw_iload_n dX11_rumour_32 rfl ?_
        refine aw_iload_n dX11_rumour_33 rfl ?_
        refine aw_iload_n dX11_rumour_34 rfl ?_
        refine aw_V0c (As := [_, _, _]) dX11_rumour_35 k11_286 rfl rfl rfl ⟨Nat.le_of_ble_eq_true rfl, Nat.le_of_ble_eq_true rfl⟩ (Nat.le_of_ble_eq_true rfl) ⟨⟨Nat.le_of_ble_eq_true rfl, Nat.le_of_ble_eq_true rfl⟩, ⟨Nat.le_of_ble_eq_true rfl, Nat.le_of_ble_eq_true rfl⟩⟩ ⟨rfl, rfl⟩ (w_rumourOf G hM hP (c := p1) hp2 (by omega) hp3 h61) (fun v h2 hq => ?_)
        obtain ⟨rfl, I3, rfl, m3, hM3⟩ := hq
        refine aw_goto (tgt := 46) dX11_rumour_38 (by decide) ?_
        refine aw_retl dX11_rumour_46 rfl ⟨Nat.le_of_ble_eq_true rfl, Nat.le_of_ble_eq_true rfl⟩ ?_
        exact ⟨by rw [if_pos (show zok (nI p1) 17 ∧ zok (nI p2) (t 6 0) ∧ zok (nI p3) 2 from ⟨c13, c21, c28⟩), zt_nI (show p1 < 2147483648 by omega), zt_nI (show p2 < 2147483648 by omega), zt_nI (show p3 < 2147483648 by omega)], _, rfl, hI.my hM3, hM3.fr⟩
theorem m_market (G : aw_G) {n c : Nat} {I : Nat → Nat → Int32} {L : Nat → Nat → Int64} {b0 b1 : Nat → Nat} {l0 l1 : Nat} {t u x y V g : Nat → Nat → Nat} {kk : Nat} {F S : Nat → Nat} {E : Nat → Nat → Int32} {fd : Int32} (hX : zTx b0 b1 l0 l1 t u x y V kk) (hI : zMI b0 b1 l0 l1 t u g F S E fd I) {a1 : Int32} {a2 : Int32} : aw_Met G mX11_market [.ref 81, .int a1, .int a2] (zH n I L c) (fun v h2 => v = some (.int (if zok a2 2 then nI (z_ones (o_who x u (t_dr t a1 (t 6 0)) (if (zt a2) = 0 then 2 else 4))) else -2)) ∧ ∃ I2, h2 = zH n I2 L c ∧ zMI b0 b1 l0 l1 t u g F S E fd I2 ∧ ∀ o, o < 81 → I2 o = I o) := by
  obtain ⟨hP, h60, h61, htc, hV, hkk, hx, hy⟩ := id hX
  have h8 := hP.1.1
  have hB := hI.1.1
  have hk10 : kk ≤ 10 := by rw [hkk]; exact q_k_leW hB.2.2.2.2.1
  have hVo : f_Vok V kk := by rw [hV, hkk]; exact v_w_ok
  refine aw_Met.of okX11_market (Nat.le_of_ble_eq_true rfl) ?_
  show aw_W G mX11_market 0 [.ref 81, .int a1, .int a2] [] (zH n I L c) (0, 0) _
  refine aw_aload_n dX11_market_0 rfl ?_
  refine aw_V0c (As := []) dX11_market_1 k11_218 rfl rfl rfl ⟨Nat.le_of_ble_eq_true rfl, Nat.le_of_ble_eq_true rfl⟩ (Nat.le_of_ble_eq_true rfl) ⟨⟨Nat.le_of_ble_eq_true rfl, Nat.le_of_ble_eq_true rfl⟩, ⟨Nat.le_of_ble_eq_true rfl, Nat.le_of_ble_eq_true rfl⟩⟩ ⟨rfl, rfl⟩ (w_find G hX hI.1) (fun v h2 hq => ?_)
  obtain ⟨rfl, I2, rfl, m, ho, hM, hTo⟩ := hq
  have hot := zOut (u := u) (s := z0) (m := m) hP.1 hP.2.2.2.1 hP.2.2.2.2.1 hP.2.2.2.2.2 z0_old ho.1 (fun k hk => hP.2.1 k (by omega))
  refine aw_iload_n dX11_market_4 rfl ?_
  refine aw_S0c (As := [_]) dX11_market_5 k11_110 rfl rfl (Nat.le_of_ble_eq_true rfl) ⟨⟨Nat.le_of_ble_eq_true rfl, Nat.le_of_ble_eq_true rfl⟩, ⟨Nat.le_of_ble_eq_true rfl, Nat.le_of_ble_eq_true rfl⟩⟩ ⟨rfl, rfl⟩ (w_isTwo G a2) (fun v h2 hq => ?_)
  obtain ⟨rfl, rfl⟩ := hq
  refine aw_if_eq_B (tgt := 20) dX11_market_8 (by decide) (fun c8 => ?_) (fun c8 => ?_)
  · refine aw_bipush (v := -2) dX11_market_20 (by decide) ?_
    refine aw_reti dX11_market_22 rfl rfl ⟨Nat.le_of_ble_eq_true rfl, Nat.le_of_ble_eq_true rfl⟩ ?_
    refine ⟨by rw [if_neg (fun z => c8 z)], _, rfl, hI.my hM, hM.fr⟩
  · obtain ⟨p2, hp2, rfl⟩ := zok_ex c8
    refine aw_aload_n dX11_market_11 rfl ?_
    refine aw_iload_n dX11_market_12 rfl ?_
    refine aw_iload_n dX11_market_13 rfl ?_
    refine aw_V0c (As := [_, _]) dX11_market_14 k11_301 rfl rfl rfl ⟨Nat.le_of_ble_eq_true rfl, Nat.le_of_ble_eq_true rfl⟩ (Nat.le_of_ble_eq_true rfl) ⟨⟨Nat.le_of_ble_eq_true rfl, Nat.le_of_ble_eq_true rfl⟩, ⟨Nat.le_of_ble_eq_true rfl, Nat.le_of_ble_eq_true rfl⟩⟩ ⟨rfl, rfl⟩ (w_marketOf G hM hP (sd := a1) hB hp2 h60 htc) (fun v h2 hq => ?_)
    obtain ⟨rfl, I3, rfl, m3, hM3⟩ := hq
    refine aw_goto (tgt := 22) dX11_market_17 (by decide) ?_
    refine aw_reti dX11_market_22 rfl rfl ⟨Nat.le_of_ble_eq_true rfl, Nat.le_of_ble_eq_true rfl⟩ ?_
    exact ⟨by rw [if_pos c8, zt_nI (show p2 < 2147483648 by omega)], _, rfl, hI.my hM3, hM3.fr⟩
theorem m_count0 (G : aw_G) {n c : Nat} {I : Nat → Nat → Int32} {L : Nat → Nat → Int64} {b0 b1 : Nat → Nat} {l0 l1 : Nat} {t u x y V g : Nat → Nat → Nat} {kk : Nat} {F S : Nat → Nat} {E : Nat → Nat → Int32} {fd : Int32} (hX : zTx b0 b1 l0 l1 t u x y V kk) (hI : zMI b0 b1 l0 l1 t u g F S E fd I)  : aw_Met G mX11_count [.ref 81, .int 0] (zH n I L c) (fun v h2 => v = some (.int (nI kk)) ∧ ∃ I2, h2 = zH n I2 L c ∧ zMI b0 b1 l0 l1 t u g F S E fd I2 ∧ ∀ o, o < 81 → I2 o = I o) := by
  obtain ⟨hP, h60, h61, htc, hV, hkk, hx, hy⟩ := id hX
  have h8 := hP.1.1
  have hB := hI.1.1
  have hk10 : kk ≤ 10 := by rw [hkk]; exact q_k_leW hB.2.2.2.2.1
  have hVo : f_Vok V kk := by rw [hV, hkk]; exact v_w_ok
  refine aw_Met.of okX11_count (Nat.le_of_ble_eq_true rfl) ?_
  show aw_W G mX11_count 0 [.ref 81, .int 0] [] (zH n I L c) (0, 0) _
  refine aw_aload_n dX11_count_0 rfl ?_
  refine aw_V0c (As := []) dX11_count_1 k11_218 rfl rfl rfl ⟨Nat.le_of_ble_eq_true rfl, Nat.le_of_ble_eq_true rfl⟩ (Nat.le_of_ble_eq_true rfl) ⟨⟨Nat.le_of_ble_eq_true rfl, Nat.le_of_ble_eq_true rfl⟩, ⟨Nat.le_of_ble_eq_true rfl, Nat.le_of_ble_eq_true rfl⟩⟩ ⟨rfl, rfl⟩ (w_find G hX hI.1) (fun v h2 hq => ?_)
  obtain ⟨rfl, I2, rfl, m, ho, hM, hTo⟩ := hq
  have hot := zOut (u := u) (s := z0) (m := m) hP.1 hP.2.2.2.1 hP.2.2.2.2.1 hP.2.2.2.2.2 z0_old ho.1 (fun k hk => hP.2.1 k (by omega))
  have hI2 := hI.my hM
  refine aw_iload_n dX11_count_4 rfl ?_
  refine aw_swIn (off := 51) (tgt := 56) dX11_count_5 (by decide) (by decide) rfl (by decide) ?_
  refine aw_aload_n dX11_count_56 rfl ?_
  refine aw_getI dX11_count_57 f11_127 rfl ⟨Nat.le_of_ble_eq_true rfl, Nat.le_of_ble_eq_true rfl⟩ rfl ?_
  refine aw_top hM.1.1 ?_
  refine aw_reti dX11_count_60 rfl rfl ⟨Nat.le_of_ble_eq_true rfl, Nat.le_of_ble_eq_true rfl⟩ ?_
  exact ⟨rfl, _, rfl, hI.my hM, hM.fr⟩
theorem m_count1 (G : aw_G) {n c : Nat} {I : Nat → Nat → Int32} {L : Nat → Nat → Int64} {b0 b1 : Nat → Nat} {l0 l1 : Nat} {t u x y V g : Nat → Nat → Nat} {kk : Nat} {F S : Nat → Nat} {E : Nat → Nat → Int32} {fd : Int32} (hX : zTx b0 b1 l0 l1 t u x y V kk) (hI : zMI b0 b1 l0 l1 t u g F S E fd I)  : aw_Met G mX11_count [.ref 81, .int 1] (zH n I L c) (fun v h2 => v = some (.int (nI (t 6 0))) ∧ ∃ I2, h2 = zH n I2 L c ∧ zMI b0 b1 l0 l1 t u g F S E fd I2 ∧ ∀ o, o < 81 → I2 o = I o) := by
  obtain ⟨hP, h60, h61, htc, hV, hkk, hx, hy⟩ := id hX
  have h8 := hP.1.1
  have hB := hI.1.1
  have hk10 : kk ≤ 10 := by rw [hkk]; exact q_k_leW hB.2.2.2.2.1
  have hVo : f_Vok V kk := by rw [hV, hkk]; exact v_w_ok
  refine aw_Met.of okX11_count (Nat.le_of_ble_eq_true rfl) ?_
  show aw_W G mX11_count 0 [.ref 81, .int 1] [] (zH n I L c) (0, 0) _
  refine aw_aload_n dX11_count_0 rfl ?_
  refine aw_V0c (As := []) dX11_count_1 k11_218 rfl rfl rfl ⟨Nat.le_of_ble_eq_true rfl, Nat.le_of_ble_eq_true rfl⟩ (Nat.le_of_ble_eq_true rfl) ⟨⟨Nat.le_of_ble_eq_true rfl, Nat.le_of_ble_eq_true rfl⟩, ⟨Nat.le_of_ble_eq_true rfl, Nat.le_of_ble_eq_true rfl⟩⟩ ⟨rfl, rfl⟩ (w_find G hX hI.1) (fun v h2 hq => ?_)
  obtain ⟨rfl, I2, rfl, m, ho, hM, hTo⟩ := hq
  have hot := zOut (u := u) (s := z0) (m := m) hP.1 hP.2.2.2.1 hP.2.2.2.2.1 hP.2.2.2.2.2 z0_old ho.1 (fun k hk => hP.2.1 k (by omega))
  have hI2 := hI.my hM
  refine aw_iload_n dX11_count_4 rfl ?_
  refine aw_swIn (off := 56) (tgt := 61) dX11_count_5 (by decide) (by decide) rfl (by decide) ?_
  refine aw_aload_n dX11_count_61 rfl ?_
  refine aw_getI dX11_count_62 f11_133 rfl ⟨Nat.le_of_ble_eq_true rfl, Nat.le_of_ble_eq_true rfl⟩ rfl ?_
  refine aw_top hM.2.1.2.2.1 ?_
  refine aw_reti dX11_count_65 rfl rfl ⟨Nat.le_of_ble_eq_true rfl, Nat.le_of_ble_eq_true rfl⟩ ?_
  exact ⟨rfl, _, rfl, hI.my hM, hM.fr⟩
theorem m_count2 (G : aw_G) {n c : Nat} {I : Nat → Nat → Int32} {L : Nat → Nat → Int64} {b0 b1 : Nat → Nat} {l0 l1 : Nat} {t u x y V g : Nat → Nat → Nat} {kk : Nat} {F S : Nat → Nat} {E : Nat → Nat → Int32} {fd : Int32} (hX : zTx b0 b1 l0 l1 t u x y V kk) (hI : zMI b0 b1 l0 l1 t u g F S E fd I)  : aw_Met G mX11_count [.ref 81, .int 2] (zH n I L c) (fun v h2 => v = some (.int (nI l0)) ∧ ∃ I2, h2 = zH n I2 L c ∧ zMI b0 b1 l0 l1 t u g F S E fd I2 ∧ ∀ o, o < 81 → I2 o = I o) := by
  obtain ⟨hP, h60, h61, htc, hV, hkk, hx, hy⟩ := id hX
  have h8 := hP.1.1
  have hB := hI.1.1
  have hk10 : kk ≤ 10 := by rw [hkk]; exact q_k_leW hB.2.2.2.2.1
  have hVo : f_Vok V kk := by rw [hV, hkk]; exact v_w_ok
  refine aw_Met.of okX11_count (Nat.le_of_ble_eq_true rfl) ?_
  show aw_W G mX11_count 0 [.ref 81, .int 2] [] (zH n I L c) (0, 0) _
  refine aw_aload_n dX11_count_0 rfl ?_
  refine aw_V0c (As := []) dX11_count_1 k11_218 rfl rfl rfl ⟨Nat.le_of_ble_eq_true rfl, Nat.le_of_ble_eq_true rfl⟩ (Nat.le_of_ble_eq_true rfl) ⟨⟨Nat.le_of_ble_eq_true rfl, Nat.le_of_ble_eq_true rfl⟩, ⟨Nat.le_of_ble_eq_true rfl, Nat.le_of_ble_eq_true rfl⟩⟩ ⟨rfl, rfl⟩ (w_find G hX hI.1) (fun v h2 hq => ?_)
  obtain ⟨rfl, I2, rfl, m, ho, hM, hTo⟩ := hq
  have hot := zOut (u := u) (s := z0) (m := m) hP.1 hP.2.2.2.1 hP.2.2.2.2.1 hP.2.2.2.2.2 z0_old ho.1 (fun k hk => hP.2.1 k (by omega))
  have hI2 := hI.my hM
  refine aw_iload_n dX11_count_4 rfl ?_
  refine aw_swIn (off := 61) (tgt := 66) dX11_count_5 (by decide) (by decide) rfl (by decide) ?_
  refine aw_aload_n dX11_count_66 rfl ?_
  refine aw_getR dX11_count_67 f11_25 rfl ⟨Nat.le_of_ble_eq_true rfl, Nat.le_of_ble_eq_true rfl⟩ rfl rfl ?_
  refine aw_iload_n dX11_count_70 rfl ?_
  refine aw_iconst (v := 2) dX11_count_71 rfl ?_
  refine aw_isub_n (a := 2) (b := 2) dX11_count_72 (by omega) ?_
  refine aw_iald_n (j := 2 - 2) dX11_count_73 rfl (Nat.le_of_ble_eq_true rfl) (by decide) (by omega) ?_
  refine aw_top (hI2.1.1.2.2.1) ?_
  refine aw_reti dX11_count_74 rfl rfl ⟨Nat.le_of_ble_eq_true rfl, Nat.le_of_ble_eq_true rfl⟩ ?_
  exact ⟨rfl, _, rfl, hI.my hM, hM.fr⟩
theorem m_count3 (G : aw_G) {n c : Nat} {I : Nat → Nat → Int32} {L : Nat → Nat → Int64} {b0 b1 : Nat → Nat} {l0 l1 : Nat} {t u x y V g : Nat → Nat → Nat} {kk : Nat} {F S : Nat → Nat} {E : Nat → Nat → Int32} {fd : Int32} (hX : zTx b0 b1 l0 l1 t u x y V kk) (hI : zMI b0 b1 l0 l1 t u g F S E fd I)  : aw_Met G mX11_count [.ref 81, .int 3] (zH n I L c) (fun v h2 => v = some (.int (nI l1)) ∧ ∃ I2, h2 = zH n I2 L c ∧ zMI b0 b1 l0 l1 t u g F S E fd I2 ∧ ∀ o, o < 81 → I2 o = I o) := by
  obtain ⟨hP, h60, h61, htc, hV, hkk, hx, hy⟩ := id hX
  have h8 := hP.1.1
  have hB := hI.1.1
  have hk10 : kk ≤ 10 := by rw [hkk]; exact q_k_leW hB.2.2.2.2.1
  have hVo : f_Vok V kk := by rw [hV, hkk]; exact v_w_ok
  refine aw_Met.of okX11_count (Nat.le_of_ble_eq_true rfl) ?_
  show aw_W G mX11_count 0 [.ref 81, .int 3] [] (zH n I L c) (0, 0) _
  refine aw_aload_n dX11_count_0 rfl ?_
  refine aw_V0c (As := []) dX11_count_1 k11_218 rfl rfl rfl ⟨Nat.le_of_ble_eq_true rfl, Nat.le_of_ble_eq_true rfl⟩ (Nat.le_of_ble_eq_true rfl) ⟨⟨Nat.le_of_ble_eq_true rfl, Nat.le_of_ble_eq_true rfl⟩, ⟨Nat.le_of_ble_eq_true rfl, Nat.le_of_ble_eq_true rfl⟩⟩ ⟨rfl, rfl⟩ (w_find G hX hI.1) (fun v h2 hq => ?_)
  obtain ⟨rfl, I2, rfl, m, ho, hM, hTo⟩ := hq
  have hot := zOut (u := u) (s := z0) (m := m) hP.1 hP.2.2.2.1 hP.2.2.2.2.1 hP.2.2.2.2.2 z0_old ho.1 (fun k hk => hP.2.1 k (by omega))
  have hI2 := hI.my hM
  refine aw_iload_n dX11_count_4 rfl ?_
  refine aw_swIn (off := 61) (tgt := 66) dX11_count_5 (by decide) (by decide) rfl (by decide) ?_
  refine aw_aload_n dX11_count_66 rfl ?_
  refine aw_getR dX11_count_67 f11_25 rfl ⟨Nat.le_of_ble_eq_true rfl, Nat.le_of_ble_eq_true rfl⟩ rfl rfl ?_
  refine aw_iload_n dX11_count_70 rfl ?_
  refine aw_iconst (v := 2) dX11_count_71 rfl ?_
  refine aw_isub_n (a := 3) (b := 2) dX11_count_72 (by omega) ?_
  refine aw_iald_n (j := 3 - 2) dX11_count_73 rfl (Nat.le_of_ble_eq_true rfl) (by decide) (by omega) ?_
  refine aw_top (hI2.1.1.2.2.2.1) ?_
  refine aw_reti dX11_count_74 rfl rfl ⟨Nat.le_of_ble_eq_true rfl, Nat.le_of_ble_eq_true rfl⟩ ?_
  exact ⟨rfl, _, rfl, hI.my hM, hM.fr⟩
theorem m_count4 (G : aw_G) {n c : Nat} {I : Nat → Nat → Int32} {L : Nat → Nat → Int64} {b0 b1 : Nat → Nat} {l0 l1 : Nat} {t u x y V g : Nat → Nat → Nat} {kk : Nat} {F S : Nat → Nat} {E : Nat → Nat → Int32} {fd : Int32} (hX : zTx b0 b1 l0 l1 t u x y V kk) (hI : zMI b0 b1 l0 l1 t u g F S E fd I)  : aw_Met G mX11_count [.ref 81, .int 4] (zH n I L c) (fun v h2 => v = some (.int (nI (u 2 0))) ∧ ∃ I2, h2 = zH n I2 L c ∧ zMI b0 b1 l0 l1 t u g F S E fd I2 ∧ ∀ o, o < 81 → I2 o = I o) := by
  obtain ⟨hP, h60, h61, htc, hV, hkk, hx, hy⟩ := id hX
  have h8 := hP.1.1
  have hB := hI.1.1
  have hk10 : kk ≤ 10 := by rw [hkk]; exact q_k_leW hB.2.2.2.2.1
  have hVo : f_Vok V kk := by rw [hV, hkk]; exact v_w_ok
  refine aw_Met.of okX11_count (Nat.le_of_ble_eq_true rfl) ?_
  show aw_W G mX11_count 0 [.ref 81, .int 4] [] (zH n I L c) (0, 0) _
  refine aw_aload_n dX11_count_0 rfl ?_
  refine aw_V0c (As := []) dX11_count_1 k11_218 rfl rfl rfl ⟨Nat.le_of_ble_eq_true rfl, Nat.le_of_ble_eq_true rfl⟩ (Nat.le_of_ble_eq_true rfl) ⟨⟨Nat.le_of_ble_eq_true rfl, Nat.le_of_ble_eq_true rfl⟩, ⟨Nat.le_of_ble_eq_true rfl, Nat.le_of_ble_eq_true rfl⟩⟩ ⟨rfl, rfl⟩ (w_find G hX hI.1) (fun v h2 hq => ?_)
  obtain ⟨rfl, I2, rfl, m, ho, hM, hTo⟩ := hq
  have hot := zOut (u := u) (s := z0) (m := m) hP.1 hP.2.2.2.1 hP.2.2.2.2.1 hP.2.2.2.2.2 z0_old ho.1 (fun k hk => hP.2.1 k (by omega))
  have hI2 := hI.my hM
  refine aw_iload_n dX11_count_4 rfl ?_
  refine aw_swIn (off := 70) (tgt := 75) dX11_count_5 (by decide) (by decide) rfl (by decide) ?_
  refine aw_aload_n dX11_count_75 rfl ?_
  refine aw_getI dX11_count_76 f11_166 rfl ⟨Nat.le_of_ble_eq_true rfl, Nat.le_of_ble_eq_true rfl⟩ rfl ?_
  refine aw_top hM.2.2.1.1 ?_
  refine aw_reti dX11_count_79 rfl rfl ⟨Nat.le_of_ble_eq_true rfl, Nat.le_of_ble_eq_true rfl⟩ ?_
  exact ⟨rfl, _, rfl, hI.my hM, hM.fr⟩
theorem m_count5 (G : aw_G) {n c : Nat} {I : Nat → Nat → Int32} {L : Nat → Nat → Int64} {b0 b1 : Nat → Nat} {l0 l1 : Nat} {t u x y V g : Nat → Nat → Nat} {kk : Nat} {F S : Nat → Nat} {E : Nat → Nat → Int32} {fd : Int32} (hX : zTx b0 b1 l0 l1 t u x y V kk) (hI : zMI b0 b1 l0 l1 t u g F S E fd I)  : aw_Met G mX11_count [.ref 81, .int 5] (zH n I L c) (fun v h2 => v = some (.int (nI (o_cm x u t))) ∧ ∃ I2, h2 = zH n I2 L c ∧ zMI b0 b1 l0 l1 t u g F S E fd I2 ∧ ∀ o, o < 81 → I2 o = I o) := by
  obtain ⟨hP, h60, h61, htc, hV, hkk, hx, hy⟩ := id hX
  have h8 := hP.1.1
  have hB := hI.1.1
  have hk10 : kk ≤ 10 := by rw [hkk]; exact q_k_leW hB.2.2.2.2.1
  have hVo : f_Vok V kk := by rw [hV, hkk]; exact v_w_ok
  refine aw_Met.of okX11_count (Nat.le_of_ble_eq_true rfl) ?_
  show aw_W G mX11_count 0 [.ref 81, .int 5] [] (zH n I L c) (0, 0) _
  refine aw_aload_n dX11_count_0 rfl ?_
  refine aw_V0c (As := []) dX11_count_1 k11_218 rfl rfl rfl ⟨Nat.le_of_ble_eq_true rfl, Nat.le_of_ble_eq_true rfl⟩ (Nat.le_of_ble_eq_true rfl) ⟨⟨Nat.le_of_ble_eq_true rfl, Nat.le_of_ble_eq_true rfl⟩, ⟨Nat.le_of_ble_eq_true rfl, Nat.le_of_ble_eq_true rfl⟩⟩ ⟨rfl, rfl⟩ (w_find G hX hI.1) (fun v h2 hq => ?_)
  obtain ⟨rfl, I2, rfl, m, ho, hM, hTo⟩ := hq
  have hot := zOut (u := u) (s := z0) (m := m) hP.1 hP.2.2.2.1 hP.2.2.2.2.1 hP.2.2.2.2.2 z0_old ho.1 (fun k hk => hP.2.1 k (by omega))
  have hI2 := hI.my hM
  refine aw_iload_n dX11_count_4 rfl ?_
  refine aw_swIn (off := 75) (tgt := 80) dX11_count_5 (by decide) (by decide) rfl (by decide) ?_
  refine aw_aload_n dX11_count_80 rfl ?_
  refine aw_V0c (As := []) dX11_count_81 k11_244 rfl rfl rfl ⟨Nat.le_of_ble_eq_true rfl, Nat.le_of_ble_eq_true rfl⟩ (Nat.le_of_ble_eq_true rfl) ⟨⟨Nat.le_of_ble_eq_true rfl, Nat.le_of_ble_eq_true rfl⟩, ⟨Nat.le_of_ble_eq_true rfl, Nat.le_of_ble_eq_true rfl⟩⟩ ⟨rfl, rfl⟩ (w_cm G hM ho hP) (fun v h2 hq => ?_)
  obtain ⟨rfl, rfl⟩ := hq
  refine aw_reti dX11_count_84 rfl rfl ⟨Nat.le_of_ble_eq_true rfl, Nat.le_of_ble_eq_true rfl⟩ ?_
  exact ⟨rfl, _, rfl, hI.my hM, hM.fr⟩
theorem m_count6 (G : aw_G) {n c : Nat} {I : Nat → Nat → Int32} {L : Nat → Nat → Int64} {b0 b1 : Nat → Nat} {l0 l1 : Nat} {t u x y V g : Nat → Nat → Nat} {kk : Nat} {F S : Nat → Nat} {E : Nat → Nat → Int32} {fd : Int32} (hX : zTx b0 b1 l0 l1 t u x y V kk) (hI : zMI b0 b1 l0 l1 t u g F S E fd I)  : aw_Met G mX11_count [.ref 81, .int 6] (zH n I L c) (fun v h2 => v = some (.int (nI (z_sum (p_play z0 t u x 4) 8))) ∧ ∃ I2, h2 = zH n I2 L c ∧ zMI b0 b1 l0 l1 t u g F S E fd I2 ∧ ∀ o, o < 81 → I2 o = I o) := by
  obtain ⟨hP, h60, h61, htc, hV, hkk, hx, hy⟩ := id hX
  have h8 := hP.1.1
  have hB := hI.1.1
  have hk10 : kk ≤ 10 := by rw [hkk]; exact q_k_leW hB.2.2.2.2.1
  have hVo : f_Vok V kk := by rw [hV, hkk]; exact v_w_ok
  refine aw_Met.of okX11_count (Nat.le_of_ble_eq_true rfl) ?_
  show aw_W G mX11_count 0 [.ref 81, .int 6] [] (zH n I L c) (0, 0) _
  refine aw_aload_n dX11_count_0 rfl ?_
  refine aw_V0c (As := []) dX11_count_1 k11_218 rfl rfl rfl ⟨Nat.le_of_ble_eq_true rfl, Nat.le_of_ble_eq_true rfl⟩ (Nat.le_of_ble_eq_true rfl) ⟨⟨Nat.le_of_ble_eq_true rfl, Nat.le_of_ble_eq_true rfl⟩, ⟨Nat.le_of_ble_eq_true rfl, Nat.le_of_ble_eq_true rfl⟩⟩ ⟨rfl, rfl⟩ (w_find G hX hI.1) (fun v h2 hq => ?_)
  obtain ⟨rfl, I2, rfl, m, ho, hM, hTo⟩ := hq
  have hot := zOut (u := u) (s := z0) (m := m) hP.1 hP.2.2.2.1 hP.2.2.2.2.1 hP.2.2.2.2.2 z0_old ho.1 (fun k hk => hP.2.1 k (by omega))
  have hI2 := hI.my hM
  refine aw_iload_n dX11_count_4 rfl ?_
  refine aw_swIn (off := 80) (tgt := 85) dX11_count_5 (by decide) (by decide) rfl (by decide) ?_
  refine aw_aload_n dX11_count_85 rfl ?_
  refine aw_V0c (As := []) dX11_count_86 k11_304 rfl rfl rfl ⟨Nat.le_of_ble_eq_true rfl, Nat.le_of_ble_eq_true rfl⟩ (Nat.le_of_ble_eq_true rfl) ⟨⟨Nat.le_of_ble_eq_true rfl, Nat.le_of_ble_eq_true rfl⟩, ⟨Nat.le_of_ble_eq_true rfl, Nat.le_of_ble_eq_true rfl⟩⟩ ⟨rfl, rfl⟩ (w_mAll G hM.2.2.2.2.1) (fun v h2 hq => ?_)
  obtain ⟨rfl, rfl⟩ := hq
  rw [z_sum_congr (fun j hj => (hot.2.1 j hj).symm)]
  refine aw_reti dX11_count_89 rfl rfl ⟨Nat.le_of_ble_eq_true rfl, Nat.le_of_ble_eq_true rfl⟩ ?_
  exact ⟨rfl, _, rfl, hI.my hM, hM.fr⟩
theorem m_count7 (G : aw_G) {n c : Nat} {I : Nat → Nat → Int32} {L : Nat → Nat → Int64} {b0 b1 : Nat → Nat} {l0 l1 : Nat} {t u x y V g : Nat → Nat → Nat} {kk : Nat} {F S : Nat → Nat} {E : Nat → Nat → Int32} {fd : Int32} (hX : zTx b0 b1 l0 l1 t u x y V kk) (hI : zMI b0 b1 l0 l1 t u g F S E fd I)  : aw_Met G mX11_count [.ref 81, .int 7] (zH n I L c) (fun v h2 => v = some (.int (nI (g 3 0))) ∧ ∃ I2, h2 = zH n I2 L c ∧ zMI b0 b1 l0 l1 t u g F S E fd I2 ∧ ∀ o, o < 81 → I2 o = I o) := by
  obtain ⟨hP, h60, h61, htc, hV, hkk, hx, hy⟩ := id hX
  have h8 := hP.1.1
  have hB := hI.1.1
  have hk10 : kk ≤ 10 := by rw [hkk]; exact q_k_leW hB.2.2.2.2.1
  have hVo : f_Vok V kk := by rw [hV, hkk]; exact v_w_ok
  refine aw_Met.of okX11_count (Nat.le_of_ble_eq_true rfl) ?_
  show aw_W G mX11_count 0 [.ref 81, .int 7] [] (zH n I L c) (0, 0) _
  refine aw_aload_n dX11_count_0 rfl ?_
  refine aw_V0c (As := []) dX11_count_1 k11_218 rfl rfl rfl ⟨Nat.le_of_ble_eq_true rfl, Nat.le_of_ble_eq_true rfl⟩ (Nat.le_of_ble_eq_true rfl) ⟨⟨Nat.le_of_ble_eq_true rfl, Nat.le_of_ble_eq_true rfl⟩, ⟨Nat.le_of_ble_eq_true rfl, Nat.le_of_ble_eq_true rfl⟩⟩ ⟨rfl, rfl⟩ (w_find G hX hI.1) (fun v h2 hq => ?_)
  obtain ⟨rfl, I2, rfl, m, ho, hM, hTo⟩ := hq
  have hot := zOut (u := u) (s := z0) (m := m) hP.1 hP.2.2.2.1 hP.2.2.2.2.1 hP.2.2.2.2.2 z0_old ho.1 (fun k hk => hP.2.1 k (by omega))
  have hI2 := hI.my hM
  refine aw_iload_n dX11_count_4 rfl ?_
  refine aw_swIn (off := 85) (tgt := 90) dX11_count_5 (by decide) (by decide) rfl (by decide) ?_
  refine aw_aload_n dX11_count_90 rfl ?_
  refine aw_getI dX11_count_91 f11_258 rfl ⟨Nat.le_of_ble_eq_true rfl, Nat.le_of_ble_eq_true rfl⟩ rfl ?_
  refine aw_top hI2.1.2.2.2.2.1.1 ?_
  refine aw_reti dX11_count_94 rfl rfl ⟨Nat.le_of_ble_eq_true rfl, Nat.le_of_ble_eq_true rfl⟩ ?_
  exact ⟨rfl, _, rfl, hI.my hM, hM.fr⟩
theorem m_count8 (G : aw_G) {n c : Nat} {I : Nat → Nat → Int32} {L : Nat → Nat → Int64} {b0 b1 : Nat → Nat} {l0 l1 : Nat} {t u x y V g : Nat → Nat → Nat} {kk : Nat} {F S : Nat → Nat} {E : Nat → Nat → Int32} {fd : Int32} (hX : zTx b0 b1 l0 l1 t u x y V kk) (hI : zMI b0 b1 l0 l1 t u g F S E fd I)  : aw_Met G mX11_count [.ref 81, .int 8] (zH n I L c) (fun v h2 => v = some (.int (fd)) ∧ ∃ I2, h2 = zH n I2 L c ∧ zMI b0 b1 l0 l1 t u g F S E fd I2 ∧ ∀ o, o < 81 → I2 o = I o) := by
  obtain ⟨hP, h60, h61, htc, hV, hkk, hx, hy⟩ := id hX
  have h8 := hP.1.1
  have hB := hI.1.1
  have hk10 : kk ≤ 10 := by rw [hkk]; exact q_k_leW hB.2.2.2.2.1
  have hVo : f_Vok V kk := by rw [hV, hkk]; exact v_w_ok
  refine aw_Met.of okX11_count (Nat.le_of_ble_eq_true rfl) ?_
  show aw_W G mX11_count 0 [.ref 81, .int 8] [] (zH n I L c) (0, 0) _
  refine aw_aload_n dX11_count_0 rfl ?_
  refine aw_V0c (As := []) dX11_count_1 k11_218 rfl rfl rfl ⟨Nat.le_of_ble_eq_true rfl, Nat.le_of_ble_eq_true rfl⟩ (Nat.le_of_ble_eq_true rfl) ⟨⟨Nat.le_of_ble_eq_true rfl, Nat.le_of_ble_eq_true rfl⟩, ⟨Nat.le_of_ble_eq_true rfl, Nat.le_of_ble_eq_true rfl⟩⟩ ⟨rfl, rfl⟩ (w_find G hX hI.1) (fun v h2 hq => ?_)
  obtain ⟨rfl, I2, rfl, m, ho, hM, hTo⟩ := hq
  have hot := zOut (u := u) (s := z0) (m := m) hP.1 hP.2.2.2.1 hP.2.2.2.2.1 hP.2.2.2.2.2 z0_old ho.1 (fun k hk => hP.2.1 k (by omega))
  have hI2 := hI.my hM
  refine aw_iload_n dX11_count_4 rfl ?_
  refine aw_swIn (off := 90) (tgt := 95) dX11_count_5 (by decide) (by decide) rfl (by decide) ?_
  refine aw_aload_n dX11_count_95 rfl ?_
  refine aw_getI dX11_count_96 f11_85 rfl ⟨Nat.le_of_ble_eq_true rfl, Nat.le_of_ble_eq_true rfl⟩ rfl ?_
  refine aw_top hI2.2.2 ?_
  refine aw_reti dX11_count_99 rfl rfl ⟨Nat.le_of_ble_eq_true rfl, Nat.le_of_ble_eq_true rfl⟩ ?_
  exact ⟨rfl, _, rfl, hI.my hM, hM.fr⟩
theorem m_countB (G : aw_G) {n c : Nat} {I : Nat → Nat → Int32} {L : Nat → Nat → Int64} {b0 b1 : Nat → Nat} {l0 l1 : Nat} {t u x y V g : Nat → Nat → Nat} {kk : Nat} {F S : Nat → Nat} {E : Nat → Nat → Int32} {fd : Int32} (hX : zTx b0 b1 l0 l1 t u x y V kk) (hI : zMI b0 b1 l0 l1 t u g F S E fd I) {a1 : Int32} (hz : ¬ zok a1 9) : aw_Met G mX11_count [.ref 81, .int a1] (zH n I L c) (fun v h2 => v = some (.int (-2)) ∧ ∃ I2, h2 = zH n I2 L c ∧ zMI b0 b1 l0 l1 t u g F S E fd I2 ∧ ∀ o, o < 81 → I2 o = I o) := by
  obtain ⟨hP, h60, h61, htc, hV, hkk, hx, hy⟩ := id hX
  have h8 := hP.1.1
  have hB := hI.1.1
  have hk10 : kk ≤ 10 := by rw [hkk]; exact q_k_leW hB.2.2.2.2.1
  have hVo : f_Vok V kk := by rw [hV, hkk]; exact v_w_ok
  refine aw_Met.of okX11_count (Nat.le_of_ble_eq_true rfl) ?_
  show aw_W G mX11_count 0 [.ref 81, .int a1] [] (zH n I L c) (0, 0) _
  refine aw_aload_n dX11_count_0 rfl ?_
  refine aw_V0c (As := []) dX11_count_1 k11_218 rfl rfl rfl ⟨Nat.le_of_ble_eq_true rfl, Nat.le_of_ble_eq_true rfl⟩ (Nat.le_of_ble_eq_true rfl) ⟨⟨Nat.le_of_ble_eq_true rfl, Nat.le_of_ble_eq_true rfl⟩, ⟨Nat.le_of_ble_eq_true rfl, Nat.le_of_ble_eq_true rfl⟩⟩ ⟨rfl, rfl⟩ (w_find G hX hI.1) (fun v h2 hq => ?_)
  obtain ⟨rfl, I2, rfl, m, ho, hM, hTo⟩ := hq
  have hot := zOut (u := u) (s := z0) (m := m) hP.1 hP.2.2.2.1 hP.2.2.2.2.1 hP.2.2.2.2.2 z0_old ho.1 (fun k hk => hP.2.1 k (by omega))
  refine aw_iload_n dX11_count_4 rfl ?_
  refine aw_swOut (tgt := 100) dX11_count_5 (by by_cases h0 : a1.toInt < 0; exact Or.inl h0; exact Or.inr (by have hz : ¬ (0 ≤ a1.toInt ∧ a1.toInt < 9) := hz; omega)) (by decide) ?_
  refine aw_bipush (v := -2) dX11_count_100 (by decide) ?_
  refine aw_reti dX11_count_102 rfl rfl ⟨Nat.le_of_ble_eq_true rfl, Nat.le_of_ble_eq_true rfl⟩ ?_
  exact ⟨rfl, _, rfl, hI.my hM, hM.fr⟩
theorem m_count (G : aw_G) {n c : Nat} {I : Nat → Nat → Int32} {L : Nat → Nat → Int64} {b0 b1 : Nat → Nat} {l0 l1 : Nat} {t u x y V g : Nat → Nat → Nat} {kk : Nat} {F S : Nat → Nat} {E : Nat → Nat → Int32} {fd : Int32} (hX : zTx b0 b1 l0 l1 t u x y V kk) (hI : zMI b0 b1 l0 l1 t u g F S E fd I) {a1 : Int32} : aw_Met G mX11_count [.ref 81, .int a1] (zH n I L c) (fun v h2 => v = some (.int (if zok a1 9 then r_cnt [nI kk, nI (t 6 0), nI l0, nI l1, nI (u 2 0), nI (o_cm x u t), nI (z_sum (p_play z0 t u x 4) 8), nI (g 3 0), fd] (zt a1) else -2)) ∧ ∃ I2, h2 = zH n I2 L c ∧ zMI b0 b1 l0 l1 t u g F S E fd I2 ∧ ∀ o, o < 81 → I2 o = I o) := by
  by_cases h : zok a1 9
  · obtain ⟨p, hp, rfl⟩ := zok_ex h
    rw [if_pos h, zt_nI (show p < 2147483648 by omega)]
    have h' : p = 0 ∨ p = 1 ∨ p = 2 ∨ p = 3 ∨ p = 4 ∨ p = 5 ∨ p = 6 ∨ p = 7 ∨ p = 8 := by omega
    rcases h' with rfl | rfl | rfl | rfl | rfl | rfl | rfl | rfl | rfl
    · exact m_count0 G hX hI
    · exact m_count1 G hX hI
    · exact m_count2 G hX hI
    · exact m_count3 G hX hI
    · exact m_count4 G hX hI
    · exact m_count5 G hX hI
    · exact m_count6 G hX hI
    · exact m_count7 G hX hI
    · exact m_count8 G hX hI
  · rw [if_neg h]; exact m_countB G hX hI h
