/-! copy, write, read of the class -/
theorem zhas_n {s i r : Nat} (h : i + r ≤ s) (hs : s ≤ 60) : 0 ≤ (nI i).toInt ∧ 0 ≤ (nI r).toInt ∧ (nI r).toInt ≤ (s : Int) ∧ (nI i).toInt + (nI r).toInt ≤ (s : Int) := by
  rw [nI_toInt (by omega), nI_toInt (by omega)]; omega
def e_cpy (E : Nat → Nat → Int32) (s i t j r : Nat) : Nat → Nat → Int32 := fun a b => if a = t ∧ j ≤ b ∧ b < j + r then E s (i + (b - j)) else E a b
theorem zShC.cpy {F S : Nat → Nat} {E I : Nat → Nat → Int32} {s i t j r : Nat} (h : zShC F S E I) (hs : s < 4) (hF : F s ≠ 0) (hi : i + r ≤ S s) : zShC F S (e_cpy E s i t j r) (va_up I (74 + 2 * t) (va_cpy (I (74 + 2 * s)) (I (74 + 2 * t)) i j r)) := by
  intro q hq
  obtain ⟨a, b, c, d⟩ := h q hq
  rw [va_up_nat (show 73 + 2 * q ≠ 74 + 2 * t by omega)]
  refine ⟨a, b, c, fun z => ⟨(d z).1, (d z).2.1, fun k hk => ?_⟩⟩
  unfold e_cpy
  by_cases e0 : q = t
  · subst e0
    rw [va_up_at]
    unfold va_cpy
    by_cases hc : j ≤ k ∧ k < j + r
    · rw [if_pos hc, if_pos ⟨rfl, hc⟩]
      exact ((h s hs).2.2.2 hF).2.2 _ (by omega)
    · rw [if_neg hc, if_neg (fun z => hc z.2)]
      exact (d z).2.2 k hk
  · rw [va_up_nat (by omega), if_neg (fun z => e0 z.1)]
    exact (d z).2.2 k hk
theorem c_copyB (G : aw_G) {n c : Nat} {I : Nat → Nat → Int32} {L : Nat → Nat → Int64} {b0 b1 : Nat → Nat} {l0 l1 : Nat} {t u x y V g : Nat → Nat → Nat} {kk : Nat} {F S : Nat → Nat} {E : Nat → Nat → Int32} {fd : Int32} (hX : zTx b0 b1 l0 l1 t u x y V kk) (hI : zCI b0 b1 l0 l1 t u x y g F S E fd I) {a1 : Int32} {a2 : Int32} {a3 : Int32} {a4 : Int32} {a5 : Int32} (hz : ¬ (zok a1 4 ∧ zok a3 4)) : aw_Met G mX10_copy [.ref 3, .int a1, .int a2, .int a3, .int a4, .int a5] (zH n I L c) (fun v h2 => v = some (.int (-2)) ∧ ∃ I2 L2 c2, h2 = zH n I2 L2 c2 ∧ zCI b0 b1 l0 l1 t u x y g F S E fd I2 ∧ ∀ o, 81 ≤ o → I2 o = I o) := by
  obtain ⟨hW, hC, hF, ⟨s0, hO, hR⟩, ⟨t2, s2, hD⟩, hG, hS, hfd⟩ := id hI
  obtain ⟨hP, h60, h61, htc, hV, hkk, hx, hy⟩ := id hX
  have h8 := hP.1.1
  have hk10 : kk ≤ 10 := by rw [hkk]; exact q_k_leW hW.1.2.2.2.2
  have hi6 : I 6 5 = nI (t 6 0) := by rw [h60]; exact hC.2.2
  have hi4 : I 4 5 = nI kk := by rw [hkk]; exact hW.2.2
  have hVo : f_Vok V kk := by rw [hV, hkk]; exact v_w_ok
  have hsm := zSame hP hO.1
  have hbd := zBd (m := z0) (u := u) hP.1 hP.2.2.2.1 hP.2.2.2.2.1 hP.2.2.2.2.2 hO.1
  have hS0 : p_play s0 t u x 0 0 = t 6 0 := hbd.1.1
  refine aw_Met.of okX10_copy (Nat.le_of_ble_eq_true rfl) ?_
  show aw_W G mX10_copy 0 [.ref 3, .int a1, .int a2, .int a3, .int a4, .int a5, aw_x, aw_x] [] (zH n I L c) (0, 0) _
  refine aw_iload_n dX10_copy_0 rfl ?_
  refine aw_iconst (v := 4) dX10_copy_1 rfl ?_
  refine aw_S0c (As := [_, _]) dX10_copy_2 k10_100 rfl rfl (Nat.le_of_ble_eq_true rfl) ⟨⟨Nat.le_of_ble_eq_true rfl, Nat.le_of_ble_eq_true rfl⟩, ⟨Nat.le_of_ble_eq_true rfl, Nat.le_of_ble_eq_true rfl⟩⟩ ⟨rfl, rfl⟩ (w_within G a1 (b := 4) (by omega)) (fun v h2 hq => ?_)
  obtain ⟨rfl, rfl⟩ := hq
  refine aw_if_eq_B (tgt := 16) dX10_copy_5 (by decide) (fun c5 => ?_) (fun c5 => ?_)
  · refine aw_bipush (v := -2) dX10_copy_16 (by decide) ?_
    refine aw_reti dX10_copy_18 rfl rfl ⟨Nat.le_of_ble_eq_true rfl, Nat.le_of_ble_eq_true rfl⟩ ?_
    exact ⟨rfl, _, _, _, rfl, hI, fun _ _ => rfl⟩
  · refine aw_iload_n dX10_copy_8 rfl ?_
    refine aw_iconst (v := 4) dX10_copy_9 rfl ?_
    refine aw_S0c (As := [_, _]) dX10_copy_10 k10_100 rfl rfl (Nat.le_of_ble_eq_true rfl) ⟨⟨Nat.le_of_ble_eq_true rfl, Nat.le_of_ble_eq_true rfl⟩, ⟨Nat.le_of_ble_eq_true rfl, Nat.le_of_ble_eq_true rfl⟩⟩ ⟨rfl, rfl⟩ (w_within G a3 (b := 4) (by omega)) (fun v h2 hq => ?_)
    obtain ⟨rfl, rfl⟩ := hq
    refine aw_if_ne_B (tgt := 19) dX10_copy_13 (by decide) (fun z => absurd z (fun q => hz ⟨c5, q⟩)) (fun c13 => ?_)
    refine aw_bipush (v := -2) dX10_copy_16 (by decide) ?_
    refine aw_reti dX10_copy_18 rfl rfl ⟨Nat.le_of_ble_eq_true rfl, Nat.le_of_ble_eq_true rfl⟩ ?_
    exact ⟨rfl, _, _, _, rfl, hI, fun _ _ => rfl⟩
theorem c_copyL (G : aw_G) {n c : Nat} {I : Nat → Nat → Int32} {L : Nat → Nat → Int64} {b0 b1 : Nat → Nat} {l0 l1 : Nat} {t u x y V g : Nat → Nat → Nat} {kk : Nat} {F S : Nat → Nat} {E : Nat → Nat → Int32} {fd : Int32} (hX : zTx b0 b1 l0 l1 t u x y V kk) (hI : zCI b0 b1 l0 l1 t u x y g F S E fd I) {p1 p3 : Nat} {a2 a4 a5 : Int32} (hp1 : p1 < 4) (hp3 : p3 < 4) (h0 : F p1 = 0 ∨ F p3 = 0) : aw_Met G mX10_copy [.ref 3, .int (nI p1), .int a2, .int (nI p3), .int a4, .int a5] (zH n I L c) (fun v h2 => v = some (.int (-10 - 1)) ∧ ∃ I2 L2 c2, h2 = zH n I2 L2 c2 ∧ zCI b0 b1 l0 l1 t u x y g F S E 1 I2 ∧ ∀ o, 81 ≤ o → I2 o = I o) := by
  obtain ⟨hW, hC, hF, ⟨s0, hO, hR⟩, ⟨t2, s2, hD⟩, hG, hS, hfd⟩ := id hI
  obtain ⟨hP, h60, h61, htc, hV, hkk, hx, hy⟩ := id hX
  have h8 := hP.1.1
  have hk10 : kk ≤ 10 := by rw [hkk]; exact q_k_leW hW.1.2.2.2.2
  have hi6 : I 6 5 = nI (t 6 0) := by rw [h60]; exact hC.2.2
  have hi4 : I 4 5 = nI kk := by rw [hkk]; exact hW.2.2
  have hVo : f_Vok V kk := by rw [hV, hkk]; exact v_w_ok
  have hsm := zSame hP hO.1
  have hbd := zBd (m := z0) (u := u) hP.1 hP.2.2.2.1 hP.2.2.2.2.1 hP.2.2.2.2.2 hO.1
  have hS0 : p_play s0 t u x 0 0 = t 6 0 := hbd.1.1
  refine aw_Met.of okX10_copy (Nat.le_of_ble_eq_true rfl) ?_
  show aw_W G mX10_copy 0 [.ref 3, .int (nI p1), .int a2, .int (nI p3), .int a4, .int a5, aw_x, aw_x] [] (zH n I L c) (0, 0) _
  refine aw_iload_n dX10_copy_0 rfl ?_
  refine aw_iconst (v := 4) dX10_copy_1 rfl ?_
  refine aw_S0c (As := [_, _]) dX10_copy_2 k10_100 rfl rfl (Nat.le_of_ble_eq_true rfl) ⟨⟨Nat.le_of_ble_eq_true rfl, Nat.le_of_ble_eq_true rfl⟩, ⟨Nat.le_of_ble_eq_true rfl, Nat.le_of_ble_eq_true rfl⟩⟩ ⟨rfl, rfl⟩ (w_within G ((nI p1)) (b := 4) (by omega)) (fun v h2 hq => ?_)
  obtain ⟨rfl, rfl⟩ := hq
  refine aw_if_eq_B (tgt := 16) dX10_copy_5 (by decide) (fun z => absurd z (fun q => q ((zok_nI (by omega)).mpr hp1))) (fun c5 => ?_)
  refine aw_iload_n dX10_copy_8 rfl ?_
  refine aw_iconst (v := 4) dX10_copy_9 rfl ?_
  refine aw_S0c (As := [_, _]) dX10_copy_10 k10_100 rfl rfl (Nat.le_of_ble_eq_true rfl) ⟨⟨Nat.le_of_ble_eq_true rfl, Nat.le_of_ble_eq_true rfl⟩, ⟨Nat.le_of_ble_eq_true rfl, Nat.le_of_ble_eq_true rfl⟩⟩ ⟨rfl, rfl⟩ (w_within G ((nI p3)) (b := 4) (by omega)) (fun v h2 hq => ?_)
  obtain ⟨rfl, rfl⟩ := hq
  refine aw_if_ne_B (tgt := 19) dX10_copy_13 (by decide) (fun c13 => ?_) (fun z => absurd z (fun q => q ((zok_nI (by omega)).mpr hp3)))
  refine aw_aload_n dX10_copy_19 rfl ?_
  refine aw_getR dX10_copy_20 f10_91 rfl ⟨Nat.le_of_ble_eq_true rfl, Nat.le_of_ble_eq_true rfl⟩ rfl rfl ?_
  refine aw_iload_n dX10_copy_23 rfl ?_
  refine aw_aald dX10_copy_24 rfl ⟨Nat.le_of_ble_eq_true rfl, Nat.le_of_ble_eq_true rfl⟩ (vp_in_nI hp1 (by decide)) (by rw [nI_clamp (by omega)]; exact zR_sh hp1) ?_
  refine aw_astore (ls2 := [_, _, _, _, _, _, _, _]) dX10_copy_25 (by decide) rfl rfl ?_
  refine aw_aload_n dX10_copy_27 rfl ?_
  refine aw_getR dX10_copy_28 f10_91 rfl ⟨Nat.le_of_ble_eq_true rfl, Nat.le_of_ble_eq_true rfl⟩ rfl rfl ?_
  refine aw_iload_n dX10_copy_31 rfl ?_
  refine aw_aald dX10_copy_32 rfl ⟨Nat.le_of_ble_eq_true rfl, Nat.le_of_ble_eq_true rfl⟩ (vp_in_nI hp3 (by decide)) (by rw [nI_clamp (by omega)]; exact zR_sh hp3) ?_
  refine aw_astore (ls2 := [_, _, _, _, _, _, _, _]) dX10_copy_33 (by decide) rfl rfl ?_
  refine aw_aload dX10_copy_35 rfl ?_
  refine aw_getZ dX10_copy_37 f10_150 (zS_sh hp1) ⟨by omega, (show 73 + 2 * p1 < 105 by omega)⟩ rfl ?_
  refine aw_top (hS p1 hp1).2.2.1 ?_
  refine aw_if_ne_B (tgt := 51) dX10_copy_40 (by decide) (fun c40 => ?_) (fun c40 => ?_)
  · refine aw_aload_n dX10_copy_51 rfl ?_
    refine aw_iconst (v := 1) dX10_copy_52 rfl ?_
    refine aw_V0c (As := [_]) dX10_copy_53 k10_154 rfl rfl rfl ⟨Nat.le_of_ble_eq_true rfl, Nat.le_of_ble_eq_true rfl⟩ (Nat.le_of_ble_eq_true rfl) ⟨⟨Nat.le_of_ble_eq_true rfl, Nat.le_of_ble_eq_true rfl⟩, ⟨Nat.le_of_ble_eq_true rfl, Nat.le_of_ble_eq_true rfl⟩⟩ ⟨rfl, rfl⟩ (w_found G (v0 := 1)) (fun v h2 hq => ?_)
    obtain ⟨rfl, rfl⟩ := hq
    refine aw_reti dX10_copy_56 rfl rfl ⟨Nat.le_of_ble_eq_true rfl, Nat.le_of_ble_eq_true rfl⟩ ?_
    exact ⟨rfl, _, _, _, rfl, hI.fnd _, fun o ho => aw_u_ne (by omega)⟩
  · refine aw_aload dX10_copy_43 rfl ?_
    refine aw_getZ dX10_copy_45 f10_150 (zS_sh hp3) ⟨by omega, (show 73 + 2 * p3 < 105 by omega)⟩ rfl ?_
    refine aw_top (hS p3 hp3).2.2.1 ?_
    refine aw_if_eq_B (tgt := 57) dX10_copy_48 (by decide) (fun z => absurd z (fun q => q (h0.resolve_left c40))) (fun c48 => ?_)
    refine aw_aload_n dX10_copy_51 rfl ?_
    refine aw_iconst (v := 1) dX10_copy_52 rfl ?_
    refine aw_V0c (As := [_]) dX10_copy_53 k10_154 rfl rfl rfl ⟨Nat.le_of_ble_eq_true rfl, Nat.le_of_ble_eq_true rfl⟩ (Nat.le_of_ble_eq_true rfl) ⟨⟨Nat.le_of_ble_eq_true rfl, Nat.le_of_ble_eq_true rfl⟩, ⟨Nat.le_of_ble_eq_true rfl, Nat.le_of_ble_eq_true rfl⟩⟩ ⟨rfl, rfl⟩ (w_found G (v0 := 1)) (fun v h2 hq => ?_)
    obtain ⟨rfl, rfl⟩ := hq
    refine aw_reti dX10_copy_56 rfl rfl ⟨Nat.le_of_ble_eq_true rfl, Nat.le_of_ble_eq_true rfl⟩ ?_
    exact ⟨rfl, _, _, _, rfl, hI.fnd _, fun o ho => aw_u_ne (by omega)⟩
theorem c_copyT (G : aw_G) {n c : Nat} {I : Nat → Nat → Int32} {L : Nat → Nat → Int64} {b0 b1 : Nat → Nat} {l0 l1 : Nat} {t u x y V g : Nat → Nat → Nat} {kk : Nat} {F S : Nat → Nat} {E : Nat → Nat → Int32} {fd : Int32} (hX : zTx b0 b1 l0 l1 t u x y V kk) (hI : zCI b0 b1 l0 l1 t u x y g F S E fd I) {p1 p3 : Nat} {a2 a4 a5 : Int32} (hp1 : p1 < 4) (hp3 : p3 < 4) (hFp1 : F p1 ≠ 0) (hFp3 : F p3 ≠ 0) (hn : ¬ F p1 = F p3) : aw_Met G mX10_copy [.ref 3, .int (nI p1), .int a2, .int (nI p3), .int a4, .int a5] (zH n I L c) (fun v h2 => v = some (.int (-10 - 4)) ∧ ∃ I2 L2 c2, h2 = zH n I2 L2 c2 ∧ zCI b0 b1 l0 l1 t u x y g F S E 4 I2 ∧ ∀ o, 81 ≤ o → I2 o = I o) := by
  obtain ⟨hW, hC, hF, ⟨s0, hO, hR⟩, ⟨t2, s2, hD⟩, hG, hS, hfd⟩ := id hI
  obtain ⟨hP, h60, h61, htc, hV, hkk, hx, hy⟩ := id hX
  have h8 := hP.1.1
  have hk10 : kk ≤ 10 := by rw [hkk]; exact q_k_leW hW.1.2.2.2.2
  have hi6 : I 6 5 = nI (t 6 0) := by rw [h60]; exact hC.2.2
  have hi4 : I 4 5 = nI kk := by rw [hkk]; exact hW.2.2
  have hVo : f_Vok V kk := by rw [hV, hkk]; exact v_w_ok
  have hsm := zSame hP hO.1
  have hbd := zBd (m := z0) (u := u) hP.1 hP.2.2.2.1 hP.2.2.2.2.1 hP.2.2.2.2.2 hO.1
  have hS0 : p_play s0 t u x 0 0 = t 6 0 := hbd.1.1
  have hf1 := (hS p1 hp1).1
  have hf3 := (hS p3 hp3).1
  have hs1 := (hS p1 hp1).2.1
  have hs3 := (hS p3 hp3).2.1
  refine aw_Met.of okX10_copy (Nat.le_of_ble_eq_true rfl) ?_
  show aw_W G mX10_copy 0 [.ref 3, .int (nI p1), .int a2, .int (nI p3), .int a4, .int a5, aw_x, aw_x] [] (zH n I L c) (0, 0) _
  refine aw_iload_n dX10_copy_0 rfl ?_
  refine aw_iconst (v := 4) dX10_copy_1 rfl ?_
  refine aw_S0c (As := [_, _]) dX10_copy_2 k10_100 rfl rfl (Nat.le_of_ble_eq_true rfl) ⟨⟨Nat.le_of_ble_eq_true rfl, Nat.le_of_ble_eq_true rfl⟩, ⟨Nat.le_of_ble_eq_true rfl, Nat.le_of_ble_eq_true rfl⟩⟩ ⟨rfl, rfl⟩ (w_within G ((nI p1)) (b := 4) (by omega)) (fun v h2 hq => ?_)
  obtain ⟨rfl, rfl⟩ := hq
  refine aw_if_eq_B (tgt := 16) dX10_copy_5 (by decide) (fun z => absurd z (fun q => q ((zok_nI (by omega)).mpr hp1))) (fun c5 => ?_)
  refine aw_iload_n dX10_copy_8 rfl ?_
  refine aw_iconst (v := 4) dX10_copy_9 rfl ?_
  refine aw_S0c (As := [_, _]) dX10_copy_10 k10_100 rfl rfl (Nat.le_of_ble_eq_true rfl) ⟨⟨Nat.le_of_ble_eq_true rfl, Nat.le_of_ble_eq_true rfl⟩, ⟨Nat.le_of_ble_eq_true rfl, Nat.le_of_ble_eq_true rfl⟩⟩ ⟨rfl, rfl⟩ (w_within G ((nI p3)) (b := 4) (by omega)) (fun v h2 hq => ?_)
  obtain ⟨rfl, rfl⟩ := hq
  refine aw_if_ne_B (tgt := 19) dX10_copy_13 (by decide) (fun c13 => ?_) (fun z => absurd z (fun q => q ((zok_nI (by omega)).mpr hp3)))
  refine aw_aload_n dX10_copy_19 rfl ?_
  refine aw_getR dX10_copy_20 f10_91 rfl ⟨Nat.le_of_ble_eq_true rfl, Nat.le_of_ble_eq_true rfl⟩ rfl rfl ?_
  refine aw_iload_n dX10_copy_23 rfl ?_
  refine aw_aald dX10_copy_24 rfl ⟨Nat.le_of_ble_eq_true rfl, Nat.le_of_ble_eq_true rfl⟩ (vp_in_nI hp1 (by decide)) (by rw [nI_clamp (by omega)]; exact zR_sh hp1) ?_
  refine aw_astore (ls2 := [_, _, _, _, _, _, _, _]) dX10_copy_25 (by decide) rfl rfl ?_
  refine aw_aload_n dX10_copy_27 rfl ?_
  refine aw_getR dX10_copy_28 f10_91 rfl ⟨Nat.le_of_ble_eq_true rfl, Nat.le_of_ble_eq_true rfl⟩ rfl rfl ?_
  refine aw_iload_n dX10_copy_31 rfl ?_
  refine aw_aald dX10_copy_32 rfl ⟨Nat.le_of_ble_eq_true rfl, Nat.le_of_ble_eq_true rfl⟩ (vp_in_nI hp3 (by decide)) (by rw [nI_clamp (by omega)]; exact zR_sh hp3) ?_
  refine aw_astore (ls2 := [_, _, _, _, _, _, _, _]) dX10_copy_33 (by decide) rfl rfl ?_
  refine aw_aload dX10_copy_35 rfl ?_
  refine aw_getZ dX10_copy_37 f10_150 (zS_sh hp1) ⟨by omega, (show 73 + 2 * p1 < 105 by omega)⟩ rfl ?_
  refine aw_top (hS p1 hp1).2.2.1 ?_
  refine aw_if_ne_B (tgt := 51) dX10_copy_40 (by decide) (fun z => absurd z hFp1) (fun c40 => ?_)
  refine aw_aload dX10_copy_43 rfl ?_
  refine aw_getZ dX10_copy_45 f10_150 (zS_sh hp3) ⟨by omega, (show 73 + 2 * p3 < 105 by omega)⟩ rfl ?_
  refine aw_top (hS p3 hp3).2.2.1 ?_
  refine aw_if_eq_B (tgt := 57) dX10_copy_48 (by decide) (fun c48 => ?_) (fun z => absurd z hFp3)
  refine aw_aload dX10_copy_57 rfl ?_
  refine aw_getI dX10_copy_59 f10_259 (zS_sh hp1) ⟨by omega, (show 73 + 2 * p1 < 105 by omega)⟩ rfl ?_
  refine aw_top ((hS p1 hp1).2.2.2 hFp1).1 ?_
  refine aw_aload dX10_copy_62 rfl ?_
  refine aw_getI dX10_copy_64 f10_259 (zS_sh hp3) ⟨by omega, (show 73 + 2 * p3 < 105 by omega)⟩ rfl ?_
  refine aw_top ((hS p3 hp3).2.2.2 hFp3).1 ?_
  refine aw_ic_eq_n (a := F p1 - 1) (b := F p3 - 1) (tgt := 76) dX10_copy_67 (by decide) (by omega) (by omega) (fun z => absurd z (by omega)) (fun c67 => ?_)
  refine aw_aload_n dX10_copy_70 rfl ?_
  refine aw_iconst (v := 4) dX10_copy_71 rfl ?_
  refine aw_V0c (As := [_]) dX10_copy_72 k10_154 rfl rfl rfl ⟨Nat.le_of_ble_eq_true rfl, Nat.le_of_ble_eq_true rfl⟩ (Nat.le_of_ble_eq_true rfl) ⟨⟨Nat.le_of_ble_eq_true rfl, Nat.le_of_ble_eq_true rfl⟩, ⟨Nat.le_of_ble_eq_true rfl, Nat.le_of_ble_eq_true rfl⟩⟩ ⟨rfl, rfl⟩ (w_found G (v0 := 4)) (fun v h2 hq => ?_)
  obtain ⟨rfl, rfl⟩ := hq
  refine aw_reti dX10_copy_75 rfl rfl ⟨Nat.le_of_ble_eq_true rfl, Nat.le_of_ble_eq_true rfl⟩ ?_
  exact ⟨rfl, _, _, _, rfl, hI.fnd _, fun o ho => aw_u_ne (by omega)⟩
theorem c_copyX (G : aw_G) {n c : Nat} {I : Nat → Nat → Int32} {L : Nat → Nat → Int64} {b0 b1 : Nat → Nat} {l0 l1 : Nat} {t u x y V g : Nat → Nat → Nat} {kk : Nat} {F S : Nat → Nat} {E : Nat → Nat → Int32} {fd : Int32} (hX : zTx b0 b1 l0 l1 t u x y V kk) (hI : zCI b0 b1 l0 l1 t u x y g F S E fd I) {p1 p3 : Nat} {a2 a4 a5 : Int32} (hp1 : p1 < 4) (hp3 : p3 < 4) (hFp1 : F p1 ≠ 0) (hFp3 : F p3 ≠ 0) (hn : F p1 = F p3) (hz : ¬ ((0 ≤ a2.toInt ∧ 0 ≤ a5.toInt ∧ a5.toInt ≤ (S p1 : Int) ∧ a2.toInt + a5.toInt ≤ (S p1 : Int)) ∧ (0 ≤ a4.toInt ∧ 0 ≤ a5.toInt ∧ a5.toInt ≤ (S p3 : Int) ∧ a4.toInt + a5.toInt ≤ (S p3 : Int)))) : aw_Met G mX10_copy [.ref 3, .int (nI p1), .int a2, .int (nI p3), .int a4, .int a5] (zH n I L c) (fun v h2 => v = some (.int (-10 - 2)) ∧ ∃ I2 L2 c2, h2 = zH n I2 L2 c2 ∧ zCI b0 b1 l0 l1 t u x y g F S E 2 I2 ∧ ∀ o, 81 ≤ o → I2 o = I o) := by
  obtain ⟨hW, hC, hF, ⟨s0, hO, hR⟩, ⟨t2, s2, hD⟩, hG, hS, hfd⟩ := id hI
  obtain ⟨hP, h60, h61, htc, hV, hkk, hx, hy⟩ := id hX
  have h8 := hP.1.1
  have hk10 : kk ≤ 10 := by rw [hkk]; exact q_k_leW hW.1.2.2.2.2
  have hi6 : I 6 5 = nI (t 6 0) := by rw [h60]; exact hC.2.2
  have hi4 : I 4 5 = nI kk := by rw [hkk]; exact hW.2.2
  have hVo : f_Vok V kk := by rw [hV, hkk]; exact v_w_ok
  have hsm := zSame hP hO.1
  have hbd := zBd (m := z0) (u := u) hP.1 hP.2.2.2.1 hP.2.2.2.2.1 hP.2.2.2.2.2 hO.1
  have hS0 : p_play s0 t u x 0 0 = t 6 0 := hbd.1.1
  have hf1 := (hS p1 hp1).1
  have hf3 := (hS p3 hp3).1
  have hs1 := (hS p1 hp1).2.1
  have hs3 := (hS p3 hp3).2.1
  refine aw_Met.of okX10_copy (Nat.le_of_ble_eq_true rfl) ?_
  show aw_W G mX10_copy 0 [.ref 3, .int (nI p1), .int a2, .int (nI p3), .int a4, .int a5, aw_x, aw_x] [] (zH n I L c) (0, 0) _
  refine aw_iload_n dX10_copy_0 rfl ?_
  refine aw_iconst (v := 4) dX10_copy_1 rfl ?_
  refine aw_S0c (As := [_, _]) dX10_copy_2 k10_100 rfl rfl (Nat.le_of_ble_eq_true rfl) ⟨⟨Nat.le_of_ble_eq_true rfl, Nat.le_of_ble_eq_true rfl⟩, ⟨Nat.le_of_ble_eq_true rfl, Nat.le_of_ble_eq_true rfl⟩⟩ ⟨rfl, rfl⟩ (w_within G ((nI p1)) (b := 4) (by omega)) (fun v h2 hq => ?_)
  obtain ⟨rfl, rfl⟩ := hq
  refine aw_if_eq_B (tgt := 16) dX10_copy_5 (by decide) (fun z => absurd z (fun q => q ((zok_nI (by omega)).mpr hp1))) (fun c5 => ?_)
  refine aw_iload_n dX10_copy_8 rfl ?_
  refine aw_iconst (v := 4) dX10_copy_9 rfl ?_
  refine aw_S0c (As := [_, _]) dX10_copy_10 k10_100 rfl rfl (Nat.le_of_ble_eq_true rfl) ⟨⟨Nat.le_of_ble_eq_true rfl, Nat.le_of_ble_eq_true rfl⟩, ⟨Nat.le_of_ble_eq_true rfl, Nat.le_of_ble_eq_true rfl⟩⟩ ⟨rfl, rfl⟩ (w_within G ((nI p3)) (b := 4) (by omega)) (fun v h2 hq => ?_)
  obtain ⟨rfl, rfl⟩ := hq
  refine aw_if_ne_B (tgt := 19) dX10_copy_13 (by decide) (fun c13 => ?_) (fun z => absurd z (fun q => q ((zok_nI (by omega)).mpr hp3)))
  refine aw_aload_n dX10_copy_19 rfl ?_
  refine aw_getR dX10_copy_20 f10_91 rfl ⟨Nat.le_of_ble_eq_true rfl, Nat.le_of_ble_eq_true rfl⟩ rfl rfl ?_
  refine aw_iload_n dX10_copy_23 rfl ?_
  refine aw_aald dX10_copy_24 rfl ⟨Nat.le_of_ble_eq_true rfl, Nat.le_of_ble_eq_true rfl⟩ (vp_in_nI hp1 (by decide)) (by rw [nI_clamp (by omega)]; exact zR_sh hp1) ?_
  refine aw_astore (ls2 := [_, _, _, _, _, _, _, _]) dX10_copy_25 (by decide) rfl rfl ?_
  refine aw_aload_n dX10_copy_27 rfl ?_
  refine aw_getR dX10_copy_28 f10_91 rfl ⟨Nat.le_of_ble_eq_true rfl, Nat.le_of_ble_eq_true rfl⟩ rfl rfl ?_
  refine aw_iload_n dX10_copy_31 rfl ?_
  refine aw_aald dX10_copy_32 rfl ⟨Nat.le_of_ble_eq_true rfl, Nat.le_of_ble_eq_true rfl⟩ (vp_in_nI hp3 (by decide)) (by rw [nI_clamp (by omega)]; exact zR_sh hp3) ?_
  refine aw_astore (ls2 := [_, _, _, _, _, _, _, _]) dX10_copy_33 (by decide) rfl rfl ?_
  refine aw_aload dX10_copy_35 rfl ?_
  refine aw_getZ dX10_copy_37 f10_150 (zS_sh hp1) ⟨by omega, (show 73 + 2 * p1 < 105 by omega)⟩ rfl ?_
  refine aw_top (hS p1 hp1).2.2.1 ?_
  refine aw_if_ne_B (tgt := 51) dX10_copy_40 (by decide) (fun z => absurd z hFp1) (fun c40 => ?_)
  refine aw_aload dX10_copy_43 rfl ?_
  refine aw_getZ dX10_copy_45 f10_150 (zS_sh hp3) ⟨by omega, (show 73 + 2 * p3 < 105 by omega)⟩ rfl ?_
  refine aw_top (hS p3 hp3).2.2.1 ?_
  refine aw_if_eq_B (tgt := 57) dX10_copy_48 (by decide) (fun c48 => ?_) (fun z => absurd z hFp3)
  refine aw_aload dX10_copy_57 rfl ?_
  refine aw_getI dX10_copy_59 f10_259 (zS_sh hp1) ⟨by omega, (show 73 + 2 * p1 < 105 by omega)⟩ rfl ?_
  refine aw_top ((hS p1 hp1).2.2.2 hFp1).1 ?_
  refine aw_aload dX10_copy_62 rfl ?_
  refine aw_getI dX10_copy_64 f10_259 (zS_sh hp3) ⟨by omega, (show 73 + 2 * p3 < 105 by omega)⟩ rfl ?_
  refine aw_top ((hS p3 hp3).2.2.2 hFp3).1 ?_
  refine aw_ic_eq_n (a := F p1 - 1) (b := F p3 - 1) (tgt := 76) dX10_copy_67 (by decide) (by omega) (by omega) (fun c67 => ?_) (fun z => absurd z (by omega))
  refine aw_aload dX10_copy_76 rfl ?_
  refine aw_iload_n dX10_copy_78 rfl ?_
  refine aw_iload dX10_copy_79 rfl ?_
  refine aw_V0c (As := [_, _]) dX10_copy_81 k10_262 rfl rfl (zS_sh hp1) ⟨by omega, (show 73 + 2 * p1 < 105 by omega)⟩ (Nat.le_of_ble_eq_true rfl) ⟨⟨Nat.le_of_ble_eq_true rfl, Nat.le_of_ble_eq_true rfl⟩, ⟨Nat.le_of_ble_eq_true rfl, Nat.le_of_ble_eq_true rfl⟩⟩ ⟨rfl, rfl⟩ (w_has G (p := p1) (s := S p1) hp1 hs1 ((hS p1 hp1).2.2.2 hFp1).2.1) (fun v h2 hq => ?_)
  obtain ⟨rfl, rfl⟩ := hq
  refine aw_if_eq_B (tgt := 99) dX10_copy_84 (by decide) (fun c84 => ?_) (fun c84 => ?_)
  · refine aw_aload_n dX10_copy_99 rfl ?_
    refine aw_iconst (v := 2) dX10_copy_100 rfl ?_
    refine aw_V0c (As := [_]) dX10_copy_101 k10_154 rfl rfl rfl ⟨Nat.le_of_ble_eq_true rfl, Nat.le_of_ble_eq_true rfl⟩ (Nat.le_of_ble_eq_true rfl) ⟨⟨Nat.le_of_ble_eq_true rfl, Nat.le_of_ble_eq_true rfl⟩, ⟨Nat.le_of_ble_eq_true rfl, Nat.le_of_ble_eq_true rfl⟩⟩ ⟨rfl, rfl⟩ (w_found G (v0 := 2)) (fun v h2 hq => ?_)
    obtain ⟨rfl, rfl⟩ := hq
    refine aw_reti dX10_copy_104 rfl rfl ⟨Nat.le_of_ble_eq_true rfl, Nat.le_of_ble_eq_true rfl⟩ ?_
    exact ⟨rfl, _, _, _, rfl, hI.fnd _, fun o ho => aw_u_ne (by omega)⟩
  · refine aw_aload dX10_copy_87 rfl ?_
    refine aw_iload dX10_copy_89 rfl ?_
    refine aw_iload dX10_copy_91 rfl ?_
    refine aw_V0c (As := [_, _]) dX10_copy_93 k10_262 rfl rfl (zS_sh hp3) ⟨by omega, (show 73 + 2 * p3 < 105 by omega)⟩ (Nat.le_of_ble_eq_true rfl) ⟨⟨Nat.le_of_ble_eq_true rfl, Nat.le_of_ble_eq_true rfl⟩, ⟨Nat.le_of_ble_eq_true rfl, Nat.le_of_ble_eq_true rfl⟩⟩ ⟨rfl, rfl⟩ (w_has G (p := p3) (s := S p3) hp3 hs3 ((hS p3 hp3).2.2.2 hFp3).2.1) (fun v h2 hq => ?_)
    obtain ⟨rfl, rfl⟩ := hq
    refine aw_if_ne_B (tgt := 105) dX10_copy_96 (by decide) (fun z => absurd z (fun q => hz ⟨c84, q⟩)) (fun c96 => ?_)
    refine aw_aload_n dX10_copy_99 rfl ?_
    refine aw_iconst (v := 2) dX10_copy_100 rfl ?_
    refine aw_V0c (As := [_]) dX10_copy_101 k10_154 rfl rfl rfl ⟨Nat.le_of_ble_eq_true rfl, Nat.le_of_ble_eq_true rfl⟩ (Nat.le_of_ble_eq_true rfl) ⟨⟨Nat.le_of_ble_eq_true rfl, Nat.le_of_ble_eq_true rfl⟩, ⟨Nat.le_of_ble_eq_true rfl, Nat.le_of_ble_eq_true rfl⟩⟩ ⟨rfl, rfl⟩ (w_found G (v0 := 2)) (fun v h2 hq => ?_)
    obtain ⟨rfl, rfl⟩ := hq
    refine aw_reti dX10_copy_104 rfl rfl ⟨Nat.le_of_ble_eq_true rfl, Nat.le_of_ble_eq_true rfl⟩ ?_
    exact ⟨rfl, _, _, _, rfl, hI.fnd _, fun o ho => aw_u_ne (by omega)⟩
theorem c_copy (G : aw_G) {n c : Nat} {I : Nat → Nat → Int32} {L : Nat → Nat → Int64} {b0 b1 : Nat → Nat} {l0 l1 : Nat} {t u x y V g : Nat → Nat → Nat} {kk : Nat} {F S : Nat → Nat} {E : Nat → Nat → Int32} {fd : Int32} (hX : zTx b0 b1 l0 l1 t u x y V kk) (hI : zCI b0 b1 l0 l1 t u x y g F S E fd I) {p1 p3 i j r : Nat} (hp1 : p1 < 4) (hp3 : p3 < 4) (hFp1 : F p1 ≠ 0) (hFp3 : F p3 ≠ 0) (hn : F p1 = F p3) (hi : i + r ≤ S p1) (hj : j + r ≤ S p3) : aw_Met G mX10_copy [.ref 3, .int (nI p1), .int (nI i), .int (nI p3), .int (nI j), .int (nI r)] (zH n I L c) (fun v h2 => v = some (.int (1)) ∧ ∃ I2 L2 c2, h2 = zH n I2 L2 c2 ∧ zCI b0 b1 l0 l1 t u x y g F S (e_cpy E p1 i p3 j r) fd I2 ∧ ∀ o, 81 ≤ o → I2 o = I o) := by
  obtain ⟨hW, hC, hF, ⟨s0, hO, hR⟩, ⟨t2, s2, hD⟩, hG, hS, hfd⟩ := id hI
  obtain ⟨hP, h60, h61, htc, hV, hkk, hx, hy⟩ := id hX
  have h8 := hP.1.1
  have hk10 : kk ≤ 10 := by rw [hkk]; exact q_k_leW hW.1.2.2.2.2
  have hi6 : I 6 5 = nI (t 6 0) := by rw [h60]; exact hC.2.2
  have hi4 : I 4 5 = nI kk := by rw [hkk]; exact hW.2.2
  have hVo : f_Vok V kk := by rw [hV, hkk]; exact v_w_ok
  have hsm := zSame hP hO.1
  have hbd := zBd (m := z0) (u := u) hP.1 hP.2.2.2.1 hP.2.2.2.2.1 hP.2.2.2.2.2 hO.1
  have hS0 : p_play s0 t u x 0 0 = t 6 0 := hbd.1.1
  have hf1 := (hS p1 hp1).1
  have hf3 := (hS p3 hp3).1
  have hs1 := (hS p1 hp1).2.1
  have hs3 := (hS p3 hp3).2.1
  refine aw_Met.of okX10_copy (Nat.le_of_ble_eq_true rfl) ?_
  show aw_W G mX10_copy 0 [.ref 3, .int (nI p1), .int (nI i), .int (nI p3), .int (nI j), .int (nI r), aw_x, aw_x] [] (zH n I L c) (0, 0) _
  refine aw_iload_n dX10_copy_0 rfl ?_
  refine aw_iconst (v := 4) dX10_copy_1 rfl ?_
  refine aw_S0c (As := [_, _]) dX10_copy_2 k10_100 rfl rfl (Nat.le_of_ble_eq_true rfl) ⟨⟨Nat.le_of_ble_eq_true rfl, Nat.le_of_ble_eq_true rfl⟩, ⟨Nat.le_of_ble_eq_true rfl, Nat.le_of_ble_eq_true rfl⟩⟩ ⟨rfl, rfl⟩ (w_within G ((nI p1)) (b := 4) (by omega)) (fun v h2 hq => ?_)
  obtain ⟨rfl, rfl⟩ := hq
  refine aw_if_eq_B (tgt := 16) dX10_copy_5 (by decide) (fun z => absurd z (fun q => q ((zok_nI (by omega)).mpr hp1))) (fun c5 => ?_)
  refine aw_iload_n dX10_copy_8 rfl ?_
  refine aw_iconst (v := 4) dX10_copy_9 rfl ?_
  refine aw_S0c (As := [_, _]) dX10_copy_10 k10_100 rfl rfl (Nat.le_of_ble_eq_true rfl) ⟨⟨Nat.le_of_ble_eq_true rfl, Nat.le_of_ble_eq_true rfl⟩, ⟨Nat.le_of_ble_eq_true rfl, Nat.le_of_ble_eq_true rfl⟩⟩ ⟨rfl, rfl⟩ (w_within G ((nI p3)) (b := 4) (by omega)) (fun v h2 hq => ?_)
  obtain ⟨rfl, rfl⟩ := hq
  refine aw_if_ne_B (tgt := 19) dX10_copy_13 (by decide) (fun c13 => ?_) (fun z => absurd z (fun q => q ((zok_nI (by omega)).mpr hp3)))
  refine aw_aload_n dX10_copy_19 rfl ?_
  refine aw_getR dX10_copy_20 f10_91 rfl ⟨Nat.le_of_ble_eq_true rfl, Nat.le_of_ble_eq_true rfl⟩ rfl rfl ?_
  refine aw_iload_n dX10_copy_23 rfl ?_
  refine aw_aald dX10_copy_24 rfl ⟨Nat.le_of_ble_eq_true rfl, Nat.le_of_ble_eq_true rfl⟩ (vp_in_nI hp1 (by decide)) (by rw [nI_clamp (by omega)]; exact zR_sh hp1) ?_
  refine aw_astore (ls2 := [_, _, _, _, _, _, _, _]) dX10_copy_25 (by decide) rfl rfl ?_
  refine aw_aload_n dX10_copy_27 rfl ?_
  refine aw_getR dX10_copy_28 f10_91 rfl ⟨Nat.le_of_ble_eq_true rfl, Nat.le_of_ble_eq_true rfl⟩ rfl rfl ?_
  refine aw_iload_n dX10_copy_31 rfl ?_
  refine aw_aald dX10_copy_32 rfl ⟨Nat.le_of_ble_eq_true rfl, Nat.le_of_ble_eq_true rfl⟩ (vp_in_nI hp3 (by decide)) (by rw [nI_clamp (by omega)]; exact zR_sh hp3) ?_
  refine aw_astore (ls2 := [_, _, _, _, _, _, _, _]) dX10_copy_33 (by decide) rfl rfl ?_
  refine aw_aload dX10_copy_35 rfl ?_
  refine aw_getZ dX10_copy_37 f10_150 (zS_sh hp1) ⟨by omega, (show 73 + 2 * p1 < 105 by omega)⟩ rfl ?_
  refine aw_top (hS p1 hp1).2.2.1 ?_
  refine aw_if_ne_B (tgt := 51) dX10_copy_40 (by decide) (fun z => absurd z hFp1) (fun c40 => ?_)
  refine aw_aload dX10_copy_43 rfl ?_
  refine aw_getZ dX10_copy_45 f10_150 (zS_sh hp3) ⟨by omega, (show 73 + 2 * p3 < 105 by omega)⟩ rfl ?_
  refine aw_top (hS p3 hp3).2.2.1 ?_
  refine aw_if_eq_B (tgt := 57) dX10_copy_48 (by decide) (fun c48 => ?_) (fun z => absurd z hFp3)
  refine aw_aload dX10_copy_57 rfl ?_
  refine aw_getI dX10_copy_59 f10_259 (zS_sh hp1) ⟨by omega, (show 73 + 2 * p1 < 105 by omega)⟩ rfl ?_
  refine aw_top ((hS p1 hp1).2.2.2 hFp1).1 ?_
  refine aw_aload dX10_copy_62 rfl ?_
  refine aw_getI dX10_copy_64 f10_259 (zS_sh hp3) ⟨by omega, (show 73 + 2 * p3 < 105 by omega)⟩ rfl ?_
  refine aw_top ((hS p3 hp3).2.2.2 hFp3).1 ?_
  refine aw_ic_eq_n (a := F p1 - 1) (b := F p3 - 1) (tgt := 76) dX10_copy_67 (by decide) (by omega) (by omega) (fun c67 => ?_) (fun z => absurd z (by omega))
  refine aw_aload dX10_copy_76 rfl ?_
  refine aw_iload_n dX10_copy_78 rfl ?_
  refine aw_iload dX10_copy_79 rfl ?_
  refine aw_V0c (As := [_, _]) dX10_copy_81 k10_262 rfl rfl (zS_sh hp1) ⟨by omega, (show 73 + 2 * p1 < 105 by omega)⟩ (Nat.le_of_ble_eq_true rfl) ⟨⟨Nat.le_of_ble_eq_true rfl, Nat.le_of_ble_eq_true rfl⟩, ⟨Nat.le_of_ble_eq_true rfl, Nat.le_of_ble_eq_true rfl⟩⟩ ⟨rfl, rfl⟩ (w_has G (p := p1) (s := S p1) hp1 hs1 ((hS p1 hp1).2.2.2 hFp1).2.1) (fun v h2 hq => ?_)
  obtain ⟨rfl, rfl⟩ := hq
  refine aw_if_eq_B (tgt := 99) dX10_copy_84 (by decide) (fun z => absurd z (fun q => q (zhas_n hi hs1))) (fun c84 => ?_)
  refine aw_aload dX10_copy_87 rfl ?_
  refine aw_iload dX10_copy_89 rfl ?_
  refine aw_iload dX10_copy_91 rfl ?_
  refine aw_V0c (As := [_, _]) dX10_copy_93 k10_262 rfl rfl (zS_sh hp3) ⟨by omega, (show 73 + 2 * p3 < 105 by omega)⟩ (Nat.le_of_ble_eq_true rfl) ⟨⟨Nat.le_of_ble_eq_true rfl, Nat.le_of_ble_eq_true rfl⟩, ⟨Nat.le_of_ble_eq_true rfl, Nat.le_of_ble_eq_true rfl⟩⟩ ⟨rfl, rfl⟩ (w_has G (p := p3) (s := S p3) hp3 hs3 ((hS p3 hp3).2.2.2 hFp3).2.1) (fun v h2 hq => ?_)
  obtain ⟨rfl, rfl⟩ := hq
  refine aw_if_ne_B (tgt := 105) dX10_copy_96 (by decide) (fun c96 => ?_) (fun z => absurd z (fun q => q (zhas_n hj hs3)))
  refine aw_aload dX10_copy_105 rfl ?_
  refine aw_getR dX10_copy_107 f10_159 (zS_sh hp1) ⟨by omega, (show 73 + 2 * p1 < 105 by omega)⟩ rfl (zR_it hp1) ?_
  refine aw_iload_n dX10_copy_110 rfl ?_
  refine aw_aload dX10_copy_111 rfl ?_
  refine aw_getR dX10_copy_113 f10_159 (zS_sh hp3) ⟨by omega, (show 73 + 2 * p3 < 105 by omega)⟩ rfl (zR_it hp3) ?_
  refine aw_iload dX10_copy_116 rfl ?_
  refine aw_iload dX10_copy_118 rfl ?_
  refine aw_copy (sp := nI i) (dp := nI j) (n := nI r) dX10_copy_120 ac10_265 (zS_it hp1) (zS_it hp3) ⟨by omega, (show 74 + 2 * p1 < 105 by omega)⟩ ⟨by omega, (show 74 + 2 * p3 < 105 by omega)⟩ (nI_pos (by omega)) (nI_pos (by omega)) (nI_pos (by omega)) (by rw [nI_clamp (by omega), nI_clamp (by omega)]; omega) (by rw [nI_clamp (by omega), nI_clamp (by omega)]; omega) ⟨Nat.le_of_ble_eq_true rfl, Nat.le_of_ble_eq_true rfl⟩ ?_
  rw [nI_clamp (by omega), nI_clamp (by omega), nI_clamp (by omega)]
  refine aw_iconst (v := 1) dX10_copy_123 rfl ?_
  refine aw_reti dX10_copy_124 rfl rfl ⟨Nat.le_of_ble_eq_true rfl, Nat.le_of_ble_eq_true rfl⟩ ?_
  exact ⟨rfl, _, _, _, rfl, hI.sh (hS.cpy hp1 hFp1 hi) (fun o a b => va_up_nat (by omega)) (by rw [va_up_nat (by omega)]; exact hfd), fun o ho => va_up_nat (by omega)⟩
def e_wr (E : Nat → Nat → Int32) (s f : Nat) (w : Nat → Nat) (i : Nat) : Nat → Nat → Int32 := fun a b => if a = s ∧ b < i then z_cut f (nI (w b) - 1) else E a b
theorem e_wr_0 {E : Nat → Nat → Int32} {s f : Nat} {w : Nat → Nat} : e_wr E s f w 0 = E := by
  funext a b; unfold e_wr; rw [if_neg (by omega)]
theorem e_wr_S {E : Nat → Nat → Int32} {s f : Nat} {w : Nat → Nat} {i : Nat} : aw_u (e_wr E s f w i) s i (z_cut f (nI (w i) - 1)) = e_wr E s f w (i + 1) := by
  funext a b
  by_cases ha : a = s
  · subst ha
    by_cases hb : b = i
    · subst hb; rw [aw_u_eq]; unfold e_wr; rw [if_pos ⟨rfl, by omega⟩]
    · rw [aw_u_nj hb]; unfold e_wr
      by_cases hl : b < i
      · rw [if_pos ⟨rfl, hl⟩, if_pos ⟨rfl, by omega⟩]
      · rw [if_neg (fun z => hl z.2), if_neg (fun z => by omega)]
  · rw [aw_u_ne ha]; unfold e_wr; rw [if_neg (fun z => ha z.1), if_neg (fun z => ha z.1)]
theorem c_writeB (G : aw_G) {n c : Nat} {I : Nat → Nat → Int32} {L : Nat → Nat → Int64} {b0 b1 : Nat → Nat} {l0 l1 : Nat} {t u x y V g : Nat → Nat → Nat} {kk : Nat} {F S : Nat → Nat} {E : Nat → Nat → Int32} {fd : Int32} (hX : zTx b0 b1 l0 l1 t u x y V kk) (hI : zCI b0 b1 l0 l1 t u x y g F S E fd I) {a1 : Int32} {a2 : Int32} (hz : ¬ (zok a1 (t 6 0) ∧ zok a2 4)) : aw_Met G mX10_write [.ref 3, .int a1, .int a2] (zH n I L c) (fun v h2 => v = some (.int (-2)) ∧ ∃ I2 L2 c2, h2 = zH n I2 L2 c2 ∧ zCI b0 b1 l0 l1 t u x y g F S E fd I2 ∧ ∀ o, 81 ≤ o → I2 o = I o) := by
  obtain ⟨hW, hC, hF, ⟨s0, hO, hR⟩, ⟨t2, s2, hD⟩, hG, hS, hfd⟩ := id hI
  obtain ⟨hP, h60, h61, htc, hV, hkk, hx, hy⟩ := id hX
  have h8 := hP.1.1
  have hk10 : kk ≤ 10 := by rw [hkk]; exact q_k_leW hW.1.2.2.2.2
  have hi6 : I 6 5 = nI (t 6 0) := by rw [h60]; exact hC.2.2
  have hi4 : I 4 5 = nI kk := by rw [hkk]; exact hW.2.2
  have hVo : f_Vok V kk := by rw [hV, hkk]; exact v_w_ok
  have hsm := zSame hP hO.1
  have hbd := zBd (m := z0) (u := u) hP.1 hP.2.2.2.1 hP.2.2.2.2.1 hP.2.2.2.2.2 hO.1
  have hS0 : p_play s0 t u x 0 0 = t 6 0 := hbd.1.1
  refine aw_Met.of okX10_write (Nat.le_of_ble_eq_true rfl) ?_
  show aw_W G mX10_write 0 [.ref 3, .int a1, .int a2, aw_x, aw_x, aw_x] [] (zH n I L c) (0, 0) _
  refine aw_aload_n dX10_write_0 rfl ?_
  refine aw_iload_n dX10_write_1 rfl ?_
  refine aw_V0c (As := [_]) dX10_write_2 k10_135 rfl rfl rfl ⟨Nat.le_of_ble_eq_true rfl, Nat.le_of_ble_eq_true rfl⟩ (Nat.le_of_ble_eq_true rfl) ⟨⟨Nat.le_of_ble_eq_true rfl, Nat.le_of_ble_eq_true rfl⟩, ⟨Nat.le_of_ble_eq_true rfl, Nat.le_of_ble_eq_true rfl⟩⟩ ⟨rfl, rfl⟩ (w_cIsCarter G a1 hi6 h8) (fun v h2 hq => ?_)
  obtain ⟨rfl, rfl⟩ := hq
  refine aw_if_eq_B (tgt := 16) dX10_write_5 (by decide) (fun c5 => ?_) (fun c5 => ?_)
  · refine aw_bipush (v := -2) dX10_write_16 (by decide) ?_
    refine aw_reti dX10_write_18 rfl rfl ⟨Nat.le_of_ble_eq_true rfl, Nat.le_of_ble_eq_true rfl⟩ ?_
    exact ⟨rfl, _, _, _, rfl, hI, fun _ _ => rfl⟩
  · refine aw_iload_n dX10_write_8 rfl ?_
    refine aw_iconst (v := 4) dX10_write_9 rfl ?_
    refine aw_S0c (As := [_, _]) dX10_write_10 k10_100 rfl rfl (Nat.le_of_ble_eq_true rfl) ⟨⟨Nat.le_of_ble_eq_true rfl, Nat.le_of_ble_eq_true rfl⟩, ⟨Nat.le_of_ble_eq_true rfl, Nat.le_of_ble_eq_true rfl⟩⟩ ⟨rfl, rfl⟩ (w_within G a2 (b := 4) (by omega)) (fun v h2 hq => ?_)
    obtain ⟨rfl, rfl⟩ := hq
    refine aw_if_ne_B (tgt := 19) dX10_write_13 (by decide) (fun z => absurd z (fun q => hz ⟨c5, q⟩)) (fun c13 => ?_)
    refine aw_bipush (v := -2) dX10_write_16 (by decide) ?_
    refine aw_reti dX10_write_18 rfl rfl ⟨Nat.le_of_ble_eq_true rfl, Nat.le_of_ble_eq_true rfl⟩ ?_
    exact ⟨rfl, _, _, _, rfl, hI, fun _ _ => rfl⟩
theorem c_writeL (G : aw_G) {n c : Nat} {I : Nat → Nat → Int32} {L : Nat → Nat → Int64} {b0 b1 : Nat → Nat} {l0 l1 : Nat} {t u x y V g : Nat → Nat → Nat} {kk : Nat} {F S : Nat → Nat} {E : Nat → Nat → Int32} {fd : Int32} (hX : zTx b0 b1 l0 l1 t u x y V kk) (hI : zCI b0 b1 l0 l1 t u x y g F S E fd I) {p1 p2 : Nat} (hp1 : p1 < t 6 0) (hp2 : p2 < 4) (h0 : F p2 = 0) : aw_Met G mX10_write [.ref 3, .int (nI p1), .int (nI p2)] (zH n I L c) (fun v h2 => v = some (.int (-10 - 1)) ∧ ∃ I2 L2 c2, h2 = zH n I2 L2 c2 ∧ zCI b0 b1 l0 l1 t u x y g F S E 1 I2 ∧ ∀ o, 81 ≤ o → I2 o = I o) := by
  obtain ⟨hW, hC, hF, ⟨s0, hO, hR⟩, ⟨t2, s2, hD⟩, hG, hS, hfd⟩ := id hI
  obtain ⟨hP, h60, h61, htc, hV, hkk, hx, hy⟩ := id hX
  have h8 := hP.1.1
  have hk10 : kk ≤ 10 := by rw [hkk]; exact q_k_leW hW.1.2.2.2.2
  have hi6 : I 6 5 = nI (t 6 0) := by rw [h60]; exact hC.2.2
  have hi4 : I 4 5 = nI kk := by rw [hkk]; exact hW.2.2
  have hVo : f_Vok V kk := by rw [hV, hkk]; exact v_w_ok
  have hsm := zSame hP hO.1
  have hbd := zBd (m := z0) (u := u) hP.1 hP.2.2.2.1 hP.2.2.2.2.1 hP.2.2.2.2.2 hO.1
  have hS0 : p_play s0 t u x 0 0 = t 6 0 := hbd.1.1
  refine aw_Met.of okX10_write (Nat.le_of_ble_eq_true rfl) ?_
  show aw_W G mX10_write 0 [.ref 3, .int (nI p1), .int (nI p2), aw_x, aw_x, aw_x] [] (zH n I L c) (0, 0) _
  refine aw_aload_n dX10_write_0 rfl ?_
  refine aw_iload_n dX10_write_1 rfl ?_
  refine aw_V0c (As := [_]) dX10_write_2 k10_135 rfl rfl rfl ⟨Nat.le_of_ble_eq_true rfl, Nat.le_of_ble_eq_true rfl⟩ (Nat.le_of_ble_eq_true rfl) ⟨⟨Nat.le_of_ble_eq_true rfl, Nat.le_of_ble_eq_true rfl⟩, ⟨Nat.le_of_ble_eq_true rfl, Nat.le_of_ble_eq_true rfl⟩⟩ ⟨rfl, rfl⟩ (w_cIsCarter G ((nI p1)) hi6 h8) (fun v h2 hq => ?_)
  obtain ⟨rfl, rfl⟩ := hq
  refine aw_if_eq_B (tgt := 16) dX10_write_5 (by decide) (fun z => absurd z (fun q => q ((zok_nI (by omega)).mpr hp1))) (fun c5 => ?_)
  refine aw_iload_n dX10_write_8 rfl ?_
  refine aw_iconst (v := 4) dX10_write_9 rfl ?_
  refine aw_S0c (As := [_, _]) dX10_write_10 k10_100 rfl rfl (Nat.le_of_ble_eq_true rfl) ⟨⟨Nat.le_of_ble_eq_true rfl, Nat.le_of_ble_eq_true rfl⟩, ⟨Nat.le_of_ble_eq_true rfl, Nat.le_of_ble_eq_true rfl⟩⟩ ⟨rfl, rfl⟩ (w_within G ((nI p2)) (b := 4) (by omega)) (fun v h2 hq => ?_)
  obtain ⟨rfl, rfl⟩ := hq
  refine aw_if_ne_B (tgt := 19) dX10_write_13 (by decide) (fun c13 => ?_) (fun z => absurd z (fun q => q ((zok_nI (by omega)).mpr hp2)))
  refine aw_aload_n dX10_write_19 rfl ?_
  refine aw_getR dX10_write_20 f10_91 rfl ⟨Nat.le_of_ble_eq_true rfl, Nat.le_of_ble_eq_true rfl⟩ rfl rfl ?_
  refine aw_iload_n dX10_write_23 rfl ?_
  refine aw_aald dX10_write_24 rfl ⟨Nat.le_of_ble_eq_true rfl, Nat.le_of_ble_eq_true rfl⟩ (vp_in_nI hp2 (by decide)) (by rw [nI_clamp (by omega)]; exact zR_sh hp2) ?_
  refine aw_astore_n (ls2 := [_, _, _, _, _, _]) dX10_write_25 (by decide) rfl rfl ?_
  refine aw_aload_n dX10_write_26 rfl ?_
  refine aw_getZ dX10_write_27 f10_150 (zS_sh hp2) ⟨by omega, (show 73 + 2 * p2 < 105 by omega)⟩ rfl ?_
  refine aw_top (hS p2 hp2).2.2.1 ?_
  refine aw_if_eq_B (tgt := 39) dX10_write_30 (by decide) (fun z => absurd z (fun q => q h0)) (fun c30 => ?_)
  refine aw_aload_n dX10_write_33 rfl ?_
  refine aw_iconst (v := 1) dX10_write_34 rfl ?_
  refine aw_V0c (As := [_]) dX10_write_35 k10_154 rfl rfl rfl ⟨Nat.le_of_ble_eq_true rfl, Nat.le_of_ble_eq_true rfl⟩ (Nat.le_of_ble_eq_true rfl) ⟨⟨Nat.le_of_ble_eq_true rfl, Nat.le_of_ble_eq_true rfl⟩, ⟨Nat.le_of_ble_eq_true rfl, Nat.le_of_ble_eq_true rfl⟩⟩ ⟨rfl, rfl⟩ (w_found G (v0 := 1)) (fun v h2 hq => ?_)
  obtain ⟨rfl, rfl⟩ := hq
  refine aw_reti dX10_write_38 rfl rfl ⟨Nat.le_of_ble_eq_true rfl, Nat.le_of_ble_eq_true rfl⟩ ?_
  exact ⟨rfl, _, _, _, rfl, hI.fnd _, fun o ho => aw_u_ne (by omega)⟩
theorem c_write (G : aw_G) {n c : Nat} {I : Nat → Nat → Int32} {L : Nat → Nat → Int64} {b0 b1 : Nat → Nat} {l0 l1 : Nat} {t u x y V g : Nat → Nat → Nat} {kk : Nat} {F S : Nat → Nat} {E : Nat → Nat → Int32} {fd : Int32} (hX : zTx b0 b1 l0 l1 t u x y V kk) (hI : zCI b0 b1 l0 l1 t u x y g F S E fd I) {p1 p2 : Nat} (hp1 : p1 < t 6 0) (hp2 : p2 < 4) (hFp2 : F p2 ≠ 0) : aw_Met G mX10_write [.ref 3, .int (nI p1), .int (nI p2)] (zH n I L c) (fun v h2 => v = some (.int (nI (if 40 < S p2 then 40 else S p2))) ∧ ∃ I2 L2 c2, h2 = zH n I2 L2 c2 ∧ zCI b0 b1 l0 l1 t u x y g F S (e_wr E p2 (F p2 - 1) (o_sb x u t p1) (if 40 < S p2 then 40 else S p2)) fd I2 ∧ ∀ o, 81 ≤ o → I2 o = I o) := by
  obtain ⟨hW, hC, hF, ⟨s0, hO, hR⟩, ⟨t2, s2, hD⟩, hG, hS, hfd⟩ := id hI
  obtain ⟨hP, h60, h61, htc, hV, hkk, hx, hy⟩ := id hX
  have h8 := hP.1.1
  have hk10 : kk ≤ 10 := by rw [hkk]; exact q_k_leW hW.1.2.2.2.2
  have hi6 : I 6 5 = nI (t 6 0) := by rw [h60]; exact hC.2.2
  have hi4 : I 4 5 = nI kk := by rw [hkk]; exact hW.2.2
  have hVo : f_Vok V kk := by rw [hV, hkk]; exact v_w_ok
  have hsm := zSame hP hO.1
  have hbd := zBd (m := z0) (u := u) hP.1 hP.2.2.2.1 hP.2.2.2.2.1 hP.2.2.2.2.2 hO.1
  have hS0 : p_play s0 t u x 0 0 = t 6 0 := hbd.1.1
  have hs2 := (hS p2 hp2).2.1
  have hf2 := (hS p2 hp2).1
  obtain ⟨N, hN⟩ : ∃ N, N = if 40 < S p2 then 40 else S p2 := ⟨_, rfl⟩
  have hN4 : N ≤ 40 := by rw [hN]; split <;> omega
  refine aw_Met.of okX10_write (Nat.le_of_ble_eq_true rfl) ?_
  show aw_W G mX10_write 0 [.ref 3, .int (nI p1), .int (nI p2), aw_x, aw_x, aw_x] [] (zH n I L c) (0, 0) _
  refine aw_aload_n dX10_write_0 rfl ?_
  refine aw_iload_n dX10_write_1 rfl ?_
  refine aw_V0c (As := [_]) dX10_write_2 k10_135 rfl rfl rfl ⟨Nat.le_of_ble_eq_true rfl, Nat.le_of_ble_eq_true rfl⟩ (Nat.le_of_ble_eq_true rfl) ⟨⟨Nat.le_of_ble_eq_true rfl, Nat.le_of_ble_eq_true rfl⟩, ⟨Nat.le_of_ble_eq_true rfl, Nat.le_of_ble_eq_true rfl⟩⟩ ⟨rfl, rfl⟩ (w_cIsCarter G ((nI p1)) hi6 h8) (fun v h2 hq => ?_)
  obtain ⟨rfl, rfl⟩ := hq
  refine aw_if_eq_B (tgt := 16) dX10_write_5 (by decide) (fun z => absurd z (fun q => q ((zok_nI (by omega)).mpr hp1))) (fun c5 => ?_)
  refine aw_iload_n dX10_write_8 rfl ?_
  refine aw_iconst (v := 4) dX10_write_9 rfl ?_
  refine aw_S0c (As := [_, _]) dX10_write_10 k10_100 rfl rfl (Nat.le_of_ble_eq_true rfl) ⟨⟨Nat.le_of_ble_eq_true rfl, Nat.le_of_ble_eq_true rfl⟩, ⟨Nat.le_of_ble_eq_true rfl, Nat.le_of_ble_eq_true rfl⟩⟩ ⟨rfl, rfl⟩ (w_within G ((nI p2)) (b := 4) (by omega)) (fun v h2 hq => ?_)
  obtain ⟨rfl, rfl⟩ := hq
  refine aw_if_ne_B (tgt := 19) dX10_write_13 (by decide) (fun c13 => ?_) (fun z => absurd z (fun q => q ((zok_nI (by omega)).mpr hp2)))
  refine aw_aload_n dX10_write_19 rfl ?_
  refine aw_getR dX10_write_20 f10_91 rfl ⟨Nat.le_of_ble_eq_true rfl, Nat.le_of_ble_eq_true rfl⟩ rfl rfl ?_
  refine aw_iload_n dX10_write_23 rfl ?_
  refine aw_aald dX10_write_24 rfl ⟨Nat.le_of_ble_eq_true rfl, Nat.le_of_ble_eq_true rfl⟩ (vp_in_nI hp2 (by decide)) (by rw [nI_clamp (by omega)]; exact zR_sh hp2) ?_
  refine aw_astore_n (ls2 := [_, _, _, _, _, _]) dX10_write_25 (by decide) rfl rfl ?_
  refine aw_aload_n dX10_write_26 rfl ?_
  refine aw_getZ dX10_write_27 f10_150 (zS_sh hp2) ⟨by omega, (show 73 + 2 * p2 < 105 by omega)⟩ rfl ?_
  refine aw_top (hS p2 hp2).2.2.1 ?_
  refine aw_if_eq_B (tgt := 39) dX10_write_30 (by decide) (fun c30 => ?_) (fun z => absurd z hFp2)
  refine aw_aload_n dX10_write_39 rfl ?_
  refine aw_getI dX10_write_40 f10_158 (zS_sh hp2) ⟨by omega, (show 73 + 2 * p2 < 105 by omega)⟩ rfl ?_
  refine aw_top ((hS p2 hp2).2.2.2 hFp2).2.1 ?_
  refine aw_bipush (v := 40) dX10_write_43 (by decide) ?_
  refine aw_min dX10_write_45 mm10_271 ⟨Nat.le_of_ble_eq_true rfl, Nat.le_of_ble_eq_true rfl⟩ ⟨Nat.le_of_ble_eq_true rfl, Nat.le_of_ble_eq_true rfl⟩ ?_
  refine aw_top ((zi_min (a := S p2) (b := 40) (by omega) (by omega)).trans (congrArg nI hN.symm)) ?_
  refine aw_istore (ls2 := [_, _, _, _, _, _]) dX10_write_48 (by decide) rfl rfl ?_
  refine aw_iconst (v := 0) dX10_write_50 rfl ?_
  refine aw_istore (ls2 := [_, _, _, _, _, _]) dX10_write_51 (by decide) rfl rfl ?_
  refine aw_up (X := fun i => ∀ I3, (zCI b0 b1 l0 l1 t u x y g F S (e_wr E p2 (F p2 - 1) (o_sb x u t p1) i) fd I3 ∧ ∀ o, 81 ≤ o → I3 o = I o) → aw_W G mX10_write 53 [.ref 3, .int (nI p1), .int (nI p2), .ref (73 + 2 * p2), .int (nI N), .int (nI i)] [] (zH n I3 L c) (0, 0) _) (Nat.zero_le N) (fun I3 hh => ?_) (fun i _ hi ih I3 hh => ?_) _ ⟨by rw [e_wr_0]; exact hI, fun _ _ => rfl⟩
  · obtain ⟨hI, hFr⟩ := hh
    refine aw_iload dX10_write_53 rfl ?_
    refine aw_iload dX10_write_55 rfl ?_
    refine aw_ic_ge_n (a := N) (b := N) (tgt := 82) dX10_write_57 (by decide) (by omega) (by omega) (fun c57 => ?_) (fun z => absurd z (by omega))
    refine aw_iload dX10_write_82 rfl ?_
    refine aw_reti dX10_write_84 rfl rfl ⟨Nat.le_of_ble_eq_true rfl, Nat.le_of_ble_eq_true rfl⟩ ?_
    exact ⟨by rw [hN], _, _, _, rfl, by rw [← hN]; exact hI, hFr⟩
  · obtain ⟨hI, hFr⟩ := hh
    obtain ⟨-, -, hF, ⟨s0, hO, hR⟩, -, -, hS, hfd⟩ := id hI
    have hbd := zBd (m := z0) (u := u) hP.1 hP.2.2.2.1 hP.2.2.2.2.1 hP.2.2.2.2.2 hO.1
    have hbk := hbd.1.2.2.2.1 p1 (by omega)
    have hca := zCan (u := u) hP.1 hP.2.2.2 hO.1 (fun k hk => hP.2.1 k (by omega)) hp1
    have hsb : (if p_play s0 t u x 7 p1 ≠ 0 ∧ p_play s0 t u x 7 p1 ≤ i + 1 then p_play s0 t u x 5 p1 + 1 else 0) = o_sb x u t p1 i := by
      unfold o_sb z_sb; rw [← hca.2.1, ← hca.2.2]
    refine aw_iload dX10_write_53 rfl ?_
    refine aw_iload dX10_write_55 rfl ?_
    refine aw_ic_ge_n (a := i) (b := N) (tgt := 82) dX10_write_57 (by decide) (by omega) (by omega) (fun z => absurd z (by omega)) (fun c57 => ?_)
    refine aw_aload_n dX10_write_60 rfl ?_
    refine aw_iload dX10_write_61 rfl ?_
    refine aw_aload_n dX10_write_63 rfl ?_
    refine aw_getR dX10_write_64 f10_58 rfl ⟨Nat.le_of_ble_eq_true rfl, Nat.le_of_ble_eq_true rfl⟩ rfl rfl ?_
    refine aw_iload_n dX10_write_67 rfl ?_
    refine aw_iload dX10_write_68 rfl ?_
    refine aw_V0c (As := [_, _]) dX10_write_70 k10_276 rfl rfl rfl ⟨Nat.le_of_ble_eq_true rfl, Nat.le_of_ble_eq_true rfl⟩ (Nat.le_of_ble_eq_true rfl) ⟨⟨Nat.le_of_ble_eq_true rfl, Nat.le_of_ble_eq_true rfl⟩, ⟨Nat.le_of_ble_eq_true rfl, Nat.le_of_ble_eq_true rfl⟩⟩ ⟨rfl, rfl⟩ (w_stay22 G hR (k := p1) (h := i) (by omega) (by omega) (by omega) hbk.2.2.1) (fun v h2 hq => ?_)
    obtain ⟨rfl, rfl⟩ := hq
    rw [hsb]
    refine aw_V0c (As := [_, _]) dX10_write_73 k10_255 rfl rfl (zS_sh hp2) ⟨by omega, (show 73 + 2 * p2 < 105 by omega)⟩ (Nat.le_of_ble_eq_true rfl) ⟨⟨Nat.le_of_ble_eq_true rfl, Nat.le_of_ble_eq_true rfl⟩, ⟨Nat.le_of_ble_eq_true rfl, Nat.le_of_ble_eq_true rfl⟩⟩ ⟨rfl, rfl⟩ (w_put G hp2 (i := i) (f := F p2 - 1) (by omega) (by omega) ((hS p2 hp2).2.2.2 hFp2).1) (fun v h2 hq => ?_)
    obtain ⟨rfl, rfl⟩ := hq
    refine aw_iinc_n (ls2 := [_, _, _, _, _, _]) dX10_write_76 rfl (by decide) rfl rfl ?_
    refine aw_goto (tgt := 53) dX10_write_79 (by decide) ?_
    refine ih _ ⟨?_, fun o ho => by rw [aw_u_ne (by omega)]; exact hFr o ho⟩
    rw [← e_wr_S]
    exact hI.sh hS.put (fun o a b => aw_u_ne (by omega)) (by rw [aw_u_ne (by omega)]; exact hfd)
def z_rp (e : Nat → Int32) (s m n : Nat) : Bool := (decide (2 * n + 2 ≤ s) && decide (m + n < 8)) && (decide (zok (e (2 * n)) 40) && decide (zok (e (2 * n + 1)) 8))
def z_rn (e : Nat → Int32) (s m : Nat) : Nat := zfst (fun n => !z_rp e s m n) 9 - 1
def u_r (e : Nat → Int32) (u : Nat → Nat → Nat) : Nat → Nat → Nat → Nat
  | 0 => u
  | n + 1 => u_push (u_r e u n) (zt (e (2 * n))) (zt (e (2 * n + 1)))
theorem u_r_n {e : Nat → Int32} {u : Nat → Nat → Nat} {n : Nat} : u_r e u n 2 0 = u 2 0 + n := by
  induction n with
  | zero => rfl
  | succ n ih => rw [u_r]; unfold u_push; rw [aw_u_eq, ih]; omega
theorem z_rn_at {e : Nat → Int32} {s m n : Nat} (h : ∀ w, w < n → z_rp e s m w = true) (hn : z_rp e s m n = false) (h9 : n < 9) : z_rn e s m = n := by
  unfold z_rn
  rw [zfst_at (v := n) (fun w hw => by rw [h w hw]; rfl) (by rw [hn]; rfl) h9]
  omega
theorem z_rp_t {e : Nat → Int32} {s m n : Nat} (h1 : 2 * n + 2 ≤ s) (h2 : m + n < 8) (h3 : zok (e (2 * n)) 40) (h4 : zok (e (2 * n + 1)) 8) : z_rp e s m n = true := by
  unfold z_rp; rw [decide_eq_true h1, decide_eq_true h2, decide_eq_true h3, decide_eq_true h4]; rfl
theorem z_rp_f {e : Nat → Int32} {s m n : Nat} (h : ¬ (2 * n + 2 ≤ s) ∨ ¬ (m + n < 8) ∨ ¬ zok (e (2 * n)) 40 ∨ ¬ zok (e (2 * n + 1)) 8) : z_rp e s m n = false := by
  unfold z_rp
  rcases h with h | h | h | h
  · rw [decide_eq_false h]; rfl
  · rw [decide_eq_false h]; cases decide (2 * n + 2 ≤ s) <;> rfl
  · rw [decide_eq_false h]; cases (decide (2 * n + 2 ≤ s) && decide (m + n < 8)) <;> rfl
  · rw [decide_eq_false h]; cases (decide (2 * n + 2 ≤ s) && decide (m + n < 8)) <;> cases decide (zok (e (2 * n)) 40) <;> rfl
theorem c_readB (G : aw_G) {n c : Nat} {I : Nat → Nat → Int32} {L : Nat → Nat → Int64} {b0 b1 : Nat → Nat} {l0 l1 : Nat} {t u x y V g : Nat → Nat → Nat} {kk : Nat} {F S : Nat → Nat} {E : Nat → Nat → Int32} {fd : Int32} (hX : zTx b0 b1 l0 l1 t u x y V kk) (hI : zCI b0 b1 l0 l1 t u x y g F S E fd I) {a1 : Int32} (hz : ¬ (zok a1 4)) : aw_Met G mX10_read [.ref 3, .int a1] (zH n I L c) (fun v h2 => v = some (.int (-2)) ∧ ∃ I2 L2 c2, h2 = zH n I2 L2 c2 ∧ zCI b0 b1 l0 l1 t u x y g F S E fd I2 ∧ ∀ o, 81 ≤ o → I2 o = I o) := by
  obtain ⟨hW, hC, hF, ⟨s0, hO, hR⟩, ⟨t2, s2, hD⟩, hG, hS, hfd⟩ := id hI
  obtain ⟨hP, h60, h61, htc, hV, hkk, hx, hy⟩ := id hX
  have h8 := hP.1.1
  have hk10 : kk ≤ 10 := by rw [hkk]; exact q_k_leW hW.1.2.2.2.2
  have hi6 : I 6 5 = nI (t 6 0) := by rw [h60]; exact hC.2.2
  have hi4 : I 4 5 = nI kk := by rw [hkk]; exact hW.2.2
  have hVo : f_Vok V kk := by rw [hV, hkk]; exact v_w_ok
  have hsm := zSame hP hO.1
  have hbd := zBd (m := z0) (u := u) hP.1 hP.2.2.2.1 hP.2.2.2.2.1 hP.2.2.2.2.2 hO.1
  have hS0 : p_play s0 t u x 0 0 = t 6 0 := hbd.1.1
  refine aw_Met.of okX10_read (Nat.le_of_ble_eq_true rfl) ?_
  show aw_W G mX10_read 0 [.ref 3, .int a1, aw_x, aw_x, aw_x, aw_x, aw_x] [] (zH n I L c) (0, 0) _
  refine aw_iload_n dX10_read_0 rfl ?_
  refine aw_iconst (v := 4) dX10_read_1 rfl ?_
  refine aw_S0c (As := [_, _]) dX10_read_2 k10_100 rfl rfl (Nat.le_of_ble_eq_true rfl) ⟨⟨Nat.le_of_ble_eq_true rfl, Nat.le_of_ble_eq_true rfl⟩, ⟨Nat.le_of_ble_eq_true rfl, Nat.le_of_ble_eq_true rfl⟩⟩ ⟨rfl, rfl⟩ (w_within G a1 (b := 4) (by omega)) (fun v h2 hq => ?_)
  obtain ⟨rfl, rfl⟩ := hq
  refine aw_if_ne_B (tgt := 11) dX10_read_5 (by decide) (fun z => absurd z hz) (fun c5 => ?_)
  refine aw_bipush (v := -2) dX10_read_8 (by decide) ?_
  refine aw_reti dX10_read_10 rfl rfl ⟨Nat.le_of_ble_eq_true rfl, Nat.le_of_ble_eq_true rfl⟩ ?_
  exact ⟨rfl, _, _, _, rfl, hI, fun _ _ => rfl⟩
theorem c_readL (G : aw_G) {n c : Nat} {I : Nat → Nat → Int32} {L : Nat → Nat → Int64} {b0 b1 : Nat → Nat} {l0 l1 : Nat} {t u x y V g : Nat → Nat → Nat} {kk : Nat} {F S : Nat → Nat} {E : Nat → Nat → Int32} {fd : Int32} (hX : zTx b0 b1 l0 l1 t u x y V kk) (hI : zCI b0 b1 l0 l1 t u x y g F S E fd I) {p1 : Nat} (hp1 : p1 < 4) (h0 : F p1 = 0) : aw_Met G mX10_read [.ref 3, .int (nI p1)] (zH n I L c) (fun v h2 => v = some (.int (-10 - 1)) ∧ ∃ I2 L2 c2, h2 = zH n I2 L2 c2 ∧ zCI b0 b1 l0 l1 t u x y g F S E 1 I2 ∧ ∀ o, 81 ≤ o → I2 o = I o) := by
  obtain ⟨hW, hC, hF, ⟨s0, hO, hR⟩, ⟨t2, s2, hD⟩, hG, hS, hfd⟩ := id hI
  obtain ⟨hP, h60, h61, htc, hV, hkk, hx, hy⟩ := id hX
  have h8 := hP.1.1
  have hk10 : kk ≤ 10 := by rw [hkk]; exact q_k_leW hW.1.2.2.2.2
  have hi6 : I 6 5 = nI (t 6 0) := by rw [h60]; exact hC.2.2
  have hi4 : I 4 5 = nI kk := by rw [hkk]; exact hW.2.2
  have hVo : f_Vok V kk := by rw [hV, hkk]; exact v_w_ok
  have hsm := zSame hP hO.1
  have hbd := zBd (m := z0) (u := u) hP.1 hP.2.2.2.1 hP.2.2.2.2.1 hP.2.2.2.2.2 hO.1
  have hS0 : p_play s0 t u x 0 0 = t 6 0 := hbd.1.1
  refine aw_Met.of okX10_read (Nat.le_of_ble_eq_true rfl) ?_
  show aw_W G mX10_read 0 [.ref 3, .int (nI p1), aw_x, aw_x, aw_x, aw_x, aw_x] [] (zH n I L c) (0, 0) _
  refine aw_iload_n dX10_read_0 rfl ?_
  refine aw_iconst (v := 4) dX10_read_1 rfl ?_
  refine aw_S0c (As := [_, _]) dX10_read_2 k10_100 rfl rfl (Nat.le_of_ble_eq_true rfl) ⟨⟨Nat.le_of_ble_eq_true rfl, Nat.le_of_ble_eq_true rfl⟩, ⟨Nat.le_of_ble_eq_true rfl, Nat.le_of_ble_eq_true rfl⟩⟩ ⟨rfl, rfl⟩ (w_within G ((nI p1)) (b := 4) (by omega)) (fun v h2 hq => ?_)
  obtain ⟨rfl, rfl⟩ := hq
  refine aw_if_ne_B (tgt := 11) dX10_read_5 (by decide) (fun c5 => ?_) (fun z => absurd z (fun q => q ((zok_nI (by omega)).mpr hp1)))
  refine aw_aload_n dX10_read_11 rfl ?_
  refine aw_getR dX10_read_12 f10_91 rfl ⟨Nat.le_of_ble_eq_true rfl, Nat.le_of_ble_eq_true rfl⟩ rfl rfl ?_
  refine aw_iload_n dX10_read_15 rfl ?_
  refine aw_aald dX10_read_16 rfl ⟨Nat.le_of_ble_eq_true rfl, Nat.le_of_ble_eq_true rfl⟩ (vp_in_nI hp1 (by decide)) (by rw [nI_clamp (by omega)]; exact zR_sh hp1) ?_
  refine aw_astore_n (ls2 := [_, _, _, _, _, _, _]) dX10_read_17 (by decide) rfl rfl ?_
  refine aw_aload_n dX10_read_18 rfl ?_
  refine aw_getZ dX10_read_19 f10_150 (zS_sh hp1) ⟨by omega, (show 73 + 2 * p1 < 105 by omega)⟩ rfl ?_
  refine aw_top (hS p1 hp1).2.2.1 ?_
  refine aw_if_eq_B (tgt := 31) dX10_read_22 (by decide) (fun z => absurd z (fun q => q h0)) (fun c22 => ?_)
  refine aw_aload_n dX10_read_25 rfl ?_
  refine aw_iconst (v := 1) dX10_read_26 rfl ?_
  refine aw_V0c (As := [_]) dX10_read_27 k10_154 rfl rfl rfl ⟨Nat.le_of_ble_eq_true rfl, Nat.le_of_ble_eq_true rfl⟩ (Nat.le_of_ble_eq_true rfl) ⟨⟨Nat.le_of_ble_eq_true rfl, Nat.le_of_ble_eq_true rfl⟩, ⟨Nat.le_of_ble_eq_true rfl, Nat.le_of_ble_eq_true rfl⟩⟩ ⟨rfl, rfl⟩ (w_found G (v0 := 1)) (fun v h2 hq => ?_)
  obtain ⟨rfl, rfl⟩ := hq
  refine aw_reti dX10_read_30 rfl rfl ⟨Nat.le_of_ble_eq_true rfl, Nat.le_of_ble_eq_true rfl⟩ ?_
  exact ⟨rfl, _, _, _, rfl, hI.fnd _, fun o ho => aw_u_ne (by omega)⟩
theorem c_read (G : aw_G) {n c : Nat} {I : Nat → Nat → Int32} {L : Nat → Nat → Int64} {b0 b1 : Nat → Nat} {l0 l1 : Nat} {t u x y V g : Nat → Nat → Nat} {kk : Nat} {F S : Nat → Nat} {E : Nat → Nat → Int32} {fd : Int32} (hX : zTx b0 b1 l0 l1 t u x y V kk) (hI : zCI b0 b1 l0 l1 t u x y g F S E fd I) {p1 : Nat} (hp1 : p1 < 4) (hFp1 : F p1 ≠ 0) : aw_Met G mX10_read [.ref 3, .int (nI p1)] (zH n I L c) (fun v h2 => v = some (.int (nI (z_rn (E p1) (S p1) (u 2 0)))) ∧ ∃ I2 L2 c2, h2 = zH n I2 L2 c2 ∧ zTx b0 b1 l0 l1 t (u_r (E p1) u (z_rn (E p1) (S p1) (u 2 0))) x y V kk ∧ zCI b0 b1 l0 l1 t (u_r (E p1) u (z_rn (E p1) (S p1) (u 2 0))) x y g F S E fd I2 ∧ ∀ o, 81 ≤ o → I2 o = I o) := by
  obtain ⟨hW, hC, hF, ⟨s0, hO, hR⟩, ⟨t2, s2, hD⟩, hG, hS, hfd⟩ := id hI
  obtain ⟨hP, h60, h61, htc, hV, hkk, hx, hy⟩ := id hX
  have h8 := hP.1.1
  have hk10 : kk ≤ 10 := by rw [hkk]; exact q_k_leW hW.1.2.2.2.2
  have hi6 : I 6 5 = nI (t 6 0) := by rw [h60]; exact hC.2.2
  have hi4 : I 4 5 = nI kk := by rw [hkk]; exact hW.2.2
  have hVo : f_Vok V kk := by rw [hV, hkk]; exact v_w_ok
  have hsm := zSame hP hO.1
  have hbd := zBd (m := z0) (u := u) hP.1 hP.2.2.2.1 hP.2.2.2.2.1 hP.2.2.2.2.2 hO.1
  have hS0 : p_play s0 t u x 0 0 = t 6 0 := hbd.1.1
  have hs60 := (hS p1 hp1).2.1
  have hu8 := hP.2.2.1.1
  refine aw_Met.of okX10_read (Nat.le_of_ble_eq_true rfl) ?_
  show aw_W G mX10_read 0 [.ref 3, .int (nI p1), aw_x, aw_x, aw_x, aw_x, aw_x] [] (zH n I L c) (0, 0) _
  refine aw_iload_n dX10_read_0 rfl ?_
  refine aw_iconst (v := 4) dX10_read_1 rfl ?_
  refine aw_S0c (As := [_, _]) dX10_read_2 k10_100 rfl rfl (Nat.le_of_ble_eq_true rfl) ⟨⟨Nat.le_of_ble_eq_true rfl, Nat.le_of_ble_eq_true rfl⟩, ⟨Nat.le_of_ble_eq_true rfl, Nat.le_of_ble_eq_true rfl⟩⟩ ⟨rfl, rfl⟩ (w_within G ((nI p1)) (b := 4) (by omega)) (fun v h2 hq => ?_)
  obtain ⟨rfl, rfl⟩ := hq
  refine aw_if_ne_B (tgt := 11) dX10_read_5 (by decide) (fun c5 => ?_) (fun z => absurd z (fun q => q ((zok_nI (by omega)).mpr hp1)))
  refine aw_aload_n dX10_read_11 rfl ?_
  refine aw_getR dX10_read_12 f10_91 rfl ⟨Nat.le_of_ble_eq_true rfl, Nat.le_of_ble_eq_true rfl⟩ rfl rfl ?_
  refine aw_iload_n dX10_read_15 rfl ?_
  refine aw_aald dX10_read_16 rfl ⟨Nat.le_of_ble_eq_true rfl, Nat.le_of_ble_eq_true rfl⟩ (vp_in_nI hp1 (by decide)) (by rw [nI_clamp (by omega)]; exact zR_sh hp1) ?_
  refine aw_astore_n (ls2 := [_, _, _, _, _, _, _]) dX10_read_17 (by decide) rfl rfl ?_
  refine aw_aload_n dX10_read_18 rfl ?_
  refine aw_getZ dX10_read_19 f10_150 (zS_sh hp1) ⟨by omega, (show 73 + 2 * p1 < 105 by omega)⟩ rfl ?_
  refine aw_top (hS p1 hp1).2.2.1 ?_
  refine aw_if_eq_B (tgt := 31) dX10_read_22 (by decide) (fun c22 => ?_) (fun z => absurd z hFp1)
  refine aw_aload_n dX10_read_31 rfl ?_
  refine aw_getR dX10_read_32 f10_31 rfl ⟨Nat.le_of_ble_eq_true rfl, Nat.le_of_ble_eq_true rfl⟩ rfl rfl ?_
  refine aw_getI dX10_read_35 f10_145 rfl ⟨Nat.le_of_ble_eq_true rfl, Nat.le_of_ble_eq_true rfl⟩ rfl ?_
  refine aw_top hF.2.2.2.1.1 ?_
  refine aw_istore_n (ls2 := [_, _, _, _, _, _, _]) dX10_read_38 (by decide) rfl rfl ?_
  refine aw_iconst (v := 0) dX10_read_39 rfl ?_
  refine aw_istore (ls2 := [_, _, _, _, _, _, _]) dX10_read_40 (by decide) rfl rfl ?_
  refine aw_up (X := fun n0 => ∀ I3, ((zCK b0 b1 l0 l1 t (u_r (E p1) u n0) g F S E fd I3 ∧ zCh x 12 I3) ∧ (∀ o, 81 ≤ o → I3 o = I o) ∧ ∀ w, w < n0 → z_rp (E p1) (S p1) (u 2 0) w = true) → aw_W G mX10_read 42 [.ref 3, .int (nI p1), .ref (73 + 2 * p1), .int (nI (u 2 0)), .int (nI (2 * n0)), aw_x, aw_x] [] (zH n I3 L c) (0, 0) _) (Nat.zero_le 8) (fun I3 hh => ?_) (fun n0 _ hn ih I3 hh => ?_) _ ⟨⟨hI.k, hF.2.2.2.2.2.1⟩, fun _ _ => rfl, fun w hw => absurd hw (by omega)⟩
  · obtain ⟨⟨hK, hx3⟩, hFr, hrp⟩ := hh
    refine aw_iload dX10_read_42 rfl ?_
    refine aw_iconst (v := 1) dX10_read_44 rfl ?_
    refine aw_iadd_n (a := 2 * 8) (b := 1) dX10_read_45 ?_
    refine aw_aload_n dX10_read_46 rfl ?_
    refine aw_getI dX10_read_47 f10_158 (zS_sh hp1) ⟨by omega, (show 73 + 2 * p1 < 105 by omega)⟩ rfl ?_
    refine aw_top ((hK.2.2.2.2.2.2.1 p1 hp1).2.2.2 hFp1).2.1 ?_
    refine aw_ic_ge_n (a := (2 * 8) + 1) (b := S p1) (tgt := 125) dX10_read_50 (by decide) (by omega) (by omega) (fun c50 => ?_) (fun c50 => ?_)
    · refine aw_aload_n dX10_read_125 rfl ?_
      refine aw_getR dX10_read_126 f10_58 rfl ⟨Nat.le_of_ble_eq_true rfl, Nat.le_of_ble_eq_true rfl⟩ rfl rfl ?_
      refine aw_aload_n dX10_read_129 rfl ?_
      refine aw_getR dX10_read_130 f10_43 rfl ⟨Nat.le_of_ble_eq_true rfl, Nat.le_of_ble_eq_true rfl⟩ rfl rfl ?_
      refine aw_V0c (As := [_]) dX10_read_133 k10_62 rfl rfl rfl ⟨Nat.le_of_ble_eq_true rfl, Nat.le_of_ble_eq_true rfl⟩ (Nat.le_of_ble_eq_true rfl) ⟨⟨Nat.le_of_ble_eq_true rfl, Nat.le_of_ble_eq_true rfl⟩, ⟨Nat.le_of_ble_eq_true rfl, Nat.le_of_ble_eq_true rfl⟩⟩ ⟨rfl, rfl⟩ (w_plI G hK hx3 hF.2.2.2.2.2.2) (fun v h2 hq => ?_)
      obtain ⟨rfl, I4, rfl, hI4, hF4⟩ := hq
      refine aw_aload_n dX10_read_136 rfl ?_
      refine aw_getR dX10_read_137 f10_31 rfl ⟨Nat.le_of_ble_eq_true rfl, Nat.le_of_ble_eq_true rfl⟩ rfl rfl ?_
      refine aw_getI dX10_read_140 f10_145 rfl ⟨Nat.le_of_ble_eq_true rfl, Nat.le_of_ble_eq_true rfl⟩ rfl ?_
      refine aw_top (hI4.2.2.1.2.2.2.1.1.trans (by rw [u_r_n])) ?_
      refine aw_iload_n dX10_read_143 rfl ?_
      refine aw_isub_n (a := u 2 0 + 8) (b := u 2 0) dX10_read_144 (by omega) ?_
      refine aw_reti dX10_read_145 rfl rfl ⟨Nat.le_of_ble_eq_true rfl, Nat.le_of_ble_eq_true rfl⟩ ?_
      have hrn : z_rn (E p1) (S p1) (u 2 0) = 8 := z_rn_at hrp (z_rp_f (Or.inl (by omega))) (by omega)
      rw [hrn]
      exact ⟨by rw [show u 2 0 + 8 - u 2 0 = 8 by omega], _, _, _, rfl, ⟨⟨hP.1, hP.2.1, hI4.2.2.1.2.2.2.2.1, hP.2.2.2⟩, h60, h61, htc, hV, hkk, hx, hy⟩, hI4, fun o ho => by rw [hF4 o (by omega)]; exact hFr o ho⟩
    · refine aw_aload_n dX10_read_53 rfl ?_
      refine aw_getR dX10_read_54 f10_31 rfl ⟨Nat.le_of_ble_eq_true rfl, Nat.le_of_ble_eq_true rfl⟩ rfl rfl ?_
      refine aw_getI dX10_read_57 f10_145 rfl ⟨Nat.le_of_ble_eq_true rfl, Nat.le_of_ble_eq_true rfl⟩ rfl ?_
      refine aw_top (hK.2.2.1.2.2.2.1.1.trans (by rw [u_r_n])) ?_
      refine aw_bipush (v := 8) dX10_read_60 (by decide) ?_
      refine aw_ic_ge_n (a := u 2 0 + 8) (b := 8) (tgt := 125) dX10_read_62 (by decide) (by omega) (by omega) (fun c62 => ?_) (fun z => absurd z (by omega))
      refine aw_aload_n dX10_read_125 rfl ?_
      refine aw_getR dX10_read_126 f10_58 rfl ⟨Nat.le_of_ble_eq_true rfl, Nat.le_of_ble_eq_true rfl⟩ rfl rfl ?_
      refine aw_aload_n dX10_read_129 rfl ?_
      refine aw_getR dX10_read_130 f10_43 rfl ⟨Nat.le_of_ble_eq_true rfl, Nat.le_of_ble_eq_true rfl⟩ rfl rfl ?_
      refine aw_V0c (As := [_]) dX10_read_133 k10_62 rfl rfl rfl ⟨Nat.le_of_ble_eq_true rfl, Nat.le_of_ble_eq_true rfl⟩ (Nat.le_of_ble_eq_true rfl) ⟨⟨Nat.le_of_ble_eq_true rfl, Nat.le_of_ble_eq_true rfl⟩, ⟨Nat.le_of_ble_eq_true rfl, Nat.le_of_ble_eq_true rfl⟩⟩ ⟨rfl, rfl⟩ (w_plI G hK hx3 hF.2.2.2.2.2.2) (fun v h2 hq => ?_)
      obtain ⟨rfl, I4, rfl, hI4, hF4⟩ := hq
      refine aw_aload_n dX10_read_136 rfl ?_
      refine aw_getR dX10_read_137 f10_31 rfl ⟨Nat.le_of_ble_eq_true rfl, Nat.le_of_ble_eq_true rfl⟩ rfl rfl ?_
      refine aw_getI dX10_read_140 f10_145 rfl ⟨Nat.le_of_ble_eq_true rfl, Nat.le_of_ble_eq_true rfl⟩ rfl ?_
      refine aw_top (hI4.2.2.1.2.2.2.1.1.trans (by rw [u_r_n])) ?_
      refine aw_iload_n dX10_read_143 rfl ?_
      refine aw_isub_n (a := u 2 0 + 8) (b := u 2 0) dX10_read_144 (by omega) ?_
      refine aw_reti dX10_read_145 rfl rfl ⟨Nat.le_of_ble_eq_true rfl, Nat.le_of_ble_eq_true rfl⟩ ?_
      have hrn : z_rn (E p1) (S p1) (u 2 0) = 8 := z_rn_at hrp (z_rp_f (Or.inr (Or.inl (by omega)))) (by omega)
      rw [hrn]
      exact ⟨by rw [show u 2 0 + 8 - u 2 0 = 8 by omega], _, _, _, rfl, ⟨⟨hP.1, hP.2.1, hI4.2.2.1.2.2.2.2.1, hP.2.2.2⟩, h60, h61, htc, hV, hkk, hx, hy⟩, hI4, fun o ho => by rw [hF4 o (by omega)]; exact hFr o ho⟩
  · obtain ⟨⟨hK, hx3⟩, hFr, hrp⟩ := hh
    refine aw_iload dX10_read_42 rfl ?_
    refine aw_iconst (v := 1) dX10_read_44 rfl ?_
    refine aw_iadd_n (a := 2 * n0) (b := 1) dX10_read_45 ?_
    refine aw_aload_n dX10_read_46 rfl ?_
    refine aw_getI dX10_read_47 f10_158 (zS_sh hp1) ⟨by omega, (show 73 + 2 * p1 < 105 by omega)⟩ rfl ?_
    refine aw_top ((hK.2.2.2.2.2.2.1 p1 hp1).2.2.2 hFp1).2.1 ?_
    refine aw_ic_ge_n (a := (2 * n0) + 1) (b := S p1) (tgt := 125) dX10_read_50 (by decide) (by omega) (by omega) (fun c50 => ?_) (fun c50 => ?_)
    · refine aw_aload_n dX10_read_125 rfl ?_
      refine aw_getR dX10_read_126 f10_58 rfl ⟨Nat.le_of_ble_eq_true rfl, Nat.le_of_ble_eq_true rfl⟩ rfl rfl ?_
      refine aw_aload_n dX10_read_129 rfl ?_
      refine aw_getR dX10_read_130 f10_43 rfl ⟨Nat.le_of_ble_eq_true rfl, Nat.le_of_ble_eq_true rfl⟩ rfl rfl ?_
      refine aw_V0c (As := [_]) dX10_read_133 k10_62 rfl rfl rfl ⟨Nat.le_of_ble_eq_true rfl, Nat.le_of_ble_eq_true rfl⟩ (Nat.le_of_ble_eq_true rfl) ⟨⟨Nat.le_of_ble_eq_true rfl, Nat.le_of_ble_eq_true rfl⟩, ⟨Nat.le_of_ble_eq_true rfl, Nat.le_of_ble_eq_true rfl⟩⟩ ⟨rfl, rfl⟩ (w_plI G hK hx3 hF.2.2.2.2.2.2) (fun v h2 hq => ?_)
      obtain ⟨rfl, I4, rfl, hI4, hF4⟩ := hq
      refine aw_aload_n dX10_read_136 rfl ?_
      refine aw_getR dX10_read_137 f10_31 rfl ⟨Nat.le_of_ble_eq_true rfl, Nat.le_of_ble_eq_true rfl⟩ rfl rfl ?_
      refine aw_getI dX10_read_140 f10_145 rfl ⟨Nat.le_of_ble_eq_true rfl, Nat.le_of_ble_eq_true rfl⟩ rfl ?_
      refine aw_top (hI4.2.2.1.2.2.2.1.1.trans (by rw [u_r_n])) ?_
      refine aw_iload_n dX10_read_143 rfl ?_
      refine aw_isub_n (a := u 2 0 + n0) (b := u 2 0) dX10_read_144 (by omega) ?_
      refine aw_reti dX10_read_145 rfl rfl ⟨Nat.le_of_ble_eq_true rfl, Nat.le_of_ble_eq_true rfl⟩ ?_
      have hrn : z_rn (E p1) (S p1) (u 2 0) = n0 := z_rn_at hrp (z_rp_f (Or.inl (by omega))) (by omega)
      rw [hrn]
      exact ⟨by rw [show u 2 0 + n0 - u 2 0 = n0 by omega], _, _, _, rfl, ⟨⟨hP.1, hP.2.1, hI4.2.2.1.2.2.2.2.1, hP.2.2.2⟩, h60, h61, htc, hV, hkk, hx, hy⟩, hI4, fun o ho => by rw [hF4 o (by omega)]; exact hFr o ho⟩
    · refine aw_aload_n dX10_read_53 rfl ?_
      refine aw_getR dX10_read_54 f10_31 rfl ⟨Nat.le_of_ble_eq_true rfl, Nat.le_of_ble_eq_true rfl⟩ rfl rfl ?_
      refine aw_getI dX10_read_57 f10_145 rfl ⟨Nat.le_of_ble_eq_true rfl, Nat.le_of_ble_eq_true rfl⟩ rfl ?_
      refine aw_top (hK.2.2.1.2.2.2.1.1.trans (by rw [u_r_n])) ?_
      refine aw_bipush (v := 8) dX10_read_60 (by decide) ?_
      refine aw_ic_ge_n (a := u 2 0 + n0) (b := 8) (tgt := 125) dX10_read_62 (by decide) (by omega) (by omega) (fun c62 => ?_) (fun c62 => ?_)
      · refine aw_aload_n dX10_read_125 rfl ?_
        refine aw_getR dX10_read_126 f10_58 rfl ⟨Nat.le_of_ble_eq_true rfl, Nat.le_of_ble_eq_true rfl⟩ rfl rfl ?_
        refine aw_aload_n dX10_read_129 rfl ?_
        refine aw_getR dX10_read_130 f10_43 rfl ⟨Nat.le_of_ble_eq_true rfl, Nat.le_of_ble_eq_true rfl⟩ rfl rfl ?_
        refine aw_V0c (As := [_]) dX10_read_133 k10_62 rfl rfl rfl ⟨Nat.le_of_ble_eq_true rfl, Nat.le_of_ble_eq_true rfl⟩ (Nat.le_of_ble_eq_true rfl) ⟨⟨Nat.le_of_ble_eq_true rfl, Nat.le_of_ble_eq_true rfl⟩, ⟨Nat.le_of_ble_eq_true rfl, Nat.le_of_ble_eq_true rfl⟩⟩ ⟨rfl, rfl⟩ (w_plI G hK hx3 hF.2.2.2.2.2.2) (fun v h2 hq => ?_)
        obtain ⟨rfl, I4, rfl, hI4, hF4⟩ := hq
        refine aw_aload_n dX10_read_136 rfl ?_
        refine aw_getR dX10_read_137 f10_31 rfl ⟨Nat.le_of_ble_eq_true rfl, Nat.le_of_ble_eq_true rfl⟩ rfl rfl ?_
        refine aw_getI dX10_read_140 f10_145 rfl ⟨Nat.le_of_ble_eq_true rfl, Nat.le_of_ble_eq_true rfl⟩ rfl ?_
        refine aw_top (hI4.2.2.1.2.2.2.1.1.trans (by rw [u_r_n])) ?_
        refine aw_iload_n dX10_read_143 rfl ?_
        refine aw_isub_n (a := u 2 0 + n0) (b := u 2 0) dX10_read_144 (by omega) ?_
        refine aw_reti dX10_read_145 rfl rfl ⟨Nat.le_of_ble_eq_true rfl, Nat.le_of_ble_eq_true rfl⟩ ?_
        have hrn : z_rn (E p1) (S p1) (u 2 0) = n0 := z_rn_at hrp (z_rp_f (Or.inr (Or.inl (by omega)))) (by omega)
        rw [hrn]
        exact ⟨by rw [show u 2 0 + n0 - u 2 0 = n0 by omega], _, _, _, rfl, ⟨⟨hP.1, hP.2.1, hI4.2.2.1.2.2.2.2.1, hP.2.2.2⟩, h60, h61, htc, hV, hkk, hx, hy⟩, hI4, fun o ho => by rw [hF4 o (by omega)]; exact hFr o ho⟩
      · refine aw_aload_n dX10_read_65 rfl ?_
        refine aw_getR dX10_read_66 f10_159 (zS_sh hp1) ⟨by omega, (show 73 + 2 * p1 < 105 by omega)⟩ rfl (zR_it hp1) ?_
        refine aw_iload dX10_read_69 rfl ?_
        refine aw_iald_n (j := 2 * n0) dX10_read_71 (zS_it hp1) (by omega) (by decide) (by omega) ?_
        refine aw_top (((hK.2.2.2.2.2.2.1 p1 hp1).2.2.2 hFp1).2.2 (2 * n0) (by omega)) ?_
        refine aw_istore (ls2 := [_, _, _, _, _, _, _]) dX10_read_72 (by decide) rfl rfl ?_
        refine aw_aload_n dX10_read_74 rfl ?_
        refine aw_getR dX10_read_75 f10_159 (zS_sh hp1) ⟨by omega, (show 73 + 2 * p1 < 105 by omega)⟩ rfl (zR_it hp1) ?_
        refine aw_iload dX10_read_78 rfl ?_
        refine aw_iconst (v := 1) dX10_read_80 rfl ?_
        refine aw_iadd_n (a := 2 * n0) (b := 1) dX10_read_81 ?_
        refine aw_iald_n (j := (2 * n0) + 1) dX10_read_82 (zS_it hp1) (by omega) (by decide) (by omega) ?_
        refine aw_top (((hK.2.2.2.2.2.2.1 p1 hp1).2.2.2 hFp1).2.2 ((2 * n0) + 1) (by omega)) ?_
        refine aw_istore (ls2 := [_, _, _, _, _, _, _]) dX10_read_83 (by decide) rfl rfl ?_
        refine aw_iload dX10_read_85 rfl ?_
        refine aw_bipush (v := 40) dX10_read_87 (by decide) ?_
        refine aw_S0c (As := [_, _]) dX10_read_89 k10_100 rfl rfl (Nat.le_of_ble_eq_true rfl) ⟨⟨Nat.le_of_ble_eq_true rfl, Nat.le_of_ble_eq_true rfl⟩, ⟨Nat.le_of_ble_eq_true rfl, Nat.le_of_ble_eq_true rfl⟩⟩ ⟨rfl, rfl⟩ (w_within G (((E p1 (2 * n0)))) (b := 40) (by omega)) (fun v h2 hq => ?_)
        obtain ⟨rfl, rfl⟩ := hq
        refine aw_if_eq_B (tgt := 125) dX10_read_92 (by decide) (fun c92 => ?_) (fun c92 => ?_)
        · refine aw_aload_n dX10_read_125 rfl ?_
          refine aw_getR dX10_read_126 f10_58 rfl ⟨Nat.le_of_ble_eq_true rfl, Nat.le_of_ble_eq_true rfl⟩ rfl rfl ?_
          refine aw_aload_n dX10_read_129 rfl ?_
          refine aw_getR dX10_read_130 f10_43 rfl ⟨Nat.le_of_ble_eq_true rfl, Nat.le_of_ble_eq_true rfl⟩ rfl rfl ?_
          refine aw_V0c (As := [_]) dX10_read_133 k10_62 rfl rfl rfl ⟨Nat.le_of_ble_eq_true rfl, Nat.le_of_ble_eq_true rfl⟩ (Nat.le_of_ble_eq_true rfl) ⟨⟨Nat.le_of_ble_eq_true rfl, Nat.le_of_ble_eq_true rfl⟩, ⟨Nat.le_of_ble_eq_true rfl, Nat.le_of_ble_eq_true rfl⟩⟩ ⟨rfl, rfl⟩ (w_plI G hK hx3 hF.2.2.2.2.2.2) (fun v h2 hq => ?_)
          obtain ⟨rfl, I4, rfl, hI4, hF4⟩ := hq
          refine aw_aload_n dX10_read_136 rfl ?_
          refine aw_getR dX10_read_137 f10_31 rfl ⟨Nat.le_of_ble_eq_true rfl, Nat.le_of_ble_eq_true rfl⟩ rfl rfl ?_
          refine aw_getI dX10_read_140 f10_145 rfl ⟨Nat.le_of_ble_eq_true rfl, Nat.le_of_ble_eq_true rfl⟩ rfl ?_
          refine aw_top (hI4.2.2.1.2.2.2.1.1.trans (by rw [u_r_n])) ?_
          refine aw_iload_n dX10_read_143 rfl ?_
          refine aw_isub_n (a := u 2 0 + n0) (b := u 2 0) dX10_read_144 (by omega) ?_
          refine aw_reti dX10_read_145 rfl rfl ⟨Nat.le_of_ble_eq_true rfl, Nat.le_of_ble_eq_true rfl⟩ ?_
          have hrn : z_rn (E p1) (S p1) (u 2 0) = n0 := z_rn_at hrp (z_rp_f (Or.inr (Or.inr (Or.inl c92)))) (by omega)
          rw [hrn]
          exact ⟨by rw [show u 2 0 + n0 - u 2 0 = n0 by omega], _, _, _, rfl, ⟨⟨hP.1, hP.2.1, hI4.2.2.1.2.2.2.2.1, hP.2.2.2⟩, h60, h61, htc, hV, hkk, hx, hy⟩, hI4, fun o ho => by rw [hF4 o (by omega)]; exact hFr o ho⟩
        · refine aw_iload dX10_read_95 rfl ?_
          refine aw_bipush (v := 8) dX10_read_97 (by decide) ?_
          refine aw_S0c (As := [_, _]) dX10_read_99 k10_100 rfl rfl (Nat.le_of_ble_eq_true rfl) ⟨⟨Nat.le_of_ble_eq_true rfl, Nat.le_of_ble_eq_true rfl⟩, ⟨Nat.le_of_ble_eq_true rfl, Nat.le_of_ble_eq_true rfl⟩⟩ ⟨rfl, rfl⟩ (w_within G (((E p1 ((2 * n0) + 1)))) (b := 8) (by omega)) (fun v h2 hq => ?_)
          obtain ⟨rfl, rfl⟩ := hq
          refine aw_if_ne_B (tgt := 108) dX10_read_102 (by decide) (fun c102 => ?_) (fun c102 => ?_)
          · obtain ⟨h0, hh0, eh⟩ := zok_ex c92
            obtain ⟨q0, hq0, eq0⟩ := zok_ex c102
            rw [eh, eq0]
            refine aw_aload_n dX10_read_108 rfl ?_
            refine aw_getR dX10_read_109 f10_31 rfl ⟨Nat.le_of_ble_eq_true rfl, Nat.le_of_ble_eq_true rfl⟩ rfl rfl ?_
            refine aw_iload dX10_read_112 rfl ?_
            refine aw_iload dX10_read_114 rfl ?_
            refine aw_V0c (As := [_, _]) dX10_read_116 k10_147 rfl rfl rfl ⟨Nat.le_of_ble_eq_true rfl, Nat.le_of_ble_eq_true rfl⟩ (Nat.le_of_ble_eq_true rfl) ⟨⟨Nat.le_of_ble_eq_true rfl, Nat.le_of_ble_eq_true rfl⟩, ⟨Nat.le_of_ble_eq_true rfl, Nat.le_of_ble_eq_true rfl⟩⟩ ⟨rfl, rfl⟩ (w_aPush G (h := h0) (p := q0) hK.2.2.1.2.2.2.1 (by rw [u_r_n]; omega)) (fun v h2 hq => ?_)
            obtain ⟨rfl, I4, rfl, hA4, hF4⟩ := hq
            refine aw_iinc_m (d := 2) (ls2 := [_, _, _, _, _, _, _]) dX10_read_119 rfl rfl (by decide) rfl rfl ?_
            refine aw_goto (tgt := 42) dX10_read_122 (by decide) ?_
            refine aw_kill (j := 5) (ls2 := [_, _, _, _, _, aw_x, _]) rfl (aw_kill (j := 6) (ls2 := [_, _, _, _, _, _, aw_x]) rfl ?_)
            have eu : u_r (E p1) u (n0 + 1) = u_push (u_r (E p1) u n0) h0 q0 := by rw [u_r, eh, eq0, zt_nI (by omega), zt_nI (by omega)]
            rw [eu] at ih
            refine ih _ ⟨⟨hK.an hA4 (u_push_ok hK.2.2.1.2.2.2.2 (by rw [u_r_n]; omega) hh0 hq0) hF4, fun j hj => by rw [hF4 13 (by decide) (by decide) (by decide), hF4 14 (by decide) (by decide) (by decide), hF4 15 (by decide) (by decide) (by decide)]; exact hx3 j hj⟩, fun o ho => by rw [hF4 o (by omega) (by omega) (by omega)]; exact hFr o ho, fun w hw => ?_⟩
            by_cases hwn : w = n0
            · subst hwn; exact z_rp_t (by omega) (by omega) c92 c102
            · exact hrp w (by omega)
          · refine aw_goto (tgt := 125) dX10_read_105 (by decide) ?_
            refine aw_aload_n dX10_read_125 rfl ?_
            refine aw_getR dX10_read_126 f10_58 rfl ⟨Nat.le_of_ble_eq_true rfl, Nat.le_of_ble_eq_true rfl⟩ rfl rfl ?_
            refine aw_aload_n dX10_read_129 rfl ?_
            refine aw_getR dX10_read_130 f10_43 rfl ⟨Nat.le_of_ble_eq_true rfl, Nat.le_of_ble_eq_true rfl⟩ rfl rfl ?_
            refine aw_V0c (As := [_]) dX10_read_133 k10_62 rfl rfl rfl ⟨Nat.le_of_ble_eq_true rfl, Nat.le_of_ble_eq_true rfl⟩ (Nat.le_of_ble_eq_true rfl) ⟨⟨Nat.le_of_ble_eq_true rfl, Nat.le_of_ble_eq_true rfl⟩, ⟨Nat.le_of_ble_eq_true rfl, Nat.le_of_ble_eq_true rfl⟩⟩ ⟨rfl, rfl⟩ (w_plI G hK hx3 hF.2.2.2.2.2.2) (fun v h2 hq => ?_)
            obtain ⟨rfl, I4, rfl, hI4, hF4⟩ := hq
            refine aw_aload_n dX10_read_136 rfl ?_
            refine aw_getR dX10_read_137 f10_31 rfl ⟨Nat.le_of_ble_eq_true rfl, Nat.le_of_ble_eq_true rfl⟩ rfl rfl ?_
            refine aw_getI dX10_read_140 f10_145 rfl ⟨Nat.le_of_ble_eq_true rfl, Nat.le_of_ble_eq_true rfl⟩ rfl ?_
            refine aw_top (hI4.2.2.1.2.2.2.1.1.trans (by rw [u_r_n])) ?_
            refine aw_iload_n dX10_read_143 rfl ?_
            refine aw_isub_n (a := u 2 0 + n0) (b := u 2 0) dX10_read_144 (by omega) ?_
            refine aw_reti dX10_read_145 rfl rfl ⟨Nat.le_of_ble_eq_true rfl, Nat.le_of_ble_eq_true rfl⟩ ?_
            have hrn : z_rn (E p1) (S p1) (u 2 0) = n0 := z_rn_at hrp (z_rp_f (Or.inr (Or.inr (Or.inr c102)))) (by omega)
            rw [hrn]
            exact ⟨by rw [show u 2 0 + n0 - u 2 0 = n0 by omega], _, _, _, rfl, ⟨⟨hP.1, hP.2.1, hI4.2.2.1.2.2.2.2.1, hP.2.2.2⟩, h60, h61, htc, hV, hkk, hx, hy⟩, hI4, fun o ho => by rw [hF4 o (by omega)]; exact hFr o ho⟩
