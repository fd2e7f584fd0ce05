/-! DIGEST of the class -/
def zx (h v : Int64) : Int64 := 31 * h + v
def zf (f : Nat → Int64) (h : Int64) : Nat → Int64
  | 0 => h
  | i + 1 => zx (zf f h i) (f i)
def zg (s : Nat → Int64 → Int64) (h : Int64) : Nat → Int64
  | 0 => h
  | i + 1 => s i (zg s h i)
theorem zf_add {f : Nat → Int64} {h : Int64} {a b : Nat} : zf f h (a + b) = zf (fun i => f (a + i)) (zf f h a) b := by
  induction b with
  | zero => rfl
  | succ b ih => rw [← Nat.add_assoc, zf, ih, zf]
theorem zg_zf {f : Nat → Int64} {h : Int64} {n : Nat} : zg (fun w h => zf (fun j => f (4 * w + j)) h 4) h n = zf f h (4 * n) := by
  induction n with
  | zero => rfl
  | succ n ih => rw [zg, ih, show 4 * (n + 1) = 4 * n + 4 by omega, zf_add]
section ZDG
variable (x u t y V g : Nat → Nat → Nat) (kk l0 l1 : Nat) (b0 b1 : Nat → Nat) (fd : Int32)
def dH (k hr : Nat) (h : Int64) : Int64 := zf (fun j => (mE 6 j (zOb (p_play z0 t u x) t k hr j)).toInt64) h 4
def dHr (k : Nat) (h : Int64) : Int64 := zx (dH x u t k 39 (dH x u t k 15 (dH x u t k 5 (dH x u t k 0 (zf (fun j => (nI (t j k)).toInt64) h 5))))) (nI (o_en x u t k) - 1).toInt64
def dTr (k : Nat) (h : Int64) : Int64 := zx (zx (zx (zf (fun j => (r_force (fun v => z_fit x u g (aw_u t 3 k v)) j).toInt64) (zx (zx (zx (zx h (nI (zfst (fun w => o_st x u (aw_u t 3 k w) k == 2) 100) - 1).toInt64) (r_pl (z_best (fun v => o_cm x u (aw_u t 5 k v)) 10) 0).toInt64) (r_pl (z_best (fun v => o_cm x u (aw_u t 5 k v)) 10) 1).toInt64) (nI (z_who (fun v => z_fit x u g (aw_u t 2 k v)) 3)).toInt64) 3) (nI (z_mp (z_al (fun v => z_fit x u g (aw_u t 2 k v)) (fun v => o_pl x u (aw_u t 2 k v) k) (fun v => o_en x u (aw_u t 2 k v) k)) 40).1).toInt64) (lN ((if 0 = 0 then (z_sum (z_wf x u t 5 k) (2 ^ u 2 0)) else 16 ^ u 2 0) / Nat.gcd (z_sum (z_wf x u t 5 k) (2 ^ u 2 0)) (16 ^ u 2 0)))) (lN ((if 1 = 0 then (z_sum (z_wf x u t 5 k) (2 ^ u 2 0)) else 16 ^ u 2 0) / Nat.gcd (z_sum (z_wf x u t 5 k) (2 ^ u 2 0)) (16 ^ u 2 0)))
def dFl (h : Int64) : Int64 := zx (zx h (nI (q_f (q_w b0) 5 l0) - 1).toInt64) (nI (q_f (q_c b1) 7 l1) - 1).toInt64
def dFa (p : Nat) (h : Int64) : Int64 := zx (zx h (nI (z_far y 0 p) - 1).toInt64) (nI (z_far y p 3) - 1).toInt64
def dTe (h : Int64) : Int64 := zg (dFa y) (zf (fun i => (nI (V (i / 4) (i % 4))).toInt64) (dFl l0 l1 b0 b1 (zf (fun k => (r_cnt [nI kk, nI (t 6 0), nI l0, nI l1, nI (u 2 0), nI (o_cm x u t), nI (z_sum (p_play z0 t u x 4) 8), nI (g 3 0), fd] k).toInt64) h 8)) (4 * kk)) 8
def dAl (h : Int64) : Int64 := zx (zx (zx (zx (zx (zf (fun j => (r_lend (z_ld (fun a b => o_cm x u (t_swap t a b)) (t 6 0) 64) j).toInt64) (zx (zx (zx (zf (fun i => (nI (o_who x u t (i + 2))).toInt64) h 4) (nI (p_play z0 t u x 0 10) - 1).toInt64) (nI (p_play z0 t u x 0 11) - 1).toInt64) (nI (z_most (p_play z0 t u x 4) 8).1 - 1).toInt64) 3) (r_pl (z_best (fun w => o_cm (f_x (f_lv V (w + 1)) kk) u t) kk) 0).toInt64) (r_pl (z_best (fun w => o_cm (f_x (f_lv V (w + 1)) kk) u t) kk) 1).toInt64) (nI (z_who (fun a => z_fit x u g (aw_u t 6 1 (2 ^ a))) (u 2 0))).toInt64) (nI (z_ones (o_who x u (t_dr t 7 (t 6 0)) (if 0 = 0 then 2 else 4)))).toInt64) (nI (z_ones (o_who x u (t_dr t 7 (t 6 0)) (if 1 = 0 then 2 else 4)))).toInt64
def dDi : Int64 := dAl x u t V g kk (zg (fun k h => dTr x u t g k (dHr x u t k h)) (dTe x u t y V g kk l0 l1 b0 b1 fd 17) (t 6 0))
end ZDG
theorem w_mix (G : aw_G) {hp : aw_H} {h v0 : Int64} : aw_Met G mX10_mix [.long h, .long v0] hp (fun v h2 => v = some (.long (zx h v0)) ∧ h2 = hp) := by
  refine aw_Met.of okX10_mix (Nat.le_of_ble_eq_true rfl) ?_
  show aw_W G mX10_mix 0 [.long h, aw_x, .long v0, aw_x] [] hp (0, 0) _
  refine aw_ldc2 dX10_mix_0 co10_312 ?_
  refine aw_lload_n dX10_mix_3 rfl ?_
  refine aw_lmul dX10_mix_4 ?_
  refine aw_lload_n dX10_mix_5 rfl ?_
  refine aw_ladd dX10_mix_6 ?_
  refine aw_retl dX10_mix_7 rfl ⟨Nat.le_of_ble_eq_true rfl, Nat.le_of_ble_eq_true rfl⟩ ?_
  exact ⟨rfl, rfl⟩
theorem c_dHour (G : aw_G) {n c : Nat} {I : Nat → Nat → Int32} {L : Nat → Nat → Int64} {b0 b1 : Nat → Nat} {l0 l1 : Nat} {t u x y V g : Nat → Nat → Nat} {kk : Nat} {F S : Nat → Nat} {E : Nat → Nat → Int32} {fd : Int32} (hX : zTx b0 b1 l0 l1 t u x y V kk) (hI : zCI b0 b1 l0 l1 t u x y g F S E fd I) {h : Int64} {k hr : Nat} (hk : k < t 6 0) (hhr : hr < 40) : aw_Met G mX10_digestOfHour [.ref 3, .long h, .int (nI hr), .int (nI k)] (zH n I L c) (fun v h2 => v = some (.long (dH x u t k hr h)) ∧ h2 = zH n I L c) := by
  obtain ⟨hW, hC, hF, ⟨s0, hO, hR⟩, ⟨t2, s2, hD⟩, hG, hS, hfd⟩ := id hI
  obtain ⟨hP, h60, h61, htc, hV, hkk, hx, hy⟩ := id hX
  have h8 := hP.1.1
  have hk10 : kk ≤ 10 := by rw [hkk]; exact q_k_leW hW.1.2.2.2.2
  have hi6 : I 6 5 = nI (t 6 0) := by rw [h60]; exact hC.2.2
  have hi4 : I 4 5 = nI kk := by rw [hkk]; exact hW.2.2
  have hVo : f_Vok V kk := by rw [hV, hkk]; exact v_w_ok
  have hsm := zSame hP hO.1
  have hbd := zBd (m := z0) (u := u) hP.1 hP.2.2.2.1 hP.2.2.2.2.1 hP.2.2.2.2.2 hO.1
  have hS0 : p_play s0 t u x 0 0 = t 6 0 := hbd.1.1
  refine aw_Met.of okX10_digestOfHour (Nat.le_of_ble_eq_true rfl) ?_
  show aw_W G mX10_digestOfHour 0 [.ref 3, .long h, aw_x, .int (nI hr), .int (nI k), aw_x, aw_x, aw_x] [] (zH n I L c) (0, 0) _
  refine aw_lload_n dX10_digestOfHour_0 rfl ?_
  refine aw_lstore (ls2 := [_, _, _, _, _, _, _, _]) dX10_digestOfHour_1 (by decide) rfl rfl ?_
  refine aw_iconst (v := 0) dX10_digestOfHour_3 rfl ?_
  refine aw_istore (ls2 := [_, _, _, _, _, _, _, _]) dX10_digestOfHour_4 (by decide) rfl rfl ?_
  refine aw_up (X := fun j => aw_W G mX10_digestOfHour 6 [.ref 3, .long h, aw_x, .int (nI hr), .int (nI k), .long ((zf (fun j => (mE 6 j (zOb (p_play z0 t u x) t k hr j)).toInt64) h j)), aw_x, .int (nI j)] [] (zH n I L c) (0, 0) _) (Nat.zero_le 4) ?_ (fun j _ hj ih => ?_)
  · refine aw_iload dX10_digestOfHour_6 rfl ?_
    refine aw_iconst (v := 4) dX10_digestOfHour_8 rfl ?_
    refine aw_ic_ge_n (a := 4) (b := 4) (tgt := 35) dX10_digestOfHour_9 (by decide) (by omega) (by omega) (fun c9 => ?_) (fun z => absurd z (by omega))
    refine aw_lload dX10_digestOfHour_35 rfl ?_
    refine aw_retl dX10_digestOfHour_37 rfl ⟨Nat.le_of_ble_eq_true rfl, Nat.le_of_ble_eq_true rfl⟩ ?_
    exact ⟨rfl, rfl⟩
  · refine aw_iload dX10_digestOfHour_6 rfl ?_
    refine aw_iconst (v := 4) dX10_digestOfHour_8 rfl ?_
    refine aw_ic_ge_n (a := j) (b := 4) (tgt := 35) dX10_digestOfHour_9 (by decide) (by omega) (by omega) (fun z => absurd z (by omega)) (fun c9 => ?_)
    refine aw_lload dX10_digestOfHour_12 rfl ?_
    refine aw_aload_n dX10_digestOfHour_14 rfl ?_
    refine aw_iload_n dX10_digestOfHour_15 rfl ?_
    refine aw_iload dX10_digestOfHour_16 rfl ?_
    refine aw_iload dX10_digestOfHour_18 rfl ?_
    refine aw_V0c (As := [_, _, _]) dX10_digestOfHour_20 k10_161 rfl rfl rfl ⟨Nat.le_of_ble_eq_true rfl, Nat.le_of_ble_eq_true rfl⟩ (Nat.le_of_ble_eq_true rfl) ⟨⟨Nat.le_of_ble_eq_true rfl, Nat.le_of_ble_eq_true rfl⟩, ⟨Nat.le_of_ble_eq_true rfl, Nat.le_of_ble_eq_true rfl⟩⟩ ⟨rfl, rfl⟩ (w_behind G hR hF.1 (k := k) (h := hr) (j := j) (by omega) (by omega) (hbd.1.2.2.2.1 k (by omega)).2.2.2 (fun i hi => by have := (hbd.2 k hk).2 i hi; omega) (fun i _ => by have := (p_play_ok (m := z0) (u := u) hP.1 hP.2.2.2.1 hP.2.2.2.2.1 hP.2.2.2.2.2 hO).2 i; omega) hj) (fun v h2 hq => ?_)
    obtain ⟨rfl, rfl⟩ := hq
    rw [(hsm.1 k hk).2.2 hr j hhr hj]
    refine aw_i2l dX10_digestOfHour_23 ?_
    refine aw_S0c (As := [_, _]) dX10_digestOfHour_24 k10_304 rfl rfl (Nat.le_of_ble_eq_true rfl) ⟨⟨Nat.le_of_ble_eq_true rfl, Nat.le_of_ble_eq_true rfl⟩, ⟨Nat.le_of_ble_eq_true rfl, Nat.le_of_ble_eq_true rfl⟩⟩ ⟨rfl, rfl⟩ (w_mix G) (fun v h2 hq => ?_)
    obtain ⟨rfl, rfl⟩ := hq
    refine aw_lstore (ls2 := [_, _, _, _, _, _, _, _]) dX10_digestOfHour_27 (by decide) rfl rfl ?_
    refine aw_iinc_n (ls2 := [_, _, _, _, _, _, _, _]) dX10_digestOfHour_29 rfl (by decide) rfl rfl ?_
    refine aw_goto (tgt := 6) dX10_digestOfHour_32 (by decide) ?_
    exact ih
theorem c_dHours (G : aw_G) {n c : Nat} {I : Nat → Nat → Int32} {L : Nat → Nat → Int64} {b0 b1 : Nat → Nat} {l0 l1 : Nat} {t u x y V g : Nat → Nat → Nat} {kk : Nat} {F S : Nat → Nat} {E : Nat → Nat → Int32} {fd : Int32} (hX : zTx b0 b1 l0 l1 t u x y V kk) (hI : zCI b0 b1 l0 l1 t u x y g F S E fd I) {h : Int64} {k : Nat} (hk : k < t 6 0) : aw_Met G mX10_digestOfHours [.ref 3, .long h, .int (nI k)] (zH n I L c) (fun v h2 => v = some (.long (dHr x u t k h)) ∧ h2 = zH n I L c) := by
  obtain ⟨hW, hC, hF, ⟨s0, hO, hR⟩, ⟨t2, s2, hD⟩, hG, hS, hfd⟩ := id hI
  obtain ⟨hP, h60, h61, htc, hV, hkk, hx, hy⟩ := id hX
  have h8 := hP.1.1
  have hk10 : kk ≤ 10 := by rw [hkk]; exact q_k_leW hW.1.2.2.2.2
  have hi6 : I 6 5 = nI (t 6 0) := by rw [h60]; exact hC.2.2
  have hi4 : I 4 5 = nI kk := by rw [hkk]; exact hW.2.2
  have hVo : f_Vok V kk := by rw [hV, hkk]; exact v_w_ok
  have hsm := zSame hP hO.1
  have hbd := zBd (m := z0) (u := u) hP.1 hP.2.2.2.1 hP.2.2.2.2.1 hP.2.2.2.2.2 hO.1
  have hS0 : p_play s0 t u x 0 0 = t 6 0 := hbd.1.1
  refine aw_Met.of okX10_digestOfHours (Nat.le_of_ble_eq_true rfl) ?_
  show aw_W G mX10_digestOfHours 0 [.ref 3, .long h, aw_x, .int (nI k), aw_x, aw_x, aw_x] [] (zH n I L c) (0, 0) _
  refine aw_lload_n dX10_digestOfHours_0 rfl ?_
  refine aw_lstore (ls2 := [_, _, _, _, _, _, _]) dX10_digestOfHours_1 (by decide) rfl rfl ?_
  refine aw_iconst (v := 0) dX10_digestOfHours_3 rfl ?_
  refine aw_istore (ls2 := [_, _, _, _, _, _, _]) dX10_digestOfHours_4 (by decide) rfl rfl ?_
  refine aw_up (X := fun j => aw_W G mX10_digestOfHours 6 [.ref 3, .long h, aw_x, .int (nI k), .long ((zf (fun j => (nI (t j k)).toInt64) h j)), aw_x, .int (nI j)] [] (zH n I L c) (0, 0) _) (Nat.zero_le 5) ?_ (fun j _ hj ih => ?_)
  · refine aw_iload dX10_digestOfHours_6 rfl ?_
    refine aw_iconst (v := 5) dX10_digestOfHours_8 rfl ?_
    refine aw_ic_ge_n (a := 5) (b := 5) (tgt := 36) dX10_digestOfHours_9 (by decide) (by omega) (by omega) (fun c9 => ?_) (fun z => absurd z (by omega))
    refine aw_aload_n dX10_digestOfHours_36 rfl ?_
    refine aw_lload dX10_digestOfHours_37 rfl ?_
    refine aw_iconst (v := 0) dX10_digestOfHours_39 rfl ?_
    refine aw_iload_n dX10_digestOfHours_40 rfl ?_
    refine aw_V0c (As := [_, _, _]) dX10_digestOfHours_41 k10_308 rfl rfl rfl ⟨Nat.le_of_ble_eq_true rfl, Nat.le_of_ble_eq_true rfl⟩ (Nat.le_of_ble_eq_true rfl) ⟨⟨Nat.le_of_ble_eq_true rfl, Nat.le_of_ble_eq_true rfl⟩, ⟨Nat.le_of_ble_eq_true rfl, Nat.le_of_ble_eq_true rfl⟩⟩ ⟨rfl, rfl⟩ (c_dHour G hX hI (k := k) (hr := 0) hk (by decide)) (fun v h2 hq => ?_)
    obtain ⟨rfl, rfl⟩ := hq
    refine aw_lstore (ls2 := [_, _, _, _, _, _, _]) dX10_digestOfHours_44 (by decide) rfl rfl ?_
    refine aw_aload_n dX10_digestOfHours_46 rfl ?_
    refine aw_lload dX10_digestOfHours_47 rfl ?_
    refine aw_iconst (v := 5) dX10_digestOfHours_49 rfl ?_
    refine aw_iload_n dX10_digestOfHours_50 rfl ?_
    refine aw_V0c (As := [_, _, _]) dX10_digestOfHours_51 k10_308 rfl rfl rfl ⟨Nat.le_of_ble_eq_true rfl, Nat.le_of_ble_eq_true rfl⟩ (Nat.le_of_ble_eq_true rfl) ⟨⟨Nat.le_of_ble_eq_true rfl, Nat.le_of_ble_eq_true rfl⟩, ⟨Nat.le_of_ble_eq_true rfl, Nat.le_of_ble_eq_true rfl⟩⟩ ⟨rfl, rfl⟩ (c_dHour G hX hI (k := k) (hr := 5) hk (by decide)) (fun v h2 hq => ?_)
    obtain ⟨rfl, rfl⟩ := hq
    refine aw_lstore (ls2 := [_, _, _, _, _, _, _]) dX10_digestOfHours_54 (by decide) rfl rfl ?_
    refine aw_aload_n dX10_digestOfHours_56 rfl ?_
    refine aw_lload dX10_digestOfHours_57 rfl ?_
    refine aw_bipush (v := 15) dX10_digestOfHours_59 (by decide) ?_
    refine aw_iload_n dX10_digestOfHours_61 rfl ?_
    refine aw_V0c (As := [_, _, _]) dX10_digestOfHours_62 k10_308 rfl rfl rfl ⟨Nat.le_of_ble_eq_true rfl, Nat.le_of_ble_eq_true rfl⟩ (Nat.le_of_ble_eq_true rfl) ⟨⟨Nat.le_of_ble_eq_true rfl, Nat.le_of_ble_eq_true rfl⟩, ⟨Nat.le_of_ble_eq_true rfl, Nat.le_of_ble_eq_true rfl⟩⟩ ⟨rfl, rfl⟩ (c_dHour G hX hI (k := k) (hr := 15) hk (by decide)) (fun v h2 hq => ?_)
    obtain ⟨rfl, rfl⟩ := hq
    refine aw_lstore (ls2 := [_, _, _, _, _, _, _]) dX10_digestOfHours_65 (by decide) rfl rfl ?_
    refine aw_aload_n dX10_digestOfHours_67 rfl ?_
    refine aw_lload dX10_digestOfHours_68 rfl ?_
    refine aw_bipush (v := 39) dX10_digestOfHours_70 (by decide) ?_
    refine aw_iload_n dX10_digestOfHours_72 rfl ?_
    refine aw_V0c (As := [_, _, _]) dX10_digestOfHours_73 k10_308 rfl rfl rfl ⟨Nat.le_of_ble_eq_true rfl, Nat.le_of_ble_eq_true rfl⟩ (Nat.le_of_ble_eq_true rfl) ⟨⟨Nat.le_of_ble_eq_true rfl, Nat.le_of_ble_eq_true rfl⟩, ⟨Nat.le_of_ble_eq_true rfl, Nat.le_of_ble_eq_true rfl⟩⟩ ⟨rfl, rfl⟩ (c_dHour G hX hI (k := k) (hr := 39) hk (by decide)) (fun v h2 hq => ?_)
    obtain ⟨rfl, rfl⟩ := hq
    refine aw_lstore (ls2 := [_, _, _, _, _, _, _]) dX10_digestOfHours_76 (by decide) rfl rfl ?_
    refine aw_lload dX10_digestOfHours_78 rfl ?_
    refine aw_aload_n dX10_digestOfHours_80 rfl ?_
    refine aw_getR dX10_digestOfHours_81 f10_58 rfl ⟨Nat.le_of_ble_eq_true rfl, Nat.le_of_ble_eq_true rfl⟩ rfl rfl ?_
    refine aw_getR dX10_digestOfHours_84 f10_165 rfl ⟨Nat.le_of_ble_eq_true rfl, Nat.le_of_ble_eq_true rfl⟩ rfl rfl ?_
    refine aw_iload_n dX10_digestOfHours_87 rfl ?_
    refine aw_iald_n (j := k) dX10_digestOfHours_88 rfl (Nat.le_of_ble_eq_true rfl) (by decide) (by omega) ?_
    refine aw_top (show _ = nI (o_en x u t k) - 1 from (hR.at 7 k (by decide) (by decide) (by decide) (by omega)).trans (by rw [(hsm.1 k hk).2.1]; rfl)) ?_
    refine aw_i2l dX10_digestOfHours_89 ?_
    refine aw_S0c (As := [_, _]) dX10_digestOfHours_90 k10_304 rfl rfl (Nat.le_of_ble_eq_true rfl) ⟨⟨Nat.le_of_ble_eq_true rfl, Nat.le_of_ble_eq_true rfl⟩, ⟨Nat.le_of_ble_eq_true rfl, Nat.le_of_ble_eq_true rfl⟩⟩ ⟨rfl, rfl⟩ (w_mix G) (fun v h2 hq => ?_)
    obtain ⟨rfl, rfl⟩ := hq
    refine aw_retl dX10_digestOfHours_93 rfl ⟨Nat.le_of_ble_eq_true rfl, Nat.le_of_ble_eq_true rfl⟩ ?_
    exact ⟨rfl, rfl⟩
  · refine aw_iload dX10_digestOfHours_6 rfl ?_
    refine aw_iconst (v := 5) dX10_digestOfHours_8 rfl ?_
    refine aw_ic_ge_n (a := j) (b := 5) (tgt := 36) dX10_digestOfHours_9 (by decide) (by omega) (by omega) (fun z => absurd z (by omega)) (fun c9 => ?_)
    refine aw_lload dX10_digestOfHours_12 rfl ?_
    refine aw_aload_n dX10_digestOfHours_14 rfl ?_
    refine aw_getR dX10_digestOfHours_15 f10_43 rfl ⟨Nat.le_of_ble_eq_true rfl, Nat.le_of_ble_eq_true rfl⟩ rfl rfl ?_
    refine aw_iload_n dX10_digestOfHours_18 rfl ?_
    refine aw_iload dX10_digestOfHours_19 rfl ?_
    refine aw_V0c (As := [_, _]) dX10_digestOfHours_21 k10_139 rfl rfl rfl ⟨Nat.le_of_ble_eq_true rfl, Nat.le_of_ble_eq_true rfl⟩ (Nat.le_of_ble_eq_true rfl) ⟨⟨Nat.le_of_ble_eq_true rfl, Nat.le_of_ble_eq_true rfl⟩, ⟨Nat.le_of_ble_eq_true rfl, Nat.le_of_ble_eq_true rfl⟩⟩ ⟨rfl, rfl⟩ (w_part G hF.1 (k := k) (j := j) (by omega) hj) (fun v h2 hq => ?_)
    obtain ⟨rfl, rfl⟩ := hq
    refine aw_i2l dX10_digestOfHours_24 ?_
    refine aw_S0c (As := [_, _]) dX10_digestOfHours_25 k10_304 rfl rfl (Nat.le_of_ble_eq_true rfl) ⟨⟨Nat.le_of_ble_eq_true rfl, Nat.le_of_ble_eq_true rfl⟩, ⟨Nat.le_of_ble_eq_true rfl, Nat.le_of_ble_eq_true rfl⟩⟩ ⟨rfl, rfl⟩ (w_mix G) (fun v h2 hq => ?_)
    obtain ⟨rfl, rfl⟩ := hq
    refine aw_lstore (ls2 := [_, _, _, _, _, _, _]) dX10_digestOfHours_28 (by decide) rfl rfl ?_
    refine aw_iinc_n (ls2 := [_, _, _, _, _, _, _]) dX10_digestOfHours_30 rfl (by decide) rfl rfl ?_
    refine aw_goto (tgt := 6) dX10_digestOfHours_33 (by decide) ?_
    exact ih
theorem c_countS (G : aw_G) {n c : Nat} {I : Nat → Nat → Int32} {L : Nat → Nat → Int64} {b0 b1 : Nat → Nat} {l0 l1 : Nat} {t u x y V g : Nat → Nat → Nat} {kk : Nat} {F S : Nat → Nat} {E : Nat → Nat → Int32} {fd : Int32} (hX : zTx b0 b1 l0 l1 t u x y V kk) (hI : zCI b0 b1 l0 l1 t u x y g F S E fd I) {i : Nat} (hi : i < 8) : aw_Met G mX10_count [.ref 3, .int (nI i)] (zH n I L c) (fun v h2 => v = some (.int (r_cnt [nI kk, nI (t 6 0), nI l0, nI l1, nI (u 2 0), nI (o_cm x u t), nI (z_sum (p_play z0 t u x 4) 8), nI (g 3 0), fd] i)) ∧ ∃ I2 L2 c2, h2 = zH n I2 L2 c2 ∧ zCI b0 b1 l0 l1 t u x y g F S E fd I2 ∧ ∀ o, 81 ≤ o → I2 o = I o) := by
  have h := c_count G (n := n) (c := c) (L := L) hX hI (a1 := nI i)
  have hz : zok (nI i) 9 := (zok_nI (by omega)).mpr (by omega)
  rw [if_pos hz, zt_nI (by omega)] at h
  exact h
theorem c_dTexts (G : aw_G) {n c : Nat} {I : Nat → Nat → Int32} {L : Nat → Nat → Int64} {b0 b1 : Nat → Nat} {l0 l1 : Nat} {t u x y V g : Nat → Nat → Nat} {kk : Nat} {F S : Nat → Nat} {E : Nat → Nat → Int32} {fd : Int32} (hX : zTx b0 b1 l0 l1 t u x y V kk) (hI : zCI b0 b1 l0 l1 t u x y g F S E fd I) {h : Int64} : aw_Met G mX10_digestOfTexts [.ref 3, .long h] (zH n I L c) (fun v h2 => v = some (.long (dTe x u t y V g kk l0 l1 b0 b1 fd h)) ∧ ∃ I2 L2 c2, h2 = zH n I2 L2 c2 ∧ zCI b0 b1 l0 l1 t u x y g F S E fd I2 ∧ ∀ o, 81 ≤ o → I2 o = I o) := by
  obtain ⟨hW, hC, hF, ⟨s0, hO, hR⟩, ⟨t2, s2, hD⟩, hG, hS, hfd⟩ := id hI
  obtain ⟨hP, h60, h61, htc, hV, hkk, hx, hy⟩ := id hX
  have h8 := hP.1.1
  have hk10 : kk ≤ 10 := by rw [hkk]; exact q_k_leW hW.1.2.2.2.2
  have hi6 : I 6 5 = nI (t 6 0) := by rw [h60]; exact hC.2.2
  have hi4 : I 4 5 = nI kk := by rw [hkk]; exact hW.2.2
  have hVo : f_Vok V kk := by rw [hV, hkk]; exact v_w_ok
  have hsm := zSame hP hO.1
  have hbd := zBd (m := z0) (u := u) hP.1 hP.2.2.2.1 hP.2.2.2.2.1 hP.2.2.2.2.2 hO.1
  have hS0 : p_play s0 t u x 0 0 = t 6 0 := hbd.1.1
  refine aw_Met.of okX10_digestOfTexts (Nat.le_of_ble_eq_true rfl) ?_
  show aw_W G mX10_digestOfTexts 0 [.ref 3, .long h, aw_x, aw_x, aw_x, aw_x, aw_x] [] (zH n I L c) (0, 0) _
  refine aw_lload_n dX10_digestOfTexts_0 rfl ?_
  refine aw_lstore_n (ls2 := [_, _, _, _, _, _, _]) dX10_digestOfTexts_1 (by decide) rfl rfl ?_
  refine aw_iconst (v := 0) dX10_digestOfTexts_2 rfl ?_
  refine aw_istore (ls2 := [_, _, _, _, _, _, _]) dX10_digestOfTexts_3 (by decide) rfl rfl ?_
  refine aw_up (X := fun i => ∀ I3 L3 c3, (zCI b0 b1 l0 l1 t u x y g F S E fd I3 ∧ ∀ o, 81 ≤ o → I3 o = I o) → aw_W G mX10_digestOfTexts 5 [.ref 3, .long h, aw_x, .long ((zf (fun k => (r_cnt [nI kk, nI (t 6 0), nI l0, nI l1, nI (u 2 0), nI (o_cm x u t), nI (z_sum (p_play z0 t u x 4) 8), nI (g 3 0), fd] k).toInt64) h i)), aw_x, .int (nI i), aw_x] [] (zH n I3 L3 c3) (0, 0) _) (Nat.zero_le 8) (fun I3 L3 c3 hh => ?_) (fun i _ hi ih1 I3 L3 c3 hh => ?_) _ _ _ ⟨hI, fun _ _ => rfl⟩
  · obtain ⟨hI3, hFr⟩ := hh
    obtain ⟨hW3, hC3, hF3, -⟩ := id hI3
    have hi43 : I3 4 5 = nI kk := by rw [hkk]; exact hW3.2.2
    refine aw_iload dX10_digestOfTexts_5 rfl ?_
    refine aw_bipush (v := 8) dX10_digestOfTexts_7 (by decide) ?_
    refine aw_ic_ge_n (a := 8) (b := 8) (tgt := 30) dX10_digestOfTexts_9 (by decide) (by omega) (by omega) (fun c9 => ?_) (fun z => absurd z (by omega))
    refine aw_lload_n dX10_digestOfTexts_30 rfl ?_
    refine aw_aload_n dX10_digestOfTexts_31 rfl ?_
    refine aw_getR dX10_digestOfTexts_32 f10_18 rfl ⟨Nat.le_of_ble_eq_true rfl, Nat.le_of_ble_eq_true rfl⟩ rfl rfl ?_
    refine aw_getI dX10_digestOfTexts_35 f10_125 rfl ⟨Nat.le_of_ble_eq_true rfl, Nat.le_of_ble_eq_true rfl⟩ rfl ?_
    refine aw_top hW3.2.1 ?_
    refine aw_i2l dX10_digestOfTexts_38 ?_
    refine aw_S0c (As := [_, _]) dX10_digestOfTexts_39 k10_304 rfl rfl (Nat.le_of_ble_eq_true rfl) ⟨⟨Nat.le_of_ble_eq_true rfl, Nat.le_of_ble_eq_true rfl⟩, ⟨Nat.le_of_ble_eq_true rfl, Nat.le_of_ble_eq_true rfl⟩⟩ ⟨rfl, rfl⟩ (w_mix G) (fun v h2 hq => ?_)
    obtain ⟨rfl, rfl⟩ := hq
    refine aw_lstore_n (ls2 := [_, _, _, _, _, _, _]) dX10_digestOfTexts_42 (by decide) rfl rfl ?_
    refine aw_lload_n dX10_digestOfTexts_43 rfl ?_
    refine aw_aload_n dX10_digestOfTexts_44 rfl ?_
    refine aw_getR dX10_digestOfTexts_45 f10_25 rfl ⟨Nat.le_of_ble_eq_true rfl, Nat.le_of_ble_eq_true rfl⟩ rfl rfl ?_
    refine aw_getI dX10_digestOfTexts_48 f10_125 rfl ⟨Nat.le_of_ble_eq_true rfl, Nat.le_of_ble_eq_true rfl⟩ rfl ?_
    refine aw_top hC3.2.1 ?_
    refine aw_i2l dX10_digestOfTexts_51 ?_
    refine aw_S0c (As := [_, _]) dX10_digestOfTexts_52 k10_304 rfl rfl (Nat.le_of_ble_eq_true rfl) ⟨⟨Nat.le_of_ble_eq_true rfl, Nat.le_of_ble_eq_true rfl⟩, ⟨Nat.le_of_ble_eq_true rfl, Nat.le_of_ble_eq_true rfl⟩⟩ ⟨rfl, rfl⟩ (w_mix G) (fun v h2 hq => ?_)
    obtain ⟨rfl, rfl⟩ := hq
    refine aw_lstore_n (ls2 := [_, _, _, _, _, _, _]) dX10_digestOfTexts_55 (by decide) rfl rfl ?_
    refine aw_iconst (v := 0) dX10_digestOfTexts_56 rfl ?_
    refine aw_istore (ls2 := [_, _, _, _, _, _, _]) dX10_digestOfTexts_57 (by decide) rfl rfl ?_
    refine aw_up (X := fun w => aw_W G mX10_digestOfTexts 59 [.ref 3, .long h, aw_x, .long ((zf (fun i => (nI (V (i / 4) (i % 4))).toInt64) (dFl l0 l1 b0 b1 (zf (fun k => (r_cnt [nI kk, nI (t 6 0), nI l0, nI l1, nI (u 2 0), nI (o_cm x u t), nI (z_sum (p_play z0 t u x 4) 8), nI (g 3 0), fd] k).toInt64) h 8)) (4 * w))), aw_x, .int (nI w), aw_x] [] (zH n I3 L3 c3) (0, 0) _) (Nat.zero_le kk) ?_ (fun w _ hw ih => ?_)
    · refine aw_iload dX10_digestOfTexts_59 rfl ?_
      refine aw_aload_n dX10_digestOfTexts_61 rfl ?_
      refine aw_getR dX10_digestOfTexts_62 f10_18 rfl ⟨Nat.le_of_ble_eq_true rfl, Nat.le_of_ble_eq_true rfl⟩ rfl rfl ?_
      refine aw_getI dX10_digestOfTexts_65 f10_128 rfl ⟨Nat.le_of_ble_eq_true rfl, Nat.le_of_ble_eq_true rfl⟩ rfl ?_
      refine aw_top hi43 ?_
      refine aw_ic_ge_n (a := kk) (b := kk) (tgt := 109) dX10_digestOfTexts_68 (by decide) (by omega) (by omega) (fun c68 => ?_) (fun z => absurd z (by omega))
      refine aw_iconst (v := 0) dX10_digestOfTexts_109 rfl ?_
      refine aw_istore (ls2 := [_, _, _, _, _, _, _]) dX10_digestOfTexts_110 (by decide) rfl rfl ?_
      refine aw_up (X := fun p => aw_W G mX10_digestOfTexts 112 [.ref 3, .long h, aw_x, .long ((zg (dFa y) (zf (fun i => (nI (V (i / 4) (i % 4))).toInt64) (dFl l0 l1 b0 b1 (zf (fun k => (r_cnt [nI kk, nI (t 6 0), nI l0, nI l1, nI (u 2 0), nI (o_cm x u t), nI (z_sum (p_play z0 t u x 4) 8), nI (g 3 0), fd] k).toInt64) h 8)) (4 * kk)) p)), aw_x, .int (nI p), aw_x] [] (zH n I3 L3 c3) (0, 0) _) (Nat.zero_le 8) ?_ (fun p _ hp ih4 => ?_)
      · refine aw_iload dX10_digestOfTexts_112 rfl ?_
        refine aw_bipush (v := 8) dX10_digestOfTexts_114 (by decide) ?_
        refine aw_ic_ge_n (a := 8) (b := 8) (tgt := 163) dX10_digestOfTexts_116 (by decide) (by omega) (by omega) (fun c116 => ?_) (fun z => absurd z (by omega))
        refine aw_lload_n dX10_digestOfTexts_163 rfl ?_
        refine aw_retl dX10_digestOfTexts_164 rfl ⟨Nat.le_of_ble_eq_true rfl, Nat.le_of_ble_eq_true rfl⟩ ?_
        exact ⟨rfl, _, _, _, rfl, hI3, hFr⟩
      · refine aw_iload dX10_digestOfTexts_112 rfl ?_
        refine aw_bipush (v := 8) dX10_digestOfTexts_114 (by decide) ?_
        refine aw_ic_ge_n (a := p) (b := 8) (tgt := 163) dX10_digestOfTexts_116 (by decide) (by omega) (by omega) (fun z => absurd z (by omega)) (fun c116 => ?_)
        refine aw_lload_n dX10_digestOfTexts_119 rfl ?_
        refine aw_aload_n dX10_digestOfTexts_120 rfl ?_
        refine aw_getR dX10_digestOfTexts_121 f10_43 rfl ⟨Nat.le_of_ble_eq_true rfl, Nat.le_of_ble_eq_true rfl⟩ rfl rfl ?_
        refine aw_getR dX10_digestOfTexts_124 f10_47 rfl ⟨Nat.le_of_ble_eq_true rfl, Nat.le_of_ble_eq_true rfl⟩ rfl rfl ?_
        refine aw_iconst (v := 0) dX10_digestOfTexts_127 rfl ?_
        refine aw_iload dX10_digestOfTexts_128 rfl ?_
        refine aw_V0c (As := [_, _]) dX10_digestOfTexts_130 k10_168 rfl rfl rfl ⟨Nat.le_of_ble_eq_true rfl, Nat.le_of_ble_eq_true rfl⟩ (Nat.le_of_ble_eq_true rfl) ⟨⟨Nat.le_of_ble_eq_true rfl, Nat.le_of_ble_eq_true rfl⟩, ⟨Nat.le_of_ble_eq_true rfl, Nat.le_of_ble_eq_true rfl⟩⟩ ⟨rfl, rfl⟩ (w_distance12 G (p := 0) (g := p) (e := x 0) (d := x 1) (r := x 2) (I0 := I3) ⟨hF3.2.2.2.2.2.1, fun _ _ => rfl⟩ (by omega) (by omega) (fun j hj => by rw [hx, f_x1]; exact f_fw_le2 hVo j hj)) (fun v h2 hq => ?_)
        obtain ⟨rfl, rfl⟩ := hq
        have hfar : (if x 1 (8 * 0 + p) < 1000 then x 1 (8 * 0 + p) + 1 else 0) = z_far y 0 p := by rw [hx, z_far_x hVo (by omega) (by omega), ← hy]
        rw [hfar]
        refine aw_i2l dX10_digestOfTexts_133 ?_
        refine aw_S0c (As := [_, _]) dX10_digestOfTexts_134 k10_304 rfl rfl (Nat.le_of_ble_eq_true rfl) ⟨⟨Nat.le_of_ble_eq_true rfl, Nat.le_of_ble_eq_true rfl⟩, ⟨Nat.le_of_ble_eq_true rfl, Nat.le_of_ble_eq_true rfl⟩⟩ ⟨rfl, rfl⟩ (w_mix G) (fun v h2 hq => ?_)
        obtain ⟨rfl, rfl⟩ := hq
        refine aw_lstore_n (ls2 := [_, _, _, _, _, _, _]) dX10_digestOfTexts_137 (by decide) rfl rfl ?_
        refine aw_lload_n dX10_digestOfTexts_138 rfl ?_
        refine aw_aload_n dX10_digestOfTexts_139 rfl ?_
        refine aw_getR dX10_digestOfTexts_140 f10_43 rfl ⟨Nat.le_of_ble_eq_true rfl, Nat.le_of_ble_eq_true rfl⟩ rfl rfl ?_
        refine aw_getR dX10_digestOfTexts_143 f10_47 rfl ⟨Nat.le_of_ble_eq_true rfl, Nat.le_of_ble_eq_true rfl⟩ rfl rfl ?_
        refine aw_iload dX10_digestOfTexts_146 rfl ?_
        refine aw_iconst (v := 3) dX10_digestOfTexts_148 rfl ?_
        refine aw_V0c (As := [_, _]) dX10_digestOfTexts_149 k10_168 rfl rfl rfl ⟨Nat.le_of_ble_eq_true rfl, Nat.le_of_ble_eq_true rfl⟩ (Nat.le_of_ble_eq_true rfl) ⟨⟨Nat.le_of_ble_eq_true rfl, Nat.le_of_ble_eq_true rfl⟩, ⟨Nat.le_of_ble_eq_true rfl, Nat.le_of_ble_eq_true rfl⟩⟩ ⟨rfl, rfl⟩ (w_distance12 G (p := p) (g := 3) (e := x 0) (d := x 1) (r := x 2) (I0 := I3) ⟨hF3.2.2.2.2.2.1, fun _ _ => rfl⟩ (by omega) (by omega) (fun j hj => by rw [hx, f_x1]; exact f_fw_le2 hVo j hj)) (fun v h2 hq => ?_)
        obtain ⟨rfl, rfl⟩ := hq
        have hfar : (if x 1 (8 * p + 3) < 1000 then x 1 (8 * p + 3) + 1 else 0) = z_far y p 3 := by rw [hx, z_far_x hVo (by omega) (by omega), ← hy]
        rw [hfar]
        refine aw_i2l dX10_digestOfTexts_152 ?_
        refine aw_S0c (As := [_, _]) dX10_digestOfTexts_153 k10_304 rfl rfl (Nat.le_of_ble_eq_true rfl) ⟨⟨Nat.le_of_ble_eq_true rfl, Nat.le_of_ble_eq_true rfl⟩, ⟨Nat.le_of_ble_eq_true rfl, Nat.le_of_ble_eq_true rfl⟩⟩ ⟨rfl, rfl⟩ (w_mix G) (fun v h2 hq => ?_)
        obtain ⟨rfl, rfl⟩ := hq
        refine aw_lstore_n (ls2 := [_, _, _, _, _, _, _]) dX10_digestOfTexts_156 (by decide) rfl rfl ?_
        refine aw_iinc_n (ls2 := [_, _, _, _, _, _, _]) dX10_digestOfTexts_157 rfl (by decide) rfl rfl ?_
        refine aw_goto (tgt := 112) dX10_digestOfTexts_160 (by decide) ?_
        exact ih4
    · refine aw_iload dX10_digestOfTexts_59 rfl ?_
      refine aw_aload_n dX10_digestOfTexts_61 rfl ?_
      refine aw_getR dX10_digestOfTexts_62 f10_18 rfl ⟨Nat.le_of_ble_eq_true rfl, Nat.le_of_ble_eq_true rfl⟩ rfl rfl ?_
      refine aw_getI dX10_digestOfTexts_65 f10_128 rfl ⟨Nat.le_of_ble_eq_true rfl, Nat.le_of_ble_eq_true rfl⟩ rfl ?_
      refine aw_top hi43 ?_
      refine aw_ic_ge_n (a := w) (b := kk) (tgt := 109) dX10_digestOfTexts_68 (by decide) (by omega) (by omega) (fun z => absurd z (by omega)) (fun c68 => ?_)
      refine aw_iconst (v := 0) dX10_digestOfTexts_71 rfl ?_
      refine aw_istore (ls2 := [_, _, _, _, _, _, _]) dX10_digestOfTexts_72 (by decide) rfl rfl ?_
      refine aw_up (X := fun j => aw_W G mX10_digestOfTexts 74 [.ref 3, .long h, aw_x, .long ((zf (fun i => (nI (V (i / 4) (i % 4))).toInt64) (dFl l0 l1 b0 b1 (zf (fun k => (r_cnt [nI kk, nI (t 6 0), nI l0, nI l1, nI (u 2 0), nI (o_cm x u t), nI (z_sum (p_play z0 t u x 4) 8), nI (g 3 0), fd] k).toInt64) h 8)) (4 * w + j))), aw_x, .int (nI w), .int (nI j)] [] (zH n I3 L3 c3) (0, 0) _) (Nat.zero_le 4) ?_ (fun j _ hj ih3 => ?_)
      · refine aw_iload dX10_digestOfTexts_74 rfl ?_
        refine aw_iconst (v := 4) dX10_digestOfTexts_76 rfl ?_
        refine aw_ic_ge_n (a := 4) (b := 4) (tgt := 103) dX10_digestOfTexts_77 (by decide) (by omega) (by omega) (fun c77 => ?_) (fun z => absurd z (by omega))
        refine aw_iinc_n (ls2 := [_, _, _, _, _, _, _]) dX10_digestOfTexts_103 rfl (by decide) rfl rfl ?_
        refine aw_goto (tgt := 59) dX10_digestOfTexts_106 (by decide) ?_
        refine aw_kill (j := 6) (ls2 := [_, _, _, _, _, _, aw_x]) rfl ?_
        have e4 : 4 * (w + 1) = 4 * w + 4 := by omega
        rw [e4] at ih
        exact ih
      · refine aw_iload dX10_digestOfTexts_74 rfl ?_
        refine aw_iconst (v := 4) dX10_digestOfTexts_76 rfl ?_
        refine aw_ic_ge_n (a := j) (b := 4) (tgt := 103) dX10_digestOfTexts_77 (by decide) (by omega) (by omega) (fun z => absurd z (by omega)) (fun c77 => ?_)
        refine aw_lload_n dX10_digestOfTexts_80 rfl ?_
        refine aw_aload_n dX10_digestOfTexts_81 rfl ?_
        refine aw_getR dX10_digestOfTexts_82 f10_18 rfl ⟨Nat.le_of_ble_eq_true rfl, Nat.le_of_ble_eq_true rfl⟩ rfl rfl ?_
        refine aw_iload dX10_digestOfTexts_85 rfl ?_
        refine aw_iload dX10_digestOfTexts_87 rfl ?_
        refine aw_V0c (As := [_, _]) dX10_digestOfTexts_89 k10_131 rfl rfl rfl ⟨Nat.le_of_ble_eq_true rfl, Nat.le_of_ble_eq_true rfl⟩ (Nat.le_of_ble_eq_true rfl) ⟨⟨Nat.le_of_ble_eq_true rfl, Nat.le_of_ble_eq_true rfl⟩, ⟨Nat.le_of_ble_eq_true rfl, Nat.le_of_ble_eq_true rfl⟩⟩ ⟨rfl, rfl⟩ (w_numW G hW3.1 (w := w) (j := j) (by rw [← hkk]; exact hw) hj) (fun v h2 hq => ?_)
        obtain ⟨rfl, rfl⟩ := hq
        rw [← hV]
        have e5 : nI (V w j) = nI (V ((4 * w + j) / 4) ((4 * w + j) % 4)) := by rw [show (4 * w + j) / 4 = w by omega, show (4 * w + j) % 4 = j by omega]
        rw [e5]
        refine aw_i2l dX10_digestOfTexts_92 ?_
        refine aw_S0c (As := [_, _]) dX10_digestOfTexts_93 k10_304 rfl rfl (Nat.le_of_ble_eq_true rfl) ⟨⟨Nat.le_of_ble_eq_true rfl, Nat.le_of_ble_eq_true rfl⟩, ⟨Nat.le_of_ble_eq_true rfl, Nat.le_of_ble_eq_true rfl⟩⟩ ⟨rfl, rfl⟩ (w_mix G) (fun v h2 hq => ?_)
        obtain ⟨rfl, rfl⟩ := hq
        refine aw_lstore_n (ls2 := [_, _, _, _, _, _, _]) dX10_digestOfTexts_96 (by decide) rfl rfl ?_
        refine aw_iinc_n (ls2 := [_, _, _, _, _, _, _]) dX10_digestOfTexts_97 rfl (by decide) rfl rfl ?_
        refine aw_goto (tgt := 74) dX10_digestOfTexts_100 (by decide) ?_
        exact ih3
  · obtain ⟨hI3, hFr⟩ := hh
    refine aw_iload dX10_digestOfTexts_5 rfl ?_
    refine aw_bipush (v := 8) dX10_digestOfTexts_7 (by decide) ?_
    refine aw_ic_ge_n (a := i) (b := 8) (tgt := 30) dX10_digestOfTexts_9 (by decide) (by omega) (by omega) (fun z => absurd z (by omega)) (fun c9 => ?_)
    refine aw_lload_n dX10_digestOfTexts_12 rfl ?_
    refine aw_aload_n dX10_digestOfTexts_13 rfl ?_
    refine aw_iload dX10_digestOfTexts_14 rfl ?_
    refine aw_V0c (As := [_]) dX10_digestOfTexts_16 k10_301 rfl rfl rfl ⟨Nat.le_of_ble_eq_true rfl, Nat.le_of_ble_eq_true rfl⟩ (Nat.le_of_ble_eq_true rfl) ⟨⟨Nat.le_of_ble_eq_true rfl, Nat.le_of_ble_eq_true rfl⟩, ⟨Nat.le_of_ble_eq_true rfl, Nat.le_of_ble_eq_true rfl⟩⟩ ⟨rfl, rfl⟩ (c_countS G hX hI3 hi) (fun v h2 hq => ?_)
    obtain ⟨rfl, I4, L4, c4, rfl, hI4, hFr4⟩ := hq
    refine aw_i2l dX10_digestOfTexts_19 ?_
    refine aw_S0c (As := [_, _]) dX10_digestOfTexts_20 k10_304 rfl rfl (Nat.le_of_ble_eq_true rfl) ⟨⟨Nat.le_of_ble_eq_true rfl, Nat.le_of_ble_eq_true rfl⟩, ⟨Nat.le_of_ble_eq_true rfl, Nat.le_of_ble_eq_true rfl⟩⟩ ⟨rfl, rfl⟩ (w_mix G) (fun v h2 hq => ?_)
    obtain ⟨rfl, rfl⟩ := hq
    refine aw_lstore_n (ls2 := [_, _, _, _, _, _, _]) dX10_digestOfTexts_23 (by decide) rfl rfl ?_
    refine aw_iinc_n (ls2 := [_, _, _, _, _, _, _]) dX10_digestOfTexts_24 rfl (by decide) rfl rfl ?_
    refine aw_goto (tgt := 5) dX10_digestOfTexts_27 (by decide) ?_
    exact ih1 _ _ _ ⟨hI4, fun o ho => by rw [hFr4 o ho]; exact hFr o ho⟩
theorem c_dTrials (G : aw_G) {n c : Nat} {I : Nat → Nat → Int32} {L : Nat → Nat → Int64} {b0 b1 : Nat → Nat} {l0 l1 : Nat} {t u x y V g : Nat → Nat → Nat} {kk : Nat} {F S : Nat → Nat} {E : Nat → Nat → Int32} {fd : Int32} (hX : zTx b0 b1 l0 l1 t u x y V kk) (hI : zCI b0 b1 l0 l1 t u x y g F S E fd I) {h : Int64} {k : Nat} (hk : k < t 6 0) (hWt : ∀ k, k < 8 → L 71 k = lN (if k < t 6 0 then z_sum (z_wf x u t 5 k) (2 ^ u 2 0) else 0)) (hA4 : L 70 4 = lN (16 ^ u 2 0))  : aw_Met G mX10_digestOfTrials [.ref 3, .long h, .int (nI k)] (zH n I L c) (fun v h2 => v = some (.long (dTr x u t g k h)) ∧ ∃ I2 L2 c2, h2 = zH n I2 L2 c2 ∧ zCI b0 b1 l0 l1 t u x y g F S E fd I2 ∧ (∀ o, 81 ≤ o → I2 o = I o) ∧ L2 71 = L 71 ∧ L2 70 4 = L 70 4) := by
  obtain ⟨hW, hC, hF, ⟨s0, hO, hR⟩, ⟨t2, s2, hD⟩, hG, hS, hfd⟩ := id hI
  obtain ⟨hP, h60, h61, htc, hV, hkk, hx, hy⟩ := id hX
  have h8 := hP.1.1
  have hk10 : kk ≤ 10 := by rw [hkk]; exact q_k_leW hW.1.2.2.2.2
  have hi6 : I 6 5 = nI (t 6 0) := by rw [h60]; exact hC.2.2
  have hi4 : I 4 5 = nI kk := by rw [hkk]; exact hW.2.2
  have hVo : f_Vok V kk := by rw [hV, hkk]; exact v_w_ok
  have hsm := zSame hP hO.1
  have hbd := zBd (m := z0) (u := u) hP.1 hP.2.2.2.1 hP.2.2.2.2.1 hP.2.2.2.2.2 hO.1
  have hS0 : p_play s0 t u x 0 0 = t 6 0 := hbd.1.1
  have hu8 := hP.2.2.1.1
  have hp16 := pow16_le hu8
  have hwk : L 71 k = lN (z_sum (z_wf x u t 5 k) (2 ^ u 2 0)) := by rw [hWt k (by omega), if_pos hk]
  have hpw : (16 : Nat) ^ u 2 0 = 2 ^ (4 * u 2 0) := by rw [Nat.pow_mul]
  have hsl := z_wf_sum (x := x) (u := u) (t := t) (c := 5) (k := k) (by omega) (Nat.le_refl (2 ^ u 2 0))
  have hob := o_bd2 hP hk
  refine aw_Met.of okX10_digestOfTrials (Nat.le_of_ble_eq_true rfl) ?_
  show aw_W G mX10_digestOfTrials 0 [.ref 3, .long h, aw_x, .int (nI k), aw_x, aw_x, aw_x] [] (zH n I L c) (0, 0) _
  refine aw_lload_n dX10_digestOfTrials_0 rfl ?_
  refine aw_aload_n dX10_digestOfTrials_1 rfl ?_
  refine aw_getR dX10_digestOfTrials_2 f10_71 rfl ⟨Nat.le_of_ble_eq_true rfl, Nat.le_of_ble_eq_true rfl⟩ rfl rfl ?_
  refine aw_iload_n dX10_digestOfTrials_5 rfl ?_
  refine aw_V0c (As := [_]) dX10_digestOfTrials_6 k10_184 rfl rfl rfl ⟨Nat.le_of_ble_eq_true rfl, Nat.le_of_ble_eq_true rfl⟩ (Nat.le_of_ble_eq_true rfl) ⟨⟨Nat.le_of_ble_eq_true rfl, Nat.le_of_ble_eq_true rfl⟩, ⟨Nat.le_of_ble_eq_true rfl, Nat.le_of_ble_eq_true rfl⟩⟩ ⟨rfl, rfl⟩ (w_least G hF hD hk) (fun v h2 hq => ?_)
  obtain ⟨rfl, I2, rfl, t3, s3, hD2⟩ := hq
  refine aw_i2l dX10_digestOfTrials_9 ?_
  refine aw_S0c (As := [_, _]) dX10_digestOfTrials_10 k10_304 rfl rfl (Nat.le_of_ble_eq_true rfl) ⟨⟨Nat.le_of_ble_eq_true rfl, Nat.le_of_ble_eq_true rfl⟩, ⟨Nat.le_of_ble_eq_true rfl, Nat.le_of_ble_eq_true rfl⟩⟩ ⟨rfl, rfl⟩ (w_mix G) (fun v h2 hq => ?_)
  obtain ⟨rfl, rfl⟩ := hq
  refine aw_lstore (ls2 := [_, _, _, _, _, _, _]) dX10_digestOfTrials_13 (by decide) rfl rfl ?_
  refine aw_aload_n dX10_digestOfTrials_15 rfl ?_
  refine aw_getR dX10_digestOfTrials_16 f10_71 rfl ⟨Nat.le_of_ble_eq_true rfl, Nat.le_of_ble_eq_true rfl⟩ rfl rfl ?_
  refine aw_iload_n dX10_digestOfTrials_19 rfl ?_
  refine aw_V0c (As := [_]) dX10_digestOfTrials_20 k10_199 rfl rfl rfl ⟨Nat.le_of_ble_eq_true rfl, Nat.le_of_ble_eq_true rfl⟩ (Nat.le_of_ble_eq_true rfl) ⟨⟨Nat.le_of_ble_eq_true rfl, Nat.le_of_ble_eq_true rfl⟩, ⟨Nat.le_of_ble_eq_true rfl, Nat.le_of_ble_eq_true rfl⟩⟩ ⟨rfl, rfl⟩ (w_postpone G hF hD2 (k := k) (by omega)) (fun v h2 hq => ?_)
  obtain ⟨rfl, I3, rfl, ⟨t4, s4, hD3⟩, hPl⟩ := hq
  refine aw_lload dX10_digestOfTrials_23 rfl ?_
  refine aw_aload_n dX10_digestOfTrials_25 rfl ?_
  refine aw_getR dX10_digestOfTrials_26 f10_71 rfl ⟨Nat.le_of_ble_eq_true rfl, Nat.le_of_ble_eq_true rfl⟩ rfl rfl ?_
  refine aw_getI dX10_digestOfTrials_29 f10_193 rfl ⟨Nat.le_of_ble_eq_true rfl, Nat.le_of_ble_eq_true rfl⟩ rfl ?_
  refine aw_top hPl.1 ?_
  refine aw_i2l dX10_digestOfTrials_32 ?_
  refine aw_S0c (As := [_, _]) dX10_digestOfTrials_33 k10_304 rfl rfl (Nat.le_of_ble_eq_true rfl) ⟨⟨Nat.le_of_ble_eq_true rfl, Nat.le_of_ble_eq_true rfl⟩, ⟨Nat.le_of_ble_eq_true rfl, Nat.le_of_ble_eq_true rfl⟩⟩ ⟨rfl, rfl⟩ (w_mix G) (fun v h2 hq => ?_)
  obtain ⟨rfl, rfl⟩ := hq
  refine aw_lstore (ls2 := [_, _, _, _, _, _, _]) dX10_digestOfTrials_36 (by decide) rfl rfl ?_
  refine aw_lload dX10_digestOfTrials_38 rfl ?_
  refine aw_aload_n dX10_digestOfTrials_40 rfl ?_
  refine aw_getR dX10_digestOfTrials_41 f10_71 rfl ⟨Nat.le_of_ble_eq_true rfl, Nat.le_of_ble_eq_true rfl⟩ rfl rfl ?_
  refine aw_getI dX10_digestOfTrials_44 f10_190 rfl ⟨Nat.le_of_ble_eq_true rfl, Nat.le_of_ble_eq_true rfl⟩ rfl ?_
  refine aw_top hPl.2.2 ?_
  refine aw_i2l dX10_digestOfTrials_47 ?_
  refine aw_S0c (As := [_, _]) dX10_digestOfTrials_48 k10_304 rfl rfl (Nat.le_of_ble_eq_true rfl) ⟨⟨Nat.le_of_ble_eq_true rfl, Nat.le_of_ble_eq_true rfl⟩, ⟨Nat.le_of_ble_eq_true rfl, Nat.le_of_ble_eq_true rfl⟩⟩ ⟨rfl, rfl⟩ (w_mix G) (fun v h2 hq => ?_)
  obtain ⟨rfl, rfl⟩ := hq
  refine aw_lstore (ls2 := [_, _, _, _, _, _, _]) dX10_digestOfTrials_51 (by decide) rfl rfl ?_
  refine aw_lload dX10_digestOfTrials_53 rfl ?_
  refine aw_aload_n dX10_digestOfTrials_55 rfl ?_
  refine aw_getR dX10_digestOfTrials_56 f10_78 rfl ⟨Nat.le_of_ble_eq_true rfl, Nat.le_of_ble_eq_true rfl⟩ rfl rfl ?_
  refine aw_iload_n dX10_digestOfTrials_59 rfl ?_
  refine aw_V0c (As := [_]) dX10_digestOfTrials_60 k10_213 rfl rfl rfl ⟨Nat.le_of_ble_eq_true rfl, Nat.le_of_ble_eq_true rfl⟩ (Nat.le_of_ble_eq_true rfl) ⟨⟨Nat.le_of_ble_eq_true rfl, Nat.le_of_ble_eq_true rfl⟩, ⟨Nat.le_of_ble_eq_true rfl, Nat.le_of_ble_eq_true rfl⟩⟩ ⟨rfl, rfl⟩ (w_sortsOf G hF hG hD3 hk) (fun v h2 hq => ?_)
  obtain ⟨rfl, I4, rfl, ⟨t5, s5, hD4⟩, hEr⟩ := hq
  refine aw_i2l dX10_digestOfTrials_63 ?_
  refine aw_S0c (As := [_, _]) dX10_digestOfTrials_64 k10_304 rfl rfl (Nat.le_of_ble_eq_true rfl) ⟨⟨Nat.le_of_ble_eq_true rfl, Nat.le_of_ble_eq_true rfl⟩, ⟨Nat.le_of_ble_eq_true rfl, Nat.le_of_ble_eq_true rfl⟩⟩ ⟨rfl, rfl⟩ (w_mix G) (fun v h2 hq => ?_)
  obtain ⟨rfl, rfl⟩ := hq
  refine aw_lstore (ls2 := [_, _, _, _, _, _, _]) dX10_digestOfTrials_67 (by decide) rfl rfl ?_
  refine aw_aload_n dX10_digestOfTrials_69 rfl ?_
  refine aw_getR dX10_digestOfTrials_70 f10_78 rfl ⟨Nat.le_of_ble_eq_true rfl, Nat.le_of_ble_eq_true rfl⟩ rfl rfl ?_
  refine aw_V0c (As := []) dX10_digestOfTrials_73 k10_228 rfl rfl rfl ⟨Nat.le_of_ble_eq_true rfl, Nat.le_of_ble_eq_true rfl⟩ (Nat.le_of_ble_eq_true rfl) ⟨⟨Nat.le_of_ble_eq_true rfl, Nat.le_of_ble_eq_true rfl⟩, ⟨Nat.le_of_ble_eq_true rfl, Nat.le_of_ble_eq_true rfl⟩⟩ ⟨rfl, rfl⟩ (w_hourToLook G hEr.cut hob) (fun v h2 hq => ?_)
  obtain ⟨rfl, rfl⟩ := hq
  rw [z_al_cut]
  refine aw_istore (ls2 := [_, _, _, _, _, _, _]) dX10_digestOfTrials_76 (by decide) rfl rfl ?_
  refine aw_aload_n dX10_digestOfTrials_78 rfl ?_
  refine aw_getR dX10_digestOfTrials_79 f10_78 rfl ⟨Nat.le_of_ble_eq_true rfl, Nat.le_of_ble_eq_true rfl⟩ rfl rfl ?_
  refine aw_iload_n dX10_digestOfTrials_82 rfl ?_
  refine aw_V0c (As := [_]) dX10_digestOfTrials_83 k10_216 rfl rfl rfl ⟨Nat.le_of_ble_eq_true rfl, Nat.le_of_ble_eq_true rfl⟩ (Nat.le_of_ble_eq_true rfl) ⟨⟨Nat.le_of_ble_eq_true rfl, Nat.le_of_ble_eq_true rfl⟩, ⟨Nat.le_of_ble_eq_true rfl, Nat.le_of_ble_eq_true rfl⟩⟩ ⟨rfl, rfl⟩ (w_strengthsOf G hF hG hD4 hk) (fun v h2 hq => ?_)
  obtain ⟨rfl, I5, rfl, ⟨t6, s6, hD5⟩, e10, e11, e12⟩ := hq
  refine aw_lload dX10_digestOfTrials_86 rfl ?_
  refine aw_aload_n dX10_digestOfTrials_88 rfl ?_
  refine aw_getR dX10_digestOfTrials_89 f10_78 rfl ⟨Nat.le_of_ble_eq_true rfl, Nat.le_of_ble_eq_true rfl⟩ rfl rfl ?_
  refine aw_getI dX10_digestOfTrials_92 f10_219 rfl ⟨Nat.le_of_ble_eq_true rfl, Nat.le_of_ble_eq_true rfl⟩ rfl ?_
  refine aw_top e10 ?_
  refine aw_i2l dX10_digestOfTrials_95 ?_
  refine aw_S0c (As := [_, _]) dX10_digestOfTrials_96 k10_304 rfl rfl (Nat.le_of_ble_eq_true rfl) ⟨⟨Nat.le_of_ble_eq_true rfl, Nat.le_of_ble_eq_true rfl⟩, ⟨Nat.le_of_ble_eq_true rfl, Nat.le_of_ble_eq_true rfl⟩⟩ ⟨rfl, rfl⟩ (w_mix G) (fun v h2 hq => ?_)
  obtain ⟨rfl, rfl⟩ := hq
  refine aw_lstore (ls2 := [_, _, _, _, _, _, _]) dX10_digestOfTrials_99 (by decide) rfl rfl ?_
  refine aw_lload dX10_digestOfTrials_101 rfl ?_
  refine aw_aload_n dX10_digestOfTrials_103 rfl ?_
  refine aw_getR dX10_digestOfTrials_104 f10_78 rfl ⟨Nat.le_of_ble_eq_true rfl, Nat.le_of_ble_eq_true rfl⟩ rfl rfl ?_
  refine aw_getI dX10_digestOfTrials_107 f10_222 rfl ⟨Nat.le_of_ble_eq_true rfl, Nat.le_of_ble_eq_true rfl⟩ rfl ?_
  refine aw_top e11 ?_
  refine aw_i2l dX10_digestOfTrials_110 ?_
  refine aw_S0c (As := [_, _]) dX10_digestOfTrials_111 k10_304 rfl rfl (Nat.le_of_ble_eq_true rfl) ⟨⟨Nat.le_of_ble_eq_true rfl, Nat.le_of_ble_eq_true rfl⟩, ⟨Nat.le_of_ble_eq_true rfl, Nat.le_of_ble_eq_true rfl⟩⟩ ⟨rfl, rfl⟩ (w_mix G) (fun v h2 hq => ?_)
  obtain ⟨rfl, rfl⟩ := hq
  refine aw_lstore (ls2 := [_, _, _, _, _, _, _]) dX10_digestOfTrials_114 (by decide) rfl rfl ?_
  refine aw_lload dX10_digestOfTrials_116 rfl ?_
  refine aw_aload_n dX10_digestOfTrials_118 rfl ?_
  refine aw_getR dX10_digestOfTrials_119 f10_78 rfl ⟨Nat.le_of_ble_eq_true rfl, Nat.le_of_ble_eq_true rfl⟩ rfl rfl ?_
  refine aw_getI dX10_digestOfTrials_122 f10_225 rfl ⟨Nat.le_of_ble_eq_true rfl, Nat.le_of_ble_eq_true rfl⟩ rfl ?_
  refine aw_top e12 ?_
  refine aw_i2l dX10_digestOfTrials_125 ?_
  refine aw_S0c (As := [_, _]) dX10_digestOfTrials_126 k10_304 rfl rfl (Nat.le_of_ble_eq_true rfl) ⟨⟨Nat.le_of_ble_eq_true rfl, Nat.le_of_ble_eq_true rfl⟩, ⟨Nat.le_of_ble_eq_true rfl, Nat.le_of_ble_eq_true rfl⟩⟩ ⟨rfl, rfl⟩ (w_mix G) (fun v h2 hq => ?_)
  obtain ⟨rfl, rfl⟩ := hq
  refine aw_lstore (ls2 := [_, _, _, _, _, _, _]) dX10_digestOfTrials_129 (by decide) rfl rfl ?_
  refine aw_lload dX10_digestOfTrials_131 rfl ?_
  refine aw_iload dX10_digestOfTrials_133 rfl ?_
  refine aw_i2l dX10_digestOfTrials_135 ?_
  refine aw_S0c (As := [_, _]) dX10_digestOfTrials_136 k10_304 rfl rfl (Nat.le_of_ble_eq_true rfl) ⟨⟨Nat.le_of_ble_eq_true rfl, Nat.le_of_ble_eq_true rfl⟩, ⟨Nat.le_of_ble_eq_true rfl, Nat.le_of_ble_eq_true rfl⟩⟩ ⟨rfl, rfl⟩ (w_mix G) (fun v h2 hq => ?_)
  obtain ⟨rfl, rfl⟩ := hq
  refine aw_lstore (ls2 := [_, _, _, _, _, _, _]) dX10_digestOfTrials_139 (by decide) rfl rfl ?_
  refine aw_aload_n dX10_digestOfTrials_141 rfl ?_
  refine aw_getR dX10_digestOfTrials_142 f10_85 rfl ⟨Nat.le_of_ble_eq_true rfl, Nat.le_of_ble_eq_true rfl⟩ rfl rfl ?_
  refine aw_iload_n dX10_digestOfTrials_145 rfl ?_
  refine aw_V0c (As := [_]) dX10_digestOfTrials_146 k10_236 rfl rfl rfl ⟨Nat.le_of_ble_eq_true rfl, Nat.le_of_ble_eq_true rfl⟩ (Nat.le_of_ble_eq_true rfl) ⟨⟨Nat.le_of_ble_eq_true rfl, Nat.le_of_ble_eq_true rfl⟩, ⟨Nat.le_of_ble_eq_true rfl, Nat.le_of_ble_eq_true rfl⟩⟩ ⟨rfl, rfl⟩ (w_reduce G (k := k) (A := (z_sum (z_wf x u t 5 k) (2 ^ u 2 0))) (m := 4 * u 2 0) (by omega) hwk (by rw [← hpw]; exact hA4) (by omega) (by omega)) (fun v h2 hq => ?_)
  obtain ⟨rfl, L3, rfl, h5, h6, hL3, hL4⟩ := hq
  rw [← hpw] at h5 h6
  refine aw_lload dX10_digestOfTrials_149 rfl ?_
  refine aw_aload_n dX10_digestOfTrials_151 rfl ?_
  refine aw_getR dX10_digestOfTrials_152 f10_85 rfl ⟨Nat.le_of_ble_eq_true rfl, Nat.le_of_ble_eq_true rfl⟩ rfl rfl ?_
  refine aw_getL dX10_digestOfTrials_155 f10_239 rfl ⟨Nat.le_of_ble_eq_true rfl, Nat.le_of_ble_eq_true rfl⟩ rfl ?_
  refine aw_topl h5 ?_
  refine aw_S0c (As := [_, _]) dX10_digestOfTrials_158 k10_304 rfl rfl (Nat.le_of_ble_eq_true rfl) ⟨⟨Nat.le_of_ble_eq_true rfl, Nat.le_of_ble_eq_true rfl⟩, ⟨Nat.le_of_ble_eq_true rfl, Nat.le_of_ble_eq_true rfl⟩⟩ ⟨rfl, rfl⟩ (w_mix G) (fun v h2 hq => ?_)
  obtain ⟨rfl, rfl⟩ := hq
  refine aw_lstore (ls2 := [_, _, _, _, _, _, _]) dX10_digestOfTrials_161 (by decide) rfl rfl ?_
  refine aw_lload dX10_digestOfTrials_163 rfl ?_
  refine aw_aload_n dX10_digestOfTrials_165 rfl ?_
  refine aw_getR dX10_digestOfTrials_166 f10_85 rfl ⟨Nat.le_of_ble_eq_true rfl, Nat.le_of_ble_eq_true rfl⟩ rfl rfl ?_
  refine aw_getL dX10_digestOfTrials_169 f10_243 rfl ⟨Nat.le_of_ble_eq_true rfl, Nat.le_of_ble_eq_true rfl⟩ rfl ?_
  refine aw_topl h6 ?_
  refine aw_S0c (As := [_, _]) dX10_digestOfTrials_172 k10_304 rfl rfl (Nat.le_of_ble_eq_true rfl) ⟨⟨Nat.le_of_ble_eq_true rfl, Nat.le_of_ble_eq_true rfl⟩, ⟨Nat.le_of_ble_eq_true rfl, Nat.le_of_ble_eq_true rfl⟩⟩ ⟨rfl, rfl⟩ (w_mix G) (fun v h2 hq => ?_)
  obtain ⟨rfl, rfl⟩ := hq
  refine aw_retl dX10_digestOfTrials_175 rfl ⟨Nat.le_of_ble_eq_true rfl, Nat.le_of_ble_eq_true rfl⟩ ?_
  exact ⟨rfl, _, _, _, rfl, hI.dy hD5, hD5.fr, hL3 71 (by decide), hL4⟩
theorem c_dAll (G : aw_G) {n c : Nat} {I : Nat → Nat → Int32} {L : Nat → Nat → Int64} {b0 b1 : Nat → Nat} {l0 l1 : Nat} {t u x y V g : Nat → Nat → Nat} {kk : Nat} {F S : Nat → Nat} {E : Nat → Nat → Int32} {fd : Int32} (hX : zTx b0 b1 l0 l1 t u x y V kk) (hI : zCI b0 b1 l0 l1 t u x y g F S E fd I) {h : Int64} : aw_Met G mX10_digestOfAll [.ref 3, .long h] (zH n I L c) (fun v h2 => v = some (.long (dAl x u t V g kk h)) ∧ ∃ I2 L2 c2, h2 = zH n I2 L2 c2 ∧ zCI b0 b1 l0 l1 t u x y g F S E fd I2 ∧ ∀ o, 81 ≤ o → I2 o = I o) := by
  obtain ⟨hW, hC, hF, ⟨s0, hO, hR⟩, ⟨t2, s2, hD⟩, hG, hS, hfd⟩ := id hI
  obtain ⟨hP, h60, h61, htc, hV, hkk, hx, hy⟩ := id hX
  have h8 := hP.1.1
  have hk10 : kk ≤ 10 := by rw [hkk]; exact q_k_leW hW.1.2.2.2.2
  have hi6 : I 6 5 = nI (t 6 0) := by rw [h60]; exact hC.2.2
  have hi4 : I 4 5 = nI kk := by rw [hkk]; exact hW.2.2
  have hVo : f_Vok V kk := by rw [hV, hkk]; exact v_w_ok
  have hsm := zSame hP hO.1
  have hbd := zBd (m := z0) (u := u) hP.1 hP.2.2.2.1 hP.2.2.2.2.1 hP.2.2.2.2.2 hO.1
  have hS0 : p_play s0 t u x 0 0 = t 6 0 := hbd.1.1
  refine aw_Met.of okX10_digestOfAll (Nat.le_of_ble_eq_true rfl) ?_
  show aw_W G mX10_digestOfAll 0 [.ref 3, .long h, aw_x, aw_x, aw_x, aw_x] [] (zH n I L c) (0, 0) _
  refine aw_lload_n dX10_digestOfAll_0 rfl ?_
  refine aw_lstore_n (ls2 := [_, _, _, _, _, _]) dX10_digestOfAll_1 (by decide) rfl rfl ?_
  refine aw_iconst (v := 2) dX10_digestOfAll_2 rfl ?_
  refine aw_istore (ls2 := [_, _, _, _, _, _]) dX10_digestOfAll_3 (by decide) rfl rfl ?_
  refine aw_up (X := fun i => aw_W G mX10_digestOfAll 5 [.ref 3, .long h, aw_x, .long ((zf (fun i => (nI (o_who x u t (i + 2))).toInt64) h i)), aw_x, .int (nI (i + 2))] [] (zH n I L c) (0, 0) _) (Nat.zero_le 4) ?_ (fun i _ hi ih => ?_)
  · refine aw_iload dX10_digestOfAll_5 rfl ?_
    refine aw_iconst (v := 5) dX10_digestOfAll_7 rfl ?_
    refine aw_ic_gt_n (a := 4 + 2) (b := 5) (tgt := 32) dX10_digestOfAll_8 (by decide) (by omega) (by omega) (fun c8 => ?_) (fun z => absurd z (by omega))
    refine aw_lload_n dX10_digestOfAll_32 rfl ?_
    refine aw_aload_n dX10_digestOfAll_33 rfl ?_
    refine aw_getR dX10_digestOfAll_34 f10_58 rfl ⟨Nat.le_of_ble_eq_true rfl, Nat.le_of_ble_eq_true rfl⟩ rfl rfl ?_
    refine aw_getI dX10_digestOfAll_37 f10_174 rfl ⟨Nat.le_of_ble_eq_true rfl, Nat.le_of_ble_eq_true rfl⟩ rfl ?_
    refine aw_top (show _ = nI (p_play z0 t u x 0 10) - 1 from (hR.1 0 10 (by decide) (by decide) (fun _ => by decide) (by decide)).trans (by rw [hsm.2.2.1]; rfl)) ?_
    refine aw_i2l dX10_digestOfAll_40 ?_
    refine aw_S0c (As := [_, _]) dX10_digestOfAll_41 k10_304 rfl rfl (Nat.le_of_ble_eq_true rfl) ⟨⟨Nat.le_of_ble_eq_true rfl, Nat.le_of_ble_eq_true rfl⟩, ⟨Nat.le_of_ble_eq_true rfl, Nat.le_of_ble_eq_true rfl⟩⟩ ⟨rfl, rfl⟩ (w_mix G) (fun v h2 hq => ?_)
    obtain ⟨rfl, rfl⟩ := hq
    refine aw_lstore_n (ls2 := [_, _, _, _, _, _]) dX10_digestOfAll_44 (by decide) rfl rfl ?_
    refine aw_lload_n dX10_digestOfAll_45 rfl ?_
    refine aw_aload_n dX10_digestOfAll_46 rfl ?_
    refine aw_getR dX10_digestOfAll_47 f10_58 rfl ⟨Nat.le_of_ble_eq_true rfl, Nat.le_of_ble_eq_true rfl⟩ rfl rfl ?_
    refine aw_getI dX10_digestOfAll_50 f10_177 rfl ⟨Nat.le_of_ble_eq_true rfl, Nat.le_of_ble_eq_true rfl⟩ rfl ?_
    refine aw_top (show _ = nI (p_play z0 t u x 0 11) - 1 from (hR.1 0 11 (by decide) (by decide) (fun _ => by decide) (by decide)).trans (by rw [hsm.2.2.2]; rfl)) ?_
    refine aw_i2l dX10_digestOfAll_53 ?_
    refine aw_S0c (As := [_, _]) dX10_digestOfAll_54 k10_304 rfl rfl (Nat.le_of_ble_eq_true rfl) ⟨⟨Nat.le_of_ble_eq_true rfl, Nat.le_of_ble_eq_true rfl⟩, ⟨Nat.le_of_ble_eq_true rfl, Nat.le_of_ble_eq_true rfl⟩⟩ ⟨rfl, rfl⟩ (w_mix G) (fun v h2 hq => ?_)
    obtain ⟨rfl, rfl⟩ := hq
    refine aw_lstore_n (ls2 := [_, _, _, _, _, _]) dX10_digestOfAll_57 (by decide) rfl rfl ?_
    refine aw_lload_n dX10_digestOfAll_58 rfl ?_
    refine aw_aload_n dX10_digestOfAll_59 rfl ?_
    refine aw_getR dX10_digestOfAll_60 f10_58 rfl ⟨Nat.le_of_ble_eq_true rfl, Nat.le_of_ble_eq_true rfl⟩ rfl rfl ?_
    refine aw_V0c (As := []) dX10_digestOfAll_63 k10_180 rfl rfl rfl ⟨Nat.le_of_ble_eq_true rfl, Nat.le_of_ble_eq_true rfl⟩ (Nat.le_of_ble_eq_true rfl) ⟨⟨Nat.le_of_ble_eq_true rfl, Nat.le_of_ble_eq_true rfl⟩, ⟨Nat.le_of_ble_eq_true rfl, Nat.le_of_ble_eq_true rfl⟩⟩ ⟨rfl, rfl⟩ (w_mostArr G hR (fun j hj => by have := hbd.1.2.2.2.2 j; omega)) (fun v h2 hq => ?_)
    obtain ⟨rfl, rfl⟩ := hq
    rw [z_most_congr (fun j hj => hsm.2.1 j hj)]
    refine aw_i2l dX10_digestOfAll_66 ?_
    refine aw_S0c (As := [_, _]) dX10_digestOfAll_67 k10_304 rfl rfl (Nat.le_of_ble_eq_true rfl) ⟨⟨Nat.le_of_ble_eq_true rfl, Nat.le_of_ble_eq_true rfl⟩, ⟨Nat.le_of_ble_eq_true rfl, Nat.le_of_ble_eq_true rfl⟩⟩ ⟨rfl, rfl⟩ (w_mix G) (fun v h2 hq => ?_)
    obtain ⟨rfl, rfl⟩ := hq
    refine aw_lstore_n (ls2 := [_, _, _, _, _, _]) dX10_digestOfAll_70 (by decide) rfl rfl ?_
    refine aw_aload_n dX10_digestOfAll_71 rfl ?_
    refine aw_getR dX10_digestOfAll_72 f10_71 rfl ⟨Nat.le_of_ble_eq_true rfl, Nat.le_of_ble_eq_true rfl⟩ rfl rfl ?_
    refine aw_V0c (As := []) dX10_digestOfAll_75 k10_187 rfl rfl rfl ⟨Nat.le_of_ble_eq_true rfl, Nat.le_of_ble_eq_true rfl⟩ (Nat.le_of_ble_eq_true rfl) ⟨⟨Nat.le_of_ble_eq_true rfl, Nat.le_of_ble_eq_true rfl⟩, ⟨Nat.le_of_ble_eq_true rfl, Nat.le_of_ble_eq_true rfl⟩⟩ ⟨rfl, rfl⟩ (w_pSwap G hF hD) (fun v h2 hq => ?_)
    obtain ⟨rfl, I2, rfl, ⟨t3, s3, hD2⟩, hPl⟩ := hq
    refine aw_lload_n dX10_digestOfAll_78 rfl ?_
    refine aw_aload_n dX10_digestOfAll_79 rfl ?_
    refine aw_getR dX10_digestOfAll_80 f10_71 rfl ⟨Nat.le_of_ble_eq_true rfl, Nat.le_of_ble_eq_true rfl⟩ rfl rfl ?_
    refine aw_getI dX10_digestOfAll_83 f10_193 rfl ⟨Nat.le_of_ble_eq_true rfl, Nat.le_of_ble_eq_true rfl⟩ rfl ?_
    refine aw_top hPl.1 ?_
    refine aw_i2l dX10_digestOfAll_86 ?_
    refine aw_S0c (As := [_, _]) dX10_digestOfAll_87 k10_304 rfl rfl (Nat.le_of_ble_eq_true rfl) ⟨⟨Nat.le_of_ble_eq_true rfl, Nat.le_of_ble_eq_true rfl⟩, ⟨Nat.le_of_ble_eq_true rfl, Nat.le_of_ble_eq_true rfl⟩⟩ ⟨rfl, rfl⟩ (w_mix G) (fun v h2 hq => ?_)
    obtain ⟨rfl, rfl⟩ := hq
    refine aw_lstore_n (ls2 := [_, _, _, _, _, _]) dX10_digestOfAll_90 (by decide) rfl rfl ?_
    refine aw_lload_n dX10_digestOfAll_91 rfl ?_
    refine aw_aload_n dX10_digestOfAll_92 rfl ?_
    refine aw_getR dX10_digestOfAll_93 f10_71 rfl ⟨Nat.le_of_ble_eq_true rfl, Nat.le_of_ble_eq_true rfl⟩ rfl rfl ?_
    refine aw_getI dX10_digestOfAll_96 f10_196 rfl ⟨Nat.le_of_ble_eq_true rfl, Nat.le_of_ble_eq_true rfl⟩ rfl ?_
    refine aw_top hPl.2.1 ?_
    refine aw_i2l dX10_digestOfAll_99 ?_
    refine aw_S0c (As := [_, _]) dX10_digestOfAll_100 k10_304 rfl rfl (Nat.le_of_ble_eq_true rfl) ⟨⟨Nat.le_of_ble_eq_true rfl, Nat.le_of_ble_eq_true rfl⟩, ⟨Nat.le_of_ble_eq_true rfl, Nat.le_of_ble_eq_true rfl⟩⟩ ⟨rfl, rfl⟩ (w_mix G) (fun v h2 hq => ?_)
    obtain ⟨rfl, rfl⟩ := hq
    refine aw_lstore_n (ls2 := [_, _, _, _, _, _]) dX10_digestOfAll_103 (by decide) rfl rfl ?_
    refine aw_lload_n dX10_digestOfAll_104 rfl ?_
    refine aw_aload_n dX10_digestOfAll_105 rfl ?_
    refine aw_getR dX10_digestOfAll_106 f10_71 rfl ⟨Nat.le_of_ble_eq_true rfl, Nat.le_of_ble_eq_true rfl⟩ rfl rfl ?_
    refine aw_getI dX10_digestOfAll_109 f10_190 rfl ⟨Nat.le_of_ble_eq_true rfl, Nat.le_of_ble_eq_true rfl⟩ rfl ?_
    refine aw_top hPl.2.2 ?_
    refine aw_i2l dX10_digestOfAll_112 ?_
    refine aw_S0c (As := [_, _]) dX10_digestOfAll_113 k10_304 rfl rfl (Nat.le_of_ble_eq_true rfl) ⟨⟨Nat.le_of_ble_eq_true rfl, Nat.le_of_ble_eq_true rfl⟩, ⟨Nat.le_of_ble_eq_true rfl, Nat.le_of_ble_eq_true rfl⟩⟩ ⟨rfl, rfl⟩ (w_mix G) (fun v h2 hq => ?_)
    obtain ⟨rfl, rfl⟩ := hq
    refine aw_lstore_n (ls2 := [_, _, _, _, _, _]) dX10_digestOfAll_116 (by decide) rfl rfl ?_
    refine aw_aload_n dX10_digestOfAll_117 rfl ?_
    refine aw_getR dX10_digestOfAll_118 f10_71 rfl ⟨Nat.le_of_ble_eq_true rfl, Nat.le_of_ble_eq_true rfl⟩ rfl rfl ?_
    refine aw_aload_n dX10_digestOfAll_121 rfl ?_
    refine aw_getR dX10_digestOfAll_122 f10_18 rfl ⟨Nat.le_of_ble_eq_true rfl, Nat.le_of_ble_eq_true rfl⟩ rfl rfl ?_
    refine aw_V0c (As := [_]) dX10_digestOfAll_125 k10_202 rfl rfl rfl ⟨Nat.le_of_ble_eq_true rfl, Nat.le_of_ble_eq_true rfl⟩ (Nat.le_of_ble_eq_true rfl) ⟨⟨Nat.le_of_ble_eq_true rfl, Nat.le_of_ble_eq_true rfl⟩, ⟨Nat.le_of_ble_eq_true rfl, Nat.le_of_ble_eq_true rfl⟩⟩ ⟨rfl, rfl⟩ (w_flatten G hF hD2 hW hkk) (fun v h2 hq => ?_)
    obtain ⟨rfl, I3, rfl, ⟨t4, s4, hD3⟩, hPv⟩ := hq
    rw [← hV] at hPv
    refine aw_lload_n dX10_digestOfAll_128 rfl ?_
    refine aw_aload_n dX10_digestOfAll_129 rfl ?_
    refine aw_getR dX10_digestOfAll_130 f10_71 rfl ⟨Nat.le_of_ble_eq_true rfl, Nat.le_of_ble_eq_true rfl⟩ rfl rfl ?_
    refine aw_getI dX10_digestOfAll_133 f10_193 rfl ⟨Nat.le_of_ble_eq_true rfl, Nat.le_of_ble_eq_true rfl⟩ rfl ?_
    refine aw_top hPv.1 ?_
    refine aw_i2l dX10_digestOfAll_136 ?_
    refine aw_S0c (As := [_, _]) dX10_digestOfAll_137 k10_304 rfl rfl (Nat.le_of_ble_eq_true rfl) ⟨⟨Nat.le_of_ble_eq_true rfl, Nat.le_of_ble_eq_true rfl⟩, ⟨Nat.le_of_ble_eq_true rfl, Nat.le_of_ble_eq_true rfl⟩⟩ ⟨rfl, rfl⟩ (w_mix G) (fun v h2 hq => ?_)
    obtain ⟨rfl, rfl⟩ := hq
    refine aw_lstore_n (ls2 := [_, _, _, _, _, _]) dX10_digestOfAll_140 (by decide) rfl rfl ?_
    refine aw_lload_n dX10_digestOfAll_141 rfl ?_
    refine aw_aload_n dX10_digestOfAll_142 rfl ?_
    refine aw_getR dX10_digestOfAll_143 f10_71 rfl ⟨Nat.le_of_ble_eq_true rfl, Nat.le_of_ble_eq_true rfl⟩ rfl rfl ?_
    refine aw_getI dX10_digestOfAll_146 f10_190 rfl ⟨Nat.le_of_ble_eq_true rfl, Nat.le_of_ble_eq_true rfl⟩ rfl ?_
    refine aw_top hPv.2.2 ?_
    refine aw_i2l dX10_digestOfAll_149 ?_
    refine aw_S0c (As := [_, _]) dX10_digestOfAll_150 k10_304 rfl rfl (Nat.le_of_ble_eq_true rfl) ⟨⟨Nat.le_of_ble_eq_true rfl, Nat.le_of_ble_eq_true rfl⟩, ⟨Nat.le_of_ble_eq_true rfl, Nat.le_of_ble_eq_true rfl⟩⟩ ⟨rfl, rfl⟩ (w_mix G) (fun v h2 hq => ?_)
    obtain ⟨rfl, rfl⟩ := hq
    refine aw_lstore_n (ls2 := [_, _, _, _, _, _]) dX10_digestOfAll_153 (by decide) rfl rfl ?_
    refine aw_lload_n dX10_digestOfAll_154 rfl ?_
    refine aw_aload_n dX10_digestOfAll_155 rfl ?_
    refine aw_getR dX10_digestOfAll_156 f10_78 rfl ⟨Nat.le_of_ble_eq_true rfl, Nat.le_of_ble_eq_true rfl⟩ rfl rfl ?_
    refine aw_V0c (As := []) dX10_digestOfAll_159 k10_210 rfl rfl rfl ⟨Nat.le_of_ble_eq_true rfl, Nat.le_of_ble_eq_true rfl⟩ (Nat.le_of_ble_eq_true rfl) ⟨⟨Nat.le_of_ble_eq_true rfl, Nat.le_of_ble_eq_true rfl⟩, ⟨Nat.le_of_ble_eq_true rfl, Nat.le_of_ble_eq_true rfl⟩⟩ ⟨rfl, rfl⟩ (w_never G hF hG hD3) (fun v h2 hq => ?_)
    obtain ⟨rfl, I4, rfl, t5, s5, hD4⟩ := hq
    refine aw_i2l dX10_digestOfAll_162 ?_
    refine aw_S0c (As := [_, _]) dX10_digestOfAll_163 k10_304 rfl rfl (Nat.le_of_ble_eq_true rfl) ⟨⟨Nat.le_of_ble_eq_true rfl, Nat.le_of_ble_eq_true rfl⟩, ⟨Nat.le_of_ble_eq_true rfl, Nat.le_of_ble_eq_true rfl⟩⟩ ⟨rfl, rfl⟩ (w_mix G) (fun v h2 hq => ?_)
    obtain ⟨rfl, rfl⟩ := hq
    refine aw_lstore_n (ls2 := [_, _, _, _, _, _]) dX10_digestOfAll_166 (by decide) rfl rfl ?_
    refine aw_lload_n dX10_digestOfAll_167 rfl ?_
    refine aw_aload_n dX10_digestOfAll_168 rfl ?_
    refine aw_getR dX10_digestOfAll_169 f10_85 rfl ⟨Nat.le_of_ble_eq_true rfl, Nat.le_of_ble_eq_true rfl⟩ rfl rfl ?_
    refine aw_bipush (v := 7) dX10_digestOfAll_172 (by decide) ?_
    refine aw_iconst (v := 2) dX10_digestOfAll_174 rfl ?_
    refine aw_V0c (As := [_, _]) dX10_digestOfAll_175 k10_246 rfl rfl rfl ⟨Nat.le_of_ble_eq_true rfl, Nat.le_of_ble_eq_true rfl⟩ (Nat.le_of_ble_eq_true rfl) ⟨⟨Nat.le_of_ble_eq_true rfl, Nat.le_of_ble_eq_true rfl⟩, ⟨Nat.le_of_ble_eq_true rfl, Nat.le_of_ble_eq_true rfl⟩⟩ ⟨rfl, rfl⟩ (w_drawn G hF hD4 (sd := 7) (a := 2) (by decide)) (fun v h2 hq => ?_)
    obtain ⟨rfl, I5, rfl, t6, s6, hD5⟩ := hq
    refine aw_i2l dX10_digestOfAll_178 ?_
    refine aw_S0c (As := [_, _]) dX10_digestOfAll_179 k10_304 rfl rfl (Nat.le_of_ble_eq_true rfl) ⟨⟨Nat.le_of_ble_eq_true rfl, Nat.le_of_ble_eq_true rfl⟩, ⟨Nat.le_of_ble_eq_true rfl, Nat.le_of_ble_eq_true rfl⟩⟩ ⟨rfl, rfl⟩ (w_mix G) (fun v h2 hq => ?_)
    obtain ⟨rfl, rfl⟩ := hq
    refine aw_lstore_n (ls2 := [_, _, _, _, _, _]) dX10_digestOfAll_182 (by decide) rfl rfl ?_
    refine aw_lload_n dX10_digestOfAll_183 rfl ?_
    refine aw_aload_n dX10_digestOfAll_184 rfl ?_
    refine aw_getR dX10_digestOfAll_185 f10_85 rfl ⟨Nat.le_of_ble_eq_true rfl, Nat.le_of_ble_eq_true rfl⟩ rfl rfl ?_
    refine aw_bipush (v := 7) dX10_digestOfAll_188 (by decide) ?_
    refine aw_iconst (v := 4) dX10_digestOfAll_190 rfl ?_
    refine aw_V0c (As := [_, _]) dX10_digestOfAll_191 k10_246 rfl rfl rfl ⟨Nat.le_of_ble_eq_true rfl, Nat.le_of_ble_eq_true rfl⟩ (Nat.le_of_ble_eq_true rfl) ⟨⟨Nat.le_of_ble_eq_true rfl, Nat.le_of_ble_eq_true rfl⟩, ⟨Nat.le_of_ble_eq_true rfl, Nat.le_of_ble_eq_true rfl⟩⟩ ⟨rfl, rfl⟩ (w_drawn G hF hD5 (sd := 7) (a := 4) (by decide)) (fun v h2 hq => ?_)
    obtain ⟨rfl, I6, rfl, t7, s7, hD6⟩ := hq
    refine aw_i2l dX10_digestOfAll_194 ?_
    refine aw_S0c (As := [_, _]) dX10_digestOfAll_195 k10_304 rfl rfl (Nat.le_of_ble_eq_true rfl) ⟨⟨Nat.le_of_ble_eq_true rfl, Nat.le_of_ble_eq_true rfl⟩, ⟨Nat.le_of_ble_eq_true rfl, Nat.le_of_ble_eq_true rfl⟩⟩ ⟨rfl, rfl⟩ (w_mix G) (fun v h2 hq => ?_)
    obtain ⟨rfl, rfl⟩ := hq
    refine aw_retl dX10_digestOfAll_198 rfl ⟨Nat.le_of_ble_eq_true rfl, Nat.le_of_ble_eq_true rfl⟩ ?_
    exact ⟨rfl, _, _, _, rfl, hI.dy hD6, hD6.fr⟩
  · refine aw_iload dX10_digestOfAll_5 rfl ?_
    refine aw_iconst (v := 5) dX10_digestOfAll_7 rfl ?_
    refine aw_ic_gt_n (a := i + 2) (b := 5) (tgt := 32) dX10_digestOfAll_8 (by decide) (by omega) (by omega) (fun z => absurd z (by omega)) (fun c8 => ?_)
    refine aw_lload_n dX10_digestOfAll_11 rfl ?_
    refine aw_aload_n dX10_digestOfAll_12 rfl ?_
    refine aw_getR dX10_digestOfAll_13 f10_58 rfl ⟨Nat.le_of_ble_eq_true rfl, Nat.le_of_ble_eq_true rfl⟩ rfl rfl ?_
    refine aw_iload dX10_digestOfAll_16 rfl ?_
    refine aw_V0c (As := [_]) dX10_digestOfAll_18 k10_171 rfl rfl rfl ⟨Nat.le_of_ble_eq_true rfl, Nat.le_of_ble_eq_true rfl⟩ (Nat.le_of_ble_eq_true rfl) ⟨⟨Nat.le_of_ble_eq_true rfl, Nat.le_of_ble_eq_true rfl⟩, ⟨Nat.le_of_ble_eq_true rfl, Nat.le_of_ble_eq_true rfl⟩⟩ ⟨rfl, rfl⟩ (w_whoIs22 G hR (a := i + 2) (by omega) (by rw [hS0]; exact h8) (fun k hk => by rw [hS0] at hk; have := (hbd.2 k hk).1; omega)) (fun v h2 hq => ?_)
    obtain ⟨rfl, rfl⟩ := hq
    have hw : z_who (fun k => p_play s0 t u x 6 k == i + 2) (p_play s0 t u x 0 0) = o_who x u t (i + 2) := by
      rw [hS0]; exact z_who_congr (fun j hj => by rw [(hsm.1 j hj).1])
    rw [hw]
    refine aw_i2l dX10_digestOfAll_21 ?_
    refine aw_S0c (As := [_, _]) dX10_digestOfAll_22 k10_304 rfl rfl (Nat.le_of_ble_eq_true rfl) ⟨⟨Nat.le_of_ble_eq_true rfl, Nat.le_of_ble_eq_true rfl⟩, ⟨Nat.le_of_ble_eq_true rfl, Nat.le_of_ble_eq_true rfl⟩⟩ ⟨rfl, rfl⟩ (w_mix G) (fun v h2 hq => ?_)
    obtain ⟨rfl, rfl⟩ := hq
    refine aw_lstore_n (ls2 := [_, _, _, _, _, _]) dX10_digestOfAll_25 (by decide) rfl rfl ?_
    refine aw_iinc_n (ls2 := [_, _, _, _, _, _]) dX10_digestOfAll_26 rfl (by decide) rfl rfl ?_
    refine aw_goto (tgt := 5) dX10_digestOfAll_29 (by decide) ?_
    exact ih
theorem c_digest (G : aw_G) {n c : Nat} {I : Nat → Nat → Int32} {L : Nat → Nat → Int64} {b0 b1 : Nat → Nat} {l0 l1 : Nat} {t u x y V g : Nat → Nat → Nat} {kk : Nat} {F S : Nat → Nat} {E : Nat → Nat → Int32} {fd : Int32} (hX : zTx b0 b1 l0 l1 t u x y V kk) (hI : zCI b0 b1 l0 l1 t u x y g F S E fd I)  : aw_Met G mX10_digest [.ref 3] (zH n I L c) (fun v h2 => v = some (.long (dDi x u t y V g kk l0 l1 b0 b1 fd)) ∧ ∃ I2 L2 c2, h2 = zH n I2 L2 c2 ∧ zCI b0 b1 l0 l1 t u x y g F S E fd I2 ∧ ∀ o, 81 ≤ o → I2 o = I o) := by
  obtain ⟨hW, hC, hF, ⟨s0, hO, hR⟩, ⟨t2, s2, hD⟩, hG, hS, hfd⟩ := id hI
  obtain ⟨hP, h60, h61, htc, hV, hkk, hx, hy⟩ := id hX
  have h8 := hP.1.1
  have hk10 : kk ≤ 10 := by rw [hkk]; exact q_k_leW hW.1.2.2.2.2
  have hi6 : I 6 5 = nI (t 6 0) := by rw [h60]; exact hC.2.2
  have hi4 : I 4 5 = nI kk := by rw [hkk]; exact hW.2.2
  have hVo : f_Vok V kk := by rw [hV, hkk]; exact v_w_ok
  have hsm := zSame hP hO.1
  have hbd := zBd (m := z0) (u := u) hP.1 hP.2.2.2.1 hP.2.2.2.2.1 hP.2.2.2.2.2 hO.1
  have hS0 : p_play s0 t u x 0 0 = t 6 0 := hbd.1.1
  refine aw_Met.of okX10_digest (Nat.le_of_ble_eq_true rfl) ?_
  show aw_W G mX10_digest 0 [.ref 3, aw_x, aw_x, aw_x] [] (zH n I L c) (0, 0) _
  refine aw_aload_n dX10_digest_0 rfl ?_
  refine aw_ldc2 dX10_digest_1 co10_285 ?_
  refine aw_V0c (As := [_]) dX10_digest_4 k10_287 rfl rfl rfl ⟨Nat.le_of_ble_eq_true rfl, Nat.le_of_ble_eq_true rfl⟩ (Nat.le_of_ble_eq_true rfl) ⟨⟨Nat.le_of_ble_eq_true rfl, Nat.le_of_ble_eq_true rfl⟩, ⟨Nat.le_of_ble_eq_true rfl, Nat.le_of_ble_eq_true rfl⟩⟩ ⟨rfl, rfl⟩ (c_dTexts G hX hI) (fun v h2 hq => ?_)
  obtain ⟨rfl, I2, L2, c2, rfl, hI2, hFr2⟩ := hq
  obtain ⟨-, -, hF2, -, ⟨t3, s3, hD3⟩, -⟩ := id hI2
  obtain ⟨h0, hh0⟩ : ∃ h0, h0 = dTe x u t y V g kk l0 l1 b0 b1 fd 17 := ⟨_, rfl⟩
  rw [← hh0]
  refine aw_lstore_n (ls2 := [_, _, _, _]) dX10_digest_7 (by decide) rfl rfl ?_
  refine aw_aload_n dX10_digest_8 rfl ?_
  refine aw_getR dX10_digest_9 f10_85 rfl ⟨Nat.le_of_ble_eq_true rfl, Nat.le_of_ble_eq_true rfl⟩ rfl rfl ?_
  refine aw_iconst (v := 5) dX10_digest_12 rfl ?_
  refine aw_V0c (As := [_]) dX10_digest_13 k10_233 rfl rfl rfl ⟨Nat.le_of_ble_eq_true rfl, Nat.le_of_ble_eq_true rfl⟩ (Nat.le_of_ble_eq_true rfl) ⟨⟨Nat.le_of_ble_eq_true rfl, Nat.le_of_ble_eq_true rfl⟩, ⟨Nat.le_of_ble_eq_true rfl, Nat.le_of_ble_eq_true rfl⟩⟩ ⟨rfl, rfl⟩ (w_cWeigh G hF2 hD3 (c := 5) (by decide)) (fun v h2 hq => ?_)
  obtain ⟨rfl, I4, L4, rfl, ⟨t5, s5, hD4⟩, hWt, hA4, -⟩ := hq
  refine aw_iconst (v := 0) dX10_digest_16 rfl ?_
  refine aw_istore_n (ls2 := [_, _, _, _]) dX10_digest_17 (by decide) rfl rfl ?_
  refine aw_up (X := fun k => ∀ I3 L3 c3, (zCI b0 b1 l0 l1 t u x y g F S E fd I3 ∧ (∀ o, 81 ≤ o → I3 o = I o) ∧ (∀ k, k < 8 → L3 71 k = lN (if k < t 6 0 then z_sum (z_wf x u t 5 k) (2 ^ u 2 0) else 0)) ∧ L3 70 4 = lN (16 ^ u 2 0)) → aw_W G mX10_digest 18 [.ref 3, .long ((zg (fun k h => dTr x u t g k (dHr x u t k h)) h0 k)), aw_x, .int (nI k)] [] (zH n I3 L3 c3) (0, 0) _) (Nat.zero_le (t 6 0)) (fun I3 L3 c3 hh => ?_) (fun k _ hk ih I3 L3 c3 hh => ?_) _ _ _ ⟨hI2.dy hD4, fun o ho => by rw [hD4.fr o ho]; exact hFr2 o ho, hWt, hA4⟩
  · obtain ⟨hI3, hFr, hWt, hA4⟩ := hh
    have hi63 : I3 6 5 = nI (t 6 0) := by rw [h60]; exact hI3.2.1.2.2
    refine aw_iload_n dX10_digest_18 rfl ?_
    refine aw_aload_n dX10_digest_19 rfl ?_
    refine aw_getR dX10_digest_20 f10_25 rfl ⟨Nat.le_of_ble_eq_true rfl, Nat.le_of_ble_eq_true rfl⟩ rfl rfl ?_
    refine aw_getI dX10_digest_23 f10_128 rfl ⟨Nat.le_of_ble_eq_true rfl, Nat.le_of_ble_eq_true rfl⟩ rfl ?_
    refine aw_top hi63 ?_
    refine aw_ic_ge_n (a := t 6 0) (b := t 6 0) (tgt := 49) dX10_digest_26 (by decide) (by omega) (by omega) (fun c26 => ?_) (fun z => absurd z (by omega))
    refine aw_aload_n dX10_digest_49 rfl ?_
    refine aw_lload_n dX10_digest_50 rfl ?_
    refine aw_V0c (As := [_]) dX10_digest_51 k10_298 rfl rfl rfl ⟨Nat.le_of_ble_eq_true rfl, Nat.le_of_ble_eq_true rfl⟩ (Nat.le_of_ble_eq_true rfl) ⟨⟨Nat.le_of_ble_eq_true rfl, Nat.le_of_ble_eq_true rfl⟩, ⟨Nat.le_of_ble_eq_true rfl, Nat.le_of_ble_eq_true rfl⟩⟩ ⟨rfl, rfl⟩ (c_dAll G hX hI3) (fun v h2 hq => ?_)
    obtain ⟨rfl, I4, L4, c4, rfl, hI4, hFr4⟩ := hq
    refine aw_retl dX10_digest_54 rfl ⟨Nat.le_of_ble_eq_true rfl, Nat.le_of_ble_eq_true rfl⟩ ?_
    exact ⟨by rw [hh0]; rfl, _, _, _, rfl, hI4, fun o ho => by rw [hFr4 o ho]; exact hFr o ho⟩
  · obtain ⟨hI3, hFr, hWt, hA4⟩ := hh
    have hi63 : I3 6 5 = nI (t 6 0) := by rw [h60]; exact hI3.2.1.2.2
    refine aw_iload_n dX10_digest_18 rfl ?_
    refine aw_aload_n dX10_digest_19 rfl ?_
    refine aw_getR dX10_digest_20 f10_25 rfl ⟨Nat.le_of_ble_eq_true rfl, Nat.le_of_ble_eq_true rfl⟩ rfl rfl ?_
    refine aw_getI dX10_digest_23 f10_128 rfl ⟨Nat.le_of_ble_eq_true rfl, Nat.le_of_ble_eq_true rfl⟩ rfl ?_
    refine aw_top hi63 ?_
    refine aw_ic_ge_n (a := k) (b := t 6 0) (tgt := 49) dX10_digest_26 (by decide) (by omega) (by omega) (fun z => absurd z (by omega)) (fun c26 => ?_)
    refine aw_aload_n dX10_digest_29 rfl ?_
    refine aw_lload_n dX10_digest_30 rfl ?_
    refine aw_iload_n dX10_digest_31 rfl ?_
    refine aw_V0c (As := [_, _]) dX10_digest_32 k10_291 rfl rfl rfl ⟨Nat.le_of_ble_eq_true rfl, Nat.le_of_ble_eq_true rfl⟩ (Nat.le_of_ble_eq_true rfl) ⟨⟨Nat.le_of_ble_eq_true rfl, Nat.le_of_ble_eq_true rfl⟩, ⟨Nat.le_of_ble_eq_true rfl, Nat.le_of_ble_eq_true rfl⟩⟩ ⟨rfl, rfl⟩ (c_dHours G hX hI3 hk) (fun v h2 hq => ?_)
    obtain ⟨rfl, rfl⟩ := hq
    refine aw_lstore_n (ls2 := [_, _, _, _]) dX10_digest_35 (by decide) rfl rfl ?_
    refine aw_aload_n dX10_digest_36 rfl ?_
    refine aw_lload_n dX10_digest_37 rfl ?_
    refine aw_iload_n dX10_digest_38 rfl ?_
    refine aw_V0c (As := [_, _]) dX10_digest_39 k10_295 rfl rfl rfl ⟨Nat.le_of_ble_eq_true rfl, Nat.le_of_ble_eq_true rfl⟩ (Nat.le_of_ble_eq_true rfl) ⟨⟨Nat.le_of_ble_eq_true rfl, Nat.le_of_ble_eq_true rfl⟩, ⟨Nat.le_of_ble_eq_true rfl, Nat.le_of_ble_eq_true rfl⟩⟩ ⟨rfl, rfl⟩ (c_dTrials G hX hI3 hk hWt hA4) (fun v h2 hq => ?_)
    obtain ⟨rfl, I4, L4, c4, rfl, hI4, hFr4, hL71, hL70⟩ := hq
    refine aw_lstore_n (ls2 := [_, _, _, _]) dX10_digest_42 (by decide) rfl rfl ?_
    refine aw_iinc_n (ls2 := [_, _, _, _]) dX10_digest_43 rfl (by decide) rfl rfl ?_
    refine aw_goto (tgt := 18) dX10_digest_46 (by decide) ?_
    exact ih _ _ _ ⟨hI4, fun o ho => by rw [hFr4 o ho]; exact hFr o ho, fun k hk => by rw [hL71]; exact hWt k hk, by rw [hL70]; exact hA4⟩
