/-! CHANCES of the class -/
def z_wt (c w : Nat) : Nat → Nat
  | 0 => 1
  | a + 1 => z_wt c w a * (if w.testBit a = true then 16 - c else c)
theorem z_wt_le {c w a : Nat} (hc : c ≤ 16) : z_wt c w a ≤ 16 ^ a := by
  induction a with
  | zero => exact Nat.le_refl _
  | succ a ih =>
    rw [z_wt, Nat.pow_succ]
    refine Nat.mul_le_mul ih ?_
    split <;> omega
def z_wf (x u t : Nat → Nat → Nat) (c k w : Nat) : Nat := if o_st x u (aw_u t 6 1 w) k = 2 then z_wt c w (u 2 0) else 0
def zWe (W : Nat → Nat) (L : Nat → Nat → Int64) : Prop := ∀ k, k < 8 → L 71 k = lN (W k)
/-- of the longs only those of the chances have changed -/
def zFl (L0 L : Nat → Nat → Int64) : Prop := ∀ o, o ≠ 70 → o ≠ 71 → L o = L0 o
theorem pow16_le {a : Nat} (h : a ≤ 8) : 16 ^ a ≤ 4294967296 := Nat.pow_le_pow_right (show 0 < 16 by decide) h
theorem zi_16 {a : Nat} (h : a ≤ 8) : (1 : Int64) <<< ((nI (4 * a)).toInt64 &&& 63) = lN (16 ^ a) := by
  have h' : a = 0 ∨ a = 1 ∨ a = 2 ∨ a = 3 ∨ a = 4 ∨ a = 5 ∨ a = 6 ∨ a = 7 ∨ a = 8 := by omega
  rcases h' with rfl | rfl | rfl | rfl | rfl | rfl | rfl | rfl | rfl <;> decide +kernel
/-- fractions: what is left when all that can be halved is halved -/
theorem z_gcd {A B a b g : Nat} (hA : A = a * g) (hB : B = b * g) (hg : 0 < g) (h1 : Nat.gcd a b = 1) : A / Nat.gcd A B = a ∧ B / Nat.gcd A B = b := by
  have : Nat.gcd A B = g := by rw [hA, hB, Nat.gcd_mul_right, h1, Nat.one_mul]
  rw [this, hA, hB, Nat.mul_div_cancel _ hg, Nat.mul_div_cancel _ hg]
  exact ⟨rfl, rfl⟩
theorem z_odd {a j : Nat} (h : ¬ a % 2 = 0) : Nat.gcd a (2 ^ j) = 1 := by
  have h2 : Nat.Coprime a 2 := by
    have : Nat.gcd a 2 = Nat.gcd 2 a := Nat.gcd_comm _ _
    show Nat.gcd a 2 = 1
    rw [this, Nat.gcd_rec, show a % 2 = 1 by omega]; rfl
  exact Nat.Coprime.pow_right j h2
/-- lots -/
def z_seed (s : Int32) : Nat → Int32
  | 0 => s
  | i + 1 => 1103515245 * z_seed s i + 12345
def z_lot (x : Int32) : Nat := (x.toBitVec.toNat / 65536) % 100
def t_dr (t : Nat → Nat → Nat) (s : Int32) : Nat → Nat → Nat → Nat
  | 0 => t
  | i + 1 => aw_u (t_dr t s i) 3 i (z_lot (z_seed s (i + 1)))
theorem z_ush (x : Int32) : (x.toUInt32 >>> ((16 : Int32).toUInt32 &&& Int32.toUInt32 31)).toInt32 = nI (x.toBitVec.toNat / 65536) := by
  have h := pk_ushr x 16 16 (by decide)
  rw [zi_ex (x.toUInt32 >>> ((16 : Int32).toUInt32 &&& Int32.toUInt32 31)).toInt32, h]
theorem w_weightOf (G : aw_G) {n c0 : Nat} {I : Nat → Nat → Int32} {L : Nat → Nat → Int64} {u : Nat → Nat → Nat} (hU : zAn u I) (hu : u 2 0 ≤ 8) {w c : Nat} (hw : w < 100000) (hc : c ≤ 16) : aw_Met G mX1_weightOf [.ref 70, .int (nI w), .int (nI c)] (zH n I L c0) (fun v h2 => v = some (.long (lN (z_wt c w (u 2 0)))) ∧ h2 = zH n I L c0) := by
  refine aw_Met.of okX1_weightOf (Nat.le_of_ble_eq_true rfl) ?_
  show aw_W G mX1_weightOf 0 [.ref 70, .int (nI w), .int (nI c), aw_x, aw_x, aw_x] [] (zH n I L c0) (0, 0) _
  refine aw_lconst (v := 1) dX1_weightOf_0 rfl ?_
  refine aw_lstore_n (ls2 := [_, _, _, _, _, _]) dX1_weightOf_1 (by decide) rfl rfl ?_
  refine aw_iconst (v := 0) dX1_weightOf_2 rfl ?_
  refine aw_istore (ls2 := [_, _, _, _, _, _]) dX1_weightOf_3 (by decide) rfl rfl ?_
  refine aw_up (X := fun a => aw_W G mX1_weightOf 5 [.ref 70, .int (nI w), .int (nI c), .long (lN (z_wt c w a)), aw_x, .int (nI a)] [] (zH n I L c0) (0, 0) _) (Nat.zero_le (u 2 0)) ?_ (fun a _ ha ih => ?_)
  · refine aw_iload dX1_weightOf_5 rfl ?_
    refine aw_aload_n dX1_weightOf_7 rfl ?_
    refine aw_getR dX1_weightOf_8 f1_25 rfl ⟨Nat.le_of_ble_eq_true rfl, Nat.le_of_ble_eq_true rfl⟩ rfl rfl ?_
    refine aw_getR dX1_weightOf_11 f1_42 rfl ⟨Nat.le_of_ble_eq_true rfl, Nat.le_of_ble_eq_true rfl⟩ rfl rfl ?_
    refine aw_getI dX1_weightOf_14 f1_46 rfl ⟨Nat.le_of_ble_eq_true rfl, Nat.le_of_ble_eq_true rfl⟩ rfl ?_
    refine aw_top hU.1 ?_
    refine aw_ic_ge_n (a := u 2 0) (b := u 2 0) (tgt := 49) dX1_weightOf_17 (by decide) (by omega) (by omega) (fun c17 => ?_) (fun z => absurd z (by omega))
    refine aw_lload_n dX1_weightOf_49 rfl ?_
    refine aw_retl dX1_weightOf_50 rfl ⟨Nat.le_of_ble_eq_true rfl, Nat.le_of_ble_eq_true rfl⟩ ?_
    exact ⟨rfl, rfl⟩
  · refine aw_iload dX1_weightOf_5 rfl ?_
    refine aw_aload_n dX1_weightOf_7 rfl ?_
    refine aw_getR dX1_weightOf_8 f1_25 rfl ⟨Nat.le_of_ble_eq_true rfl, Nat.le_of_ble_eq_true rfl⟩ rfl rfl ?_
    refine aw_getR dX1_weightOf_11 f1_42 rfl ⟨Nat.le_of_ble_eq_true rfl, Nat.le_of_ble_eq_true rfl⟩ rfl rfl ?_
    refine aw_getI dX1_weightOf_14 f1_46 rfl ⟨Nat.le_of_ble_eq_true rfl, Nat.le_of_ble_eq_true rfl⟩ rfl ?_
    refine aw_top hU.1 ?_
    refine aw_ic_ge_n (a := a) (b := u 2 0) (tgt := 49) dX1_weightOf_17 (by decide) (by omega) (by omega) (fun z => absurd z (by omega)) (fun c17 => ?_)
    refine aw_lload_n dX1_weightOf_20 rfl ?_
    refine aw_iload_n dX1_weightOf_21 rfl ?_
    refine aw_iload dX1_weightOf_22 rfl ?_
    refine aw_ishr dX1_weightOf_24 ?_
    refine aw_iconst (v := 1) dX1_weightOf_25 rfl ?_
    refine aw_iand dX1_weightOf_26 ?_
    refine aw_top ((zi_bit1 (by omega) (by omega)).trans (show _ = (if w.testBit a = true then (1 : Int32) else 0) by split <;> rfl)) ?_
    refine aw_iconst (v := 1) dX1_weightOf_27 rfl ?_
    refine aw_ic_ne (tgt := 39) dX1_weightOf_28 (by decide) (fun c28 => ?_) (fun c28 => ?_)
    · have hbit : ¬ w.testBit a = true := fun z => by
        rw [if_pos z] at c28; exact c28 rfl
      refine aw_iload_n dX1_weightOf_39 rfl ?_
      refine aw_i2l_n (a := c) dX1_weightOf_40 (by omega) ?_
      refine aw_lmul_n (a := z_wt c w a) (b := c) dX1_weightOf_41 ?_
      refine aw_lstore_n (ls2 := [_, _, _, _, _, _]) dX1_weightOf_42 (by decide) rfl rfl ?_
      refine aw_iinc_n (ls2 := [_, _, _, _, _, _]) dX1_weightOf_43 rfl (by decide) rfl rfl ?_
      refine aw_goto (tgt := 5) dX1_weightOf_46 (by decide) ?_
      have e : z_wt c w (a + 1) = z_wt c w a * c := by rw [z_wt, if_neg hbit]
      rw [e] at ih
      exact ih
    · have hbit : w.testBit a = true := by
        by_cases z : w.testBit a = true
        · exact z
        · rw [if_neg z] at c28; exact absurd c28 (by decide)
      refine aw_bipush (v := 16) dX1_weightOf_31 (by decide) ?_
      refine aw_iload_n dX1_weightOf_33 rfl ?_
      refine aw_isub_n (a := 16) (b := c) dX1_weightOf_34 (by omega) ?_
      refine aw_i2l_n (a := 16 - c) dX1_weightOf_35 (by omega) ?_
      refine aw_goto (tgt := 41) dX1_weightOf_36 (by decide) ?_
      refine aw_lmul_n (a := z_wt c w a) (b := 16 - c) dX1_weightOf_41 ?_
      refine aw_lstore_n (ls2 := [_, _, _, _, _, _]) dX1_weightOf_42 (by decide) rfl rfl ?_
      refine aw_iinc_n (ls2 := [_, _, _, _, _, _]) dX1_weightOf_43 rfl (by decide) rfl rfl ?_
      refine aw_goto (tgt := 5) dX1_weightOf_46 (by decide) ?_
      have e : z_wt c w (a + 1) = z_wt c w a * (16 - c) := by rw [z_wt, if_pos hbit]
      rw [e] at ih
      exact ih
theorem w_addWeight (G : aw_G) {n c0 : Nat} {I : Nat → Nat → Int32} {L0 : Nat → Nat → Int64} {W S : Nat → Nat} {N wt : Nat} (hN : I 11 8 = nI N) (hN8 : N ≤ 8) (hS : ∀ k, k < N → I 50 k = nI (S k) ∧ S k < 100000) (hW0 : zWe W L0) : aw_Met G mX1_addWeight [.ref 70, .long (lN wt)] (zH n I L0 c0) (fun v h2 => v = none ∧ ∃ L, h2 = zH n I L c0 ∧ (∀ k, k < 8 → L 71 k = lN (if k < N ∧ S k = 2 then W k + wt else W k)) ∧ zFl L0 L ∧ ∀ j, L 70 j = L0 70 j) := by
  refine aw_Met.of okX1_addWeight (Nat.le_of_ble_eq_true rfl) ?_
  show aw_W G mX1_addWeight 0 [.ref 70, .long (lN wt), aw_x, aw_x] [] (zH n I L0 c0) (0, 0) _
  refine aw_iconst (v := 0) dX1_addWeight_0 rfl ?_
  refine aw_istore_n (ls2 := [_, _, _, _]) dX1_addWeight_1 (by decide) rfl rfl ?_
  refine aw_up (X := fun i => ∀ L, (∀ k, k < 8 → L 71 k = lN (if k < i ∧ S k = 2 then W k + wt else W k)) ∧ zFl L0 L ∧ (∀ j, L 70 j = L0 70 j) → aw_W G mX1_addWeight 2 [.ref 70, .long (lN wt), aw_x, .int (nI i)] [] (zH n I L c0) (0, 0) _) (Nat.zero_le N) (fun L hh => ?_) (fun i _ hi ih L hh => ?_) L0 ⟨fun k hk => by rw [if_neg (by omega)]; exact hW0 k hk, fun _ _ _ => rfl, fun _ => rfl⟩
  · obtain ⟨hW, hFl, h70⟩ := hh
    refine aw_iload_n dX1_addWeight_2 rfl ?_
    refine aw_aload_n dX1_addWeight_3 rfl ?_
    refine aw_getR dX1_addWeight_4 f1_25 rfl ⟨Nat.le_of_ble_eq_true rfl, Nat.le_of_ble_eq_true rfl⟩ rfl rfl ?_
    refine aw_getI dX1_addWeight_7 f1_68 rfl ⟨Nat.le_of_ble_eq_true rfl, Nat.le_of_ble_eq_true rfl⟩ rfl ?_
    refine aw_top hN ?_
    refine aw_ic_ge_n (a := N) (b := N) (tgt := 42) dX1_addWeight_10 (by decide) (by omega) (by omega) (fun c10 => ?_) (fun z => absurd z (by omega))
    refine aw_ret0 dX1_addWeight_42 rfl ⟨Nat.le_of_ble_eq_true rfl, Nat.le_of_ble_eq_true rfl⟩ ?_
    exact ⟨rfl, _, rfl, hW, hFl, h70⟩
  · obtain ⟨hW, hFl, h70⟩ := hh
    have hSi := (hS i (by omega)).2
    have hWi : L 71 i = lN (W i) := by rw [hW i (by omega), if_neg (fun z => by omega)]
    refine aw_iload_n dX1_addWeight_2 rfl ?_
    refine aw_aload_n dX1_addWeight_3 rfl ?_
    refine aw_getR dX1_addWeight_4 f1_25 rfl ⟨Nat.le_of_ble_eq_true rfl, Nat.le_of_ble_eq_true rfl⟩ rfl rfl ?_
    refine aw_getI dX1_addWeight_7 f1_68 rfl ⟨Nat.le_of_ble_eq_true rfl, Nat.le_of_ble_eq_true rfl⟩ rfl ?_
    refine aw_top hN ?_
    refine aw_ic_ge_n (a := i) (b := N) (tgt := 42) dX1_addWeight_10 (by decide) (by omega) (by omega) (fun z => absurd z (by omega)) (fun c10 => ?_)
    refine aw_aload_n dX1_addWeight_13 rfl ?_
    refine aw_getR dX1_addWeight_14 f1_32 rfl ⟨Nat.le_of_ble_eq_true rfl, Nat.le_of_ble_eq_true rfl⟩ rfl rfl ?_
    refine aw_getR dX1_addWeight_17 f1_69 rfl ⟨Nat.le_of_ble_eq_true rfl, Nat.le_of_ble_eq_true rfl⟩ rfl rfl ?_
    refine aw_iload_n dX1_addWeight_20 rfl ?_
    refine aw_iald_n (j := i) dX1_addWeight_21 rfl (Nat.le_of_ble_eq_true rfl) (by decide) (by omega) ?_
    refine aw_top (hS i (by omega)).1 ?_
    refine aw_iconst (v := 2) dX1_addWeight_22 rfl ?_
    refine aw_ic_ne_n (a := S i) (b := 2) (tgt := 36) dX1_addWeight_23 (by decide) (by omega) (by omega) (fun c23 => ?_) (fun c23 => ?_)
    · refine aw_iinc_n (ls2 := [_, _, _, _]) dX1_addWeight_36 rfl (by decide) rfl rfl ?_
      refine aw_goto (tgt := 2) dX1_addWeight_39 (by decide) ?_
      refine ih L ⟨fun k hk => ?_, hFl, h70⟩
      rw [hW k hk]
      by_cases hki : k = i
      · subst hki; rw [if_neg (fun z => c23 z.2), if_neg (fun z => c23 z.2)]
      · by_cases hh2 : k < i ∧ S k = 2
        · rw [if_pos hh2, if_pos ⟨by omega, hh2.2⟩]
        · rw [if_neg hh2, if_neg (fun z => hh2 ⟨by omega, z.2⟩)]
    · refine aw_aload_n dX1_addWeight_26 rfl ?_
      refine aw_getR dX1_addWeight_27 f1_9 rfl ⟨Nat.le_of_ble_eq_true rfl, Nat.le_of_ble_eq_true rfl⟩ rfl rfl ?_
      refine aw_iload_n dX1_addWeight_30 rfl ?_
      refine aw_dup2 dX1_addWeight_31 rfl rfl ?_
      refine aw_lald_n (j := i) dX1_addWeight_32 rfl ⟨Nat.le_of_ble_eq_true rfl, Nat.le_of_ble_eq_true rfl⟩ (by decide) (by omega) ?_
      refine aw_topl hWi ?_
      refine aw_lload_n dX1_addWeight_33 rfl ?_
      refine aw_ladd_n (a := W i) (b := wt) dX1_addWeight_34 ?_
      refine aw_last_n (j := i) dX1_addWeight_35 rfl ⟨Nat.le_of_ble_eq_true rfl, Nat.le_of_ble_eq_true rfl⟩ (by decide) (by omega) ?_
      refine aw_iinc_n (ls2 := [_, _, _, _]) dX1_addWeight_36 rfl (by decide) rfl rfl ?_
      refine aw_goto (tgt := 2) dX1_addWeight_39 (by decide) ?_
      refine ih _ ⟨fun k hk => ?_, fun o h1 h2 => by rw [aw_u_ne h2]; exact hFl o h1 h2, fun j => by rw [aw_u_ne (by decide)]; exact h70 j⟩
      by_cases hki : k = i
      · subst hki; rw [aw_u_eq, if_pos ⟨by omega, c23⟩]
      · rw [aw_u_nj hki, hW k hk]
        by_cases hh2 : k < i ∧ S k = 2
        · rw [if_pos hh2, if_pos ⟨by omega, hh2.2⟩]
        · rw [if_neg hh2, if_neg (fun z => hh2 ⟨by omega, z.2⟩)]
theorem w_cWeigh (G : aw_G) {n c0 : Nat} {I I0 : Nat → Nat → Int32} {L0 : Nat → Nat → Int64} {t u x y t2 s : Nat → Nat → Nat} (hF : zFx t u x y I0) (hD : zDy t2 s I0 I) {c : Nat} (hc : c ≤ 16) : aw_Met G mX1_weigh [.ref 70, .int (nI c)] (zH n I L0 c0) (fun v h2 => v = none ∧ ∃ I2 L2, h2 = zH n I2 L2 12 ∧ (∃ t3 s3, zDy t3 s3 I0 I2) ∧ (∀ k, k < 8 → L2 71 k = lN (if k < t 6 0 then z_sum (z_wf x u t c k) (2 ^ u 2 0) else 0)) ∧ L2 70 4 = lN (16 ^ u 2 0) ∧ zFl L0 L2) := by
  refine aw_Met.of okX1_weigh (Nat.le_of_ble_eq_true rfl) ?_
  show aw_W G mX1_weigh 0 [.ref 70, .int (nI c), aw_x, aw_x, aw_x, aw_x] [] (zH n I L0 c0) (0, 0) _
  refine aw_aload_n dX1_weigh_0 rfl ?_
  refine aw_getR dX1_weigh_1 f1_29 rfl ⟨Nat.le_of_ble_eq_true rfl, Nat.le_of_ble_eq_true rfl⟩ rfl rfl ?_
  refine aw_aload_n dX1_weigh_4 rfl ?_
  refine aw_getR dX1_weigh_5 f1_25 rfl ⟨Nat.le_of_ble_eq_true rfl, Nat.le_of_ble_eq_true rfl⟩ rfl rfl ?_
  refine aw_V0c (As := [_]) dX1_weigh_8 k1_36 rfl rfl rfl ⟨Nat.le_of_ble_eq_true rfl, Nat.le_of_ble_eq_true rfl⟩ (Nat.le_of_ble_eq_true rfl) ⟨⟨Nat.le_of_ble_eq_true rfl, Nat.le_of_ble_eq_true rfl⟩, ⟨Nat.le_of_ble_eq_true rfl, Nat.le_of_ble_eq_true rfl⟩⟩ ⟨rfl, rfl⟩ (w_become G (I0 := I) (hD.fx hF).1 hF.2.1 (zSx.of hD.1) hD.2.1) (fun v h2 hq => ?_)
  obtain ⟨rfl, I2, rfl, t3, hS, hE, hT3⟩ := hq
  have hD3 : zDy t3 s I0 I2 := hD.sx hS hT3 (hF.h40 hE)
  refine aw_aload_n dX1_weigh_11 rfl ?_
  refine aw_lconst (v := 1) dX1_weigh_12 rfl ?_
  refine aw_iconst (v := 4) dX1_weigh_13 rfl ?_
  refine aw_aload_n dX1_weigh_14 rfl ?_
  refine aw_getR dX1_weigh_15 f1_25 rfl ⟨Nat.le_of_ble_eq_true rfl, Nat.le_of_ble_eq_true rfl⟩ rfl rfl ?_
  refine aw_getR dX1_weigh_18 f1_42 rfl ⟨Nat.le_of_ble_eq_true rfl, Nat.le_of_ble_eq_true rfl⟩ rfl rfl ?_
  refine aw_getI dX1_weigh_21 f1_46 rfl ⟨Nat.le_of_ble_eq_true rfl, Nat.le_of_ble_eq_true rfl⟩ rfl ?_
  refine aw_top ((hD3.fx hF).2.2.2.1.1) ?_
  refine aw_imul_n (a := 4) (b := u 2 0) dX1_weigh_24 ?_
  refine aw_lshl dX1_weigh_25 ?_
  refine aw_putL dX1_weigh_26 f1_15 rfl ⟨Nat.le_of_ble_eq_true rfl, Nat.le_of_ble_eq_true rfl⟩ (Or.inl rfl) rfl ?_
  refine aw_iconst (v := 0) dX1_weigh_29 rfl ?_
  refine aw_istore_n (ls2 := [_, _, _, _, _, _]) dX1_weigh_30 (by decide) rfl rfl ?_
  have hu8 := hF.2.2.2.2.1.1
  refine aw_up (X := fun i => ∀ L, (∀ k, k < i → L 71 k = lN 0) ∧ L 70 4 = lN (16 ^ u 2 0) ∧ zFl L0 L → aw_W G mX1_weigh 31 [.ref 70, .int (nI c), .int (nI i), aw_x, aw_x, aw_x] [] (zH n I2 L 12) (0, 0) _) (Nat.zero_le 8) (fun L hh => ?_) (fun i _ hi ih L hh => ?_) _ ⟨fun k hk => absurd hk (by omega), by rw [aw_u_eq]; exact zi_16 hu8, fun o h1 h2 => by rw [aw_u_ne h1]⟩
  · obtain ⟨hW, hA, hFl⟩ := hh
    refine aw_iload_n dX1_weigh_31 rfl ?_
    refine aw_bipush (v := 8) dX1_weigh_32 (by decide) ?_
    refine aw_ic_ge_n (a := 8) (b := 8) (tgt := 50) dX1_weigh_34 (by decide) (by omega) (by omega) (fun c34 => ?_) (fun z => absurd z (by omega))
    refine aw_iconst (v := 1) dX1_weigh_50 rfl ?_
    refine aw_aload_n dX1_weigh_51 rfl ?_
    refine aw_getR dX1_weigh_52 f1_25 rfl ⟨Nat.le_of_ble_eq_true rfl, Nat.le_of_ble_eq_true rfl⟩ rfl rfl ?_
    refine aw_getR dX1_weigh_55 f1_42 rfl ⟨Nat.le_of_ble_eq_true rfl, Nat.le_of_ble_eq_true rfl⟩ rfl rfl ?_
    refine aw_getI dX1_weigh_58 f1_46 rfl ⟨Nat.le_of_ble_eq_true rfl, Nat.le_of_ble_eq_true rfl⟩ rfl ?_
    refine aw_top ((hD3.fx hF).2.2.2.1.1) ?_
    refine aw_ishl dX1_weigh_61 ?_
    refine aw_top (zi_sh1 (u 2 0) (by omega)) ?_
    refine aw_istore_n (ls2 := [_, _, _, _, _, _]) dX1_weigh_62 (by decide) rfl rfl ?_
    refine aw_iconst (v := 0) dX1_weigh_63 rfl ?_
    refine aw_istore_n (ls2 := [_, _, _, _, _, _]) dX1_weigh_64 (by decide) rfl rfl ?_
    have hp2 : 2 ^ u 2 0 ≤ 2 ^ 8 := Nat.pow_le_pow_right (by decide) hu8
    refine aw_up (X := fun w => ∀ I L t2 s, (∀ v, zTeq (aw_u t 6 1 v) (aw_u t2 6 1 v)) ∧ zDy t2 s I0 I ∧ (∀ k, k < 8 → L 71 k = lN (if k < t 6 0 then z_sum (z_wf x u t c k) w else 0)) ∧ L 70 4 = lN (16 ^ u 2 0) ∧ zFl L0 L → aw_W G mX1_weigh 65 [.ref 70, .int (nI c), .int (nI (2 ^ u 2 0)), .int (nI w), aw_x, aw_x] [] (zH n I L 12) (0, 0) _) (Nat.zero_le (2 ^ u 2 0)) (fun I L t2 s hh => ?_) (fun w _ hw ih I L t2 s hh => ?_) _ _ _ _ ⟨fun v => hE.w, hD3, fun k hk => by rw [hW k hk]; split <;> rfl, hA, hFl⟩
    · obtain ⟨hE, hD, hW, hA, hFl⟩ := hh
      refine aw_iload_n dX1_weigh_65 rfl ?_
      refine aw_iload_n dX1_weigh_66 rfl ?_
      refine aw_ic_ge_n (a := 2 ^ u 2 0) (b := 2 ^ u 2 0) (tgt := 116) dX1_weigh_67 (by decide) (by omega) (by omega) (fun c67 => ?_) (fun z => absurd z (by omega))
      refine aw_ret0 dX1_weigh_116 rfl ⟨Nat.le_of_ble_eq_true rfl, Nat.le_of_ble_eq_true rfl⟩ ?_
      exact ⟨rfl, _, _, rfl, ⟨_, _, hD⟩, hW, hA, hFl⟩
    · obtain ⟨hE, hD, hW, hA, hFl⟩ := hh
      have hwl := z_wt_le (c := c) (w := w) (a := u 2 0) hc
      have hp16 := pow16_le hu8
      refine aw_iload_n dX1_weigh_65 rfl ?_
      refine aw_iload_n dX1_weigh_66 rfl ?_
      refine aw_ic_ge_n (a := w) (b := 2 ^ u 2 0) (tgt := 116) dX1_weigh_67 (by decide) (by omega) (by omega) (fun z => absurd z (by omega)) (fun c67 => ?_)
      refine aw_aload_n dX1_weigh_70 rfl ?_
      refine aw_iload_n dX1_weigh_71 rfl ?_
      refine aw_iload_n dX1_weigh_72 rfl ?_
      refine aw_V0c (As := [_, _]) dX1_weigh_73 k1_52 rfl rfl rfl ⟨Nat.le_of_ble_eq_true rfl, Nat.le_of_ble_eq_true rfl⟩ (Nat.le_of_ble_eq_true rfl) ⟨⟨Nat.le_of_ble_eq_true rfl, Nat.le_of_ble_eq_true rfl⟩, ⟨Nat.le_of_ble_eq_true rfl, Nat.le_of_ble_eq_true rfl⟩⟩ ⟨rfl, rfl⟩ (w_weightOf G (hD.fx hF).2.2.2.1 hu8 (by omega) hc) (fun v h2 hq => ?_)
      obtain ⟨rfl, rfl⟩ := hq
      refine aw_lstore (ls2 := [_, _, _, _, _, _]) dX1_weigh_76 (by decide) rfl rfl ?_
      refine aw_lload dX1_weigh_78 rfl ?_
      refine aw_lconst (v := 0) dX1_weigh_80 rfl ?_
      refine aw_lcmp dX1_weigh_81 ?_
      refine aw_if_le_L (a := z_wt c w (u 2 0)) (b := 0) (tgt := 110) dX1_weigh_82 (by decide) (by omega) (by omega) (fun c82 => ?_) (fun c82 => ?_)
      · refine aw_iinc_n (ls2 := [_, _, _, _, _, _]) dX1_weigh_110 rfl (by decide) rfl rfl ?_
        refine aw_goto (tgt := 65) dX1_weigh_113 (by decide) ?_
        refine aw_kill (j := 4) (ls2 := [_, _, _, _, aw_x, _]) rfl ?_
        refine ih _ _ _ _ ⟨hE, hD, fun k hk => ?_, hA, hFl⟩
        rw [hW k hk]
        by_cases hkn : k < t 6 0
        · rw [if_pos hkn, if_pos hkn, z_sum, show z_wf x u t c k w = 0 by unfold z_wf; split <;> omega, Nat.add_zero]
        · rw [if_neg hkn, if_neg hkn]
      · refine aw_aload_n dX1_weigh_85 rfl ?_
        refine aw_getR dX1_weigh_86 f1_29 rfl ⟨Nat.le_of_ble_eq_true rfl, Nat.le_of_ble_eq_true rfl⟩ rfl rfl ?_
        refine aw_iload_n dX1_weigh_89 rfl ?_
        refine aw_putI dX1_weigh_90 f1_56 rfl ⟨Nat.le_of_ble_eq_true rfl, Nat.le_of_ble_eq_true rfl⟩ (Or.inl rfl) rfl ?_
        have hD1 := hD.w (v := w) (by omega)
        refine aw_aload_n dX1_weigh_93 rfl ?_
        refine aw_getR dX1_weigh_94 f1_32 rfl ⟨Nat.le_of_ble_eq_true rfl, Nat.le_of_ble_eq_true rfl⟩ rfl rfl ?_
        refine aw_aload_n dX1_weigh_97 rfl ?_
        refine aw_getR dX1_weigh_98 f1_29 rfl ⟨Nat.le_of_ble_eq_true rfl, Nat.le_of_ble_eq_true rfl⟩ rfl rfl ?_
        refine aw_V0c (As := [_]) dX1_weigh_101 k1_59 rfl rfl rfl ⟨Nat.le_of_ble_eq_true rfl, Nat.le_of_ble_eq_true rfl⟩ (Nat.le_of_ble_eq_true rfl) ⟨⟨Nat.le_of_ble_eq_true rfl, Nat.le_of_ble_eq_true rfl⟩, ⟨Nat.le_of_ble_eq_true rfl, Nat.le_of_ble_eq_true rfl⟩⟩ ⟨rfl, rfl⟩ (w_playB G hD1.2.2.2.1 hD1.1 (hD1.fx hF).2.2.2.2.2.1 (hD1.fx hF).2.2.2.1 hD1.2.1 hF.2.2.2.2.2.2.2.1 hF.2.2.2.2.1 hD1.2.2.2.2.1.1) (fun v h2 hq => ?_)
        obtain ⟨rfl, I2, rfl, hR2⟩ := hq
        have hD2 := hD1.play (t := t) hF.2.2.2.2.2.2 hR2
        have e6 : aw_u t2 6 1 w 6 0 = t 6 0 := by have := (hE w).1; rw [this, aw_u_nj (by decide)]
        have hS : ∀ k, k < t 6 0 → I2 50 k = nI (o_st x u (aw_u t 6 1 w) k) ∧ o_st x u (aw_u t 6 1 w) k < 100000 := fun k hk => by
          have hc := zCan (u := u) hD1.2.1 hF.2.2.2.2.2.2 hD1.2.2.2.2.1.1 hD1.2.2.1 (k := k) (by rw [e6]; exact hk)
          have hl := o_st_le (u := u) (x := x) hD1.2.1 hF.2.2.2.2.2.2 (k := k) (by rw [e6]; exact hk)
          rw [(o_teq (hE w)).1] at hl
          refine ⟨?_, by omega⟩
          rw [← (o_teq (hE w)).1, ← hc.1]
          exact hR2.at 6 k (by decide) (by decide) (by decide) (by have := hF.2.1.1; omega)
        refine aw_aload_n dX1_weigh_104 rfl ?_
        refine aw_lload dX1_weigh_105 rfl ?_
        refine aw_V0c (As := [_]) dX1_weigh_107 k1_64 rfl rfl rfl ⟨Nat.le_of_ble_eq_true rfl, Nat.le_of_ble_eq_true rfl⟩ (Nat.le_of_ble_eq_true rfl) ⟨⟨Nat.le_of_ble_eq_true rfl, Nat.le_of_ble_eq_true rfl⟩, ⟨Nat.le_of_ble_eq_true rfl, Nat.le_of_ble_eq_true rfl⟩⟩ ⟨rfl, rfl⟩ (w_addWeight G (W := fun k => if k < t 6 0 then z_sum (z_wf x u t c k) w else 0) (hD2.fx hF).1.2.1 hF.2.1.1 hS hW) (fun v h2 hq => ?_)
        obtain ⟨rfl, L2, rfl, hW2, hFl2, hL70⟩ := hq
        refine aw_iinc_n (ls2 := [_, _, _, _, _, _]) dX1_weigh_110 rfl (by decide) rfl rfl ?_
        refine aw_goto (tgt := 65) dX1_weigh_113 (by decide) ?_
        refine aw_kill (j := 4) (ls2 := [_, _, _, _, aw_x, _]) rfl ?_
        refine ih _ _ _ _ ⟨fun v => by rw [aw_u_uu]; exact hE v, hD2, fun k hk => ?_, by rw [hL70]; exact hA, fun o h1 h2 => by rw [hFl2 o h1 h2]; exact hFl o h1 h2⟩
        rw [hW2 k hk]
        by_cases hkn : k < t 6 0
        · rw [if_pos hkn, z_sum]
          unfold z_wf
          by_cases hs : o_st x u (aw_u t 6 1 w) k = 2
          · rw [if_pos ⟨hkn, hs⟩, if_pos hs, if_pos hkn]
          · rw [if_neg (fun z => hs z.2), if_neg hs, if_pos hkn, Nat.add_zero]
        · rw [if_neg (fun z => hkn z.1), if_neg hkn, if_neg hkn]
  · obtain ⟨hW, hA, hFl⟩ := hh
    refine aw_iload_n dX1_weigh_31 rfl ?_
    refine aw_bipush (v := 8) dX1_weigh_32 (by decide) ?_
    refine aw_ic_ge_n (a := i) (b := 8) (tgt := 50) dX1_weigh_34 (by decide) (by omega) (by omega) (fun z => absurd z (by omega)) (fun c34 => ?_)
    refine aw_aload_n dX1_weigh_37 rfl ?_
    refine aw_getR dX1_weigh_38 f1_9 rfl ⟨Nat.le_of_ble_eq_true rfl, Nat.le_of_ble_eq_true rfl⟩ rfl rfl ?_
    refine aw_iload_n dX1_weigh_41 rfl ?_
    refine aw_lconst (v := 0) dX1_weigh_42 rfl ?_
    refine aw_last_n (j := i) dX1_weigh_43 rfl ⟨Nat.le_of_ble_eq_true rfl, Nat.le_of_ble_eq_true rfl⟩ (by decide) (by omega) ?_
    refine aw_iinc_n (ls2 := [_, _, _, _, _, _]) dX1_weigh_44 rfl (by decide) rfl rfl ?_
    refine aw_goto (tgt := 31) dX1_weigh_47 (by decide) ?_
    refine ih _ ⟨fun k hk => ?_, by rw [aw_u_ne (by decide)]; exact hA, fun o h1 h2 => by rw [aw_u_ne h2]; exact hFl o h1 h2⟩
    by_cases hki : k = i
    · subst hki; rw [aw_u_eq]; rfl
    · rw [aw_u_nj hki]; exact hW k (by omega)
theorem w_reduce (G : aw_G) {n c0 : Nat} {I : Nat → Nat → Int32} {L0 : Nat → Nat → Int64} {k A m : Nat} (hk : k < 8) (hWk : L0 71 k = lN A) (hAm : L0 70 4 = lN (2 ^ m)) (hm : m ≤ 32) (hA40 : A < 2 ^ 40) : aw_Met G mX1_reduce [.ref 70, .int (nI k)] (zH n I L0 c0) (fun v h2 => v = none ∧ ∃ L2, h2 = zH n I L2 c0 ∧ L2 70 5 = lN (A / Nat.gcd A (2 ^ m)) ∧ L2 70 6 = lN (2 ^ m / Nat.gcd A (2 ^ m)) ∧ (∀ o, o ≠ 70 → L2 o = L0 o) ∧ L2 70 4 = L0 70 4) := by
  refine aw_Met.of okX1_reduce (Nat.le_of_ble_eq_true rfl) ?_
  show aw_W G mX1_reduce 0 [.ref 70, .int (nI k), aw_x] [] (zH n I L0 c0) (0, 0) _
  refine aw_aload_n dX1_reduce_0 rfl ?_
  refine aw_aload_n dX1_reduce_1 rfl ?_
  refine aw_getR dX1_reduce_2 f1_9 rfl ⟨Nat.le_of_ble_eq_true rfl, Nat.le_of_ble_eq_true rfl⟩ rfl rfl ?_
  refine aw_iload_n dX1_reduce_5 rfl ?_
  refine aw_lald_n (j := k) dX1_reduce_6 rfl ⟨Nat.le_of_ble_eq_true rfl, Nat.le_of_ble_eq_true rfl⟩ (by decide) (by omega) ?_
  refine aw_topl hWk ?_
  refine aw_putL dX1_reduce_7 f1_19 rfl ⟨Nat.le_of_ble_eq_true rfl, Nat.le_of_ble_eq_true rfl⟩ (Or.inl rfl) rfl ?_
  refine aw_aload_n dX1_reduce_10 rfl ?_
  refine aw_aload_n dX1_reduce_11 rfl ?_
  refine aw_getL dX1_reduce_12 f1_15 rfl ⟨Nat.le_of_ble_eq_true rfl, Nat.le_of_ble_eq_true rfl⟩ rfl ?_
  refine aw_topl ((aw_u_nj (by decide)).trans hAm) ?_
  refine aw_putL dX1_reduce_15 f1_22 rfl ⟨Nat.le_of_ble_eq_true rfl, Nat.le_of_ble_eq_true rfl⟩ (Or.inl rfl) rfl ?_
  refine aw_iconst (v := 0) dX1_reduce_18 rfl ?_
  refine aw_istore_n (ls2 := [_, _, _]) dX1_reduce_19 (by decide) rfl rfl ?_
  have hAl : A < 2 ^ 40 := hA40
  refine aw_up (X := fun i => ∀ L, ∀ a g j, A = a * g ∧ 2 ^ m = 2 ^ j * g ∧ 0 < g ∧ j + i = m ∧ L 70 5 = lN a ∧ L 70 6 = lN (2 ^ j) ∧ (∀ o, o ≠ 70 → L o = L0 o) ∧ L 70 4 = L0 70 4 → aw_W G mX1_reduce 20 [.ref 70, .int (nI k), .int (nI i)] [] (zH n I L c0) (0, 0) _) (Nat.zero_le 63) (fun L => ?_) (fun i _ hi ih L => ?_) _ A 1 m ⟨by omega, by omega, by omega, by omega, by rw [aw_u_nj (by decide), aw_u_eq], by rw [aw_u_eq], fun o ho => by rw [aw_u_ne ho, aw_u_ne ho], by rw [aw_u_nj (by decide), aw_u_nj (by decide)]⟩
  · intro a g j hh
    obtain ⟨hA, hB, hg, hj, h5, h6, hFr, h4⟩ := hh
    have hal : a ≤ A := by rw [hA]; exact Nat.le_mul_of_pos_right a hg
    have hjp : 2 ^ j ≤ 2 ^ 32 := Nat.pow_le_pow_right (by decide) (by omega)
    refine aw_iload_n dX1_reduce_20 rfl ?_
    refine aw_bipush (v := 63) dX1_reduce_21 (by decide) ?_
    refine aw_ic_ge_n (a := 63) (b := 63) (tgt := 78) dX1_reduce_23 (by decide) (by omega) (by omega) (fun c23 => ?_) (fun z => absurd z (by omega))
    refine aw_ret0 dX1_reduce_78 rfl ⟨Nat.le_of_ble_eq_true rfl, Nat.le_of_ble_eq_true rfl⟩ ?_
    exfalso; omega
  · intro a g j hh
    obtain ⟨hA, hB, hg, hj, h5, h6, hFr, h4⟩ := hh
    have hal : a ≤ A := by rw [hA]; exact Nat.le_mul_of_pos_right a hg
    have hjp : 2 ^ j ≤ 2 ^ 32 := Nat.pow_le_pow_right (by decide) (by omega)
    refine aw_iload_n dX1_reduce_20 rfl ?_
    refine aw_bipush (v := 63) dX1_reduce_21 (by decide) ?_
    refine aw_ic_ge_n (a := i) (b := 63) (tgt := 78) dX1_reduce_23 (by decide) (by omega) (by omega) (fun z => absurd z (by omega)) (fun c23 => ?_)
    refine aw_aload_n dX1_reduce_26 rfl ?_
    refine aw_getL dX1_reduce_27 f1_22 rfl ⟨Nat.le_of_ble_eq_true rfl, Nat.le_of_ble_eq_true rfl⟩ rfl ?_
    refine aw_topl h6 ?_
    refine aw_lconst (v := 1) dX1_reduce_30 rfl ?_
    refine aw_lcmp dX1_reduce_31 ?_
    refine aw_if_le_L (a := 2 ^ j) (b := 1) (tgt := 78) dX1_reduce_32 (by decide) (by omega) (by omega) (fun c32 => ?_) (fun c32 => ?_)
    · refine aw_ret0 dX1_reduce_78 rfl ⟨Nat.le_of_ble_eq_true rfl, Nat.le_of_ble_eq_true rfl⟩ ?_
      obtain ⟨e1, e2⟩ := z_gcd hA hB hg (by rw [show 2 ^ j = 1 by have := Nat.one_le_two_pow (n := j); omega]; exact Nat.gcd_one_right a)
      exact ⟨rfl, _, rfl, by rw [e1]; exact h5, by rw [e2]; exact h6, hFr, h4⟩
    · refine aw_aload_n dX1_reduce_35 rfl ?_
      refine aw_getL dX1_reduce_36 f1_19 rfl ⟨Nat.le_of_ble_eq_true rfl, Nat.le_of_ble_eq_true rfl⟩ rfl ?_
      refine aw_topl h5 ?_
      refine aw_ldc2 dX1_reduce_39 co1_73 ?_
      refine aw_lrem_n (a := a) (b := 2) dX1_reduce_42 (by omega) (by omega) (by omega) ?_
      refine aw_lconst (v := 0) dX1_reduce_43 rfl ?_
      refine aw_lcmp dX1_reduce_44 ?_
      refine aw_if_ne_L (a := a % 2) (b := 0) (tgt := 78) dX1_reduce_45 (by decide) (by omega) (by omega) (fun c45 => ?_) (fun c45 => ?_)
      · refine aw_ret0 dX1_reduce_78 rfl ⟨Nat.le_of_ble_eq_true rfl, Nat.le_of_ble_eq_true rfl⟩ ?_
        obtain ⟨e1, e2⟩ := z_gcd hA hB hg (z_odd c45)
        exact ⟨rfl, _, rfl, by rw [e1]; exact h5, by rw [e2]; exact h6, hFr, h4⟩
      · refine aw_aload_n dX1_reduce_48 rfl ?_
        refine aw_dup dX1_reduce_49 rfl ?_
        refine aw_getL dX1_reduce_50 f1_19 rfl ⟨Nat.le_of_ble_eq_true rfl, Nat.le_of_ble_eq_true rfl⟩ rfl ?_
        refine aw_topl h5 ?_
        refine aw_ldc2 dX1_reduce_53 co1_73 ?_
        refine aw_ldiv_n (a := a) (b := 2) dX1_reduce_56 (by omega) (by omega) (by omega) ?_
        refine aw_putL dX1_reduce_57 f1_19 rfl ⟨Nat.le_of_ble_eq_true rfl, Nat.le_of_ble_eq_true rfl⟩ (Or.inl rfl) rfl ?_
        refine aw_aload_n dX1_reduce_60 rfl ?_
        refine aw_dup dX1_reduce_61 rfl ?_
        refine aw_getL dX1_reduce_62 f1_22 rfl ⟨Nat.le_of_ble_eq_true rfl, Nat.le_of_ble_eq_true rfl⟩ rfl ?_
        refine aw_topl ((aw_u_nj (by decide)).trans h6) ?_
        refine aw_ldc2 dX1_reduce_65 co1_73 ?_
        refine aw_ldiv_n (a := 2 ^ j) (b := 2) dX1_reduce_68 (by omega) (by omega) (by omega) ?_
        refine aw_putL dX1_reduce_69 f1_22 rfl ⟨Nat.le_of_ble_eq_true rfl, Nat.le_of_ble_eq_true rfl⟩ (Or.inl rfl) rfl ?_
        refine aw_iinc_n (ls2 := [_, _, _]) dX1_reduce_72 rfl (by decide) rfl rfl ?_
        refine aw_goto (tgt := 20) dX1_reduce_75 (by decide) ?_
        have hj1 : j ≠ 0 := fun z => by rw [z] at c32; exact absurd c32 (by decide)
        obtain ⟨j', rfl⟩ : ∃ j', j = j' + 1 := ⟨j - 1, by omega⟩
        have e1 : (2 : Nat) ^ (j' + 1) / 2 = 2 ^ j' := by rw [Nat.pow_succ]; omega
        refine ih _ (a / 2) (g * 2) j' ⟨?_, ?_, by omega, by omega, ?_, ?_, fun o ho => by rw [aw_u_ne ho, aw_u_ne ho]; exact hFr o ho, by rw [aw_u_nj (by decide), aw_u_nj (by decide)]; exact h4⟩
        · rw [hA]
          have h2 : a = a / 2 * 2 := by omega
          calc a * g = a / 2 * 2 * g := by rw [← h2]
            _ = a / 2 * (g * 2) := by rw [Nat.mul_assoc, Nat.mul_comm 2 g]
        · rw [hB, Nat.pow_succ, Nat.mul_assoc, Nat.mul_comm 2 g]
        · rw [aw_u_nj (by decide), aw_u_eq]
        · rw [aw_u_eq, e1]
theorem w_drawn (G : aw_G) {n c0 : Nat} {I I0 : Nat → Nat → Int32} {L0 : Nat → Nat → Int64} {t u x y t2 s : Nat → Nat → Nat} (hF : zFx t u x y I0) (hD : zDy t2 s I0 I) {sd : Int32} {a : Nat} (ha : a < 100000) : aw_Met G mX1_drawn [.ref 70, .int sd, .int (nI a)] (zH n I L0 c0) (fun v h2 => v = some (.int (nI (z_ones (o_who x u (t_dr t sd (t 6 0)) a)))) ∧ ∃ I2, h2 = zH n I2 L0 12 ∧ ∃ t3 s3, zDy t3 s3 I0 I2) := by
  refine aw_Met.of okX1_drawn (Nat.le_of_ble_eq_true rfl) ?_
  show aw_W G mX1_drawn 0 [.ref 70, .int sd, .int (nI a), aw_x, aw_x] [] (zH n I L0 c0) (0, 0) _
  refine aw_aload_n dX1_drawn_0 rfl ?_
  refine aw_getR dX1_drawn_1 f1_29 rfl ⟨Nat.le_of_ble_eq_true rfl, Nat.le_of_ble_eq_true rfl⟩ rfl rfl ?_
  refine aw_aload_n dX1_drawn_4 rfl ?_
  refine aw_getR dX1_drawn_5 f1_25 rfl ⟨Nat.le_of_ble_eq_true rfl, Nat.le_of_ble_eq_true rfl⟩ rfl rfl ?_
  refine aw_V0c (As := [_]) dX1_drawn_8 k1_36 rfl rfl rfl ⟨Nat.le_of_ble_eq_true rfl, Nat.le_of_ble_eq_true rfl⟩ (Nat.le_of_ble_eq_true rfl) ⟨⟨Nat.le_of_ble_eq_true rfl, Nat.le_of_ble_eq_true rfl⟩, ⟨Nat.le_of_ble_eq_true rfl, Nat.le_of_ble_eq_true rfl⟩⟩ ⟨rfl, rfl⟩ (w_become G (I0 := I) (hD.fx hF).1 hF.2.1 (zSx.of hD.1) hD.2.1) (fun v h2 hq => ?_)
  obtain ⟨rfl, I2, rfl, t3, hS, hE, hT3⟩ := hq
  have hD3 : zDy t3 s I0 I2 := hD.sx hS hT3 (hF.h40 hE)
  refine aw_iload_n dX1_drawn_11 rfl ?_
  refine aw_istore_n (ls2 := [_, _, _, _, _]) dX1_drawn_12 (by decide) rfl rfl ?_
  refine aw_iconst (v := 0) dX1_drawn_13 rfl ?_
  refine aw_istore (ls2 := [_, _, _, _, _]) dX1_drawn_14 (by decide) rfl rfl ?_
  have h8 := hF.2.1.1
  refine aw_up (X := fun i => ∀ I t2 s, zTeq (t_dr t sd i) t2 ∧ zDy t2 s I0 I → aw_W G mX1_drawn 16 [.ref 70, .int sd, .int (nI a), .int ((z_seed sd i)), .int (nI i)] [] (zH n I L0 12) (0, 0) _) (Nat.zero_le (t 6 0)) (fun I t2 s hh => ?_) (fun i _ hi ih I t2 s hh => ?_) _ _ _ ⟨hE, hD3⟩
  · obtain ⟨hE, hD⟩ := hh
    have hD1 := hD
    refine aw_iload dX1_drawn_16 rfl ?_
    refine aw_aload_n dX1_drawn_18 rfl ?_
    refine aw_getR dX1_drawn_19 f1_25 rfl ⟨Nat.le_of_ble_eq_true rfl, Nat.le_of_ble_eq_true rfl⟩ rfl rfl ?_
    refine aw_getI dX1_drawn_22 f1_68 rfl ⟨Nat.le_of_ble_eq_true rfl, Nat.le_of_ble_eq_true rfl⟩ rfl ?_
    refine aw_top ((hD.fx hF).1.2.1) ?_
    refine aw_ic_ge_n (a := t 6 0) (b := t 6 0) (tgt := 60) dX1_drawn_25 (by decide) (by omega) (by omega) (fun c25 => ?_) (fun z => absurd z (by omega))
    refine aw_aload_n dX1_drawn_60 rfl ?_
    refine aw_getR dX1_drawn_61 f1_32 rfl ⟨Nat.le_of_ble_eq_true rfl, Nat.le_of_ble_eq_true rfl⟩ rfl rfl ?_
    refine aw_aload_n dX1_drawn_64 rfl ?_
    refine aw_getR dX1_drawn_65 f1_29 rfl ⟨Nat.le_of_ble_eq_true rfl, Nat.le_of_ble_eq_true rfl⟩ rfl rfl ?_
    refine aw_V0c (As := [_]) dX1_drawn_68 k1_59 rfl rfl rfl ⟨Nat.le_of_ble_eq_true rfl, Nat.le_of_ble_eq_true rfl⟩ (Nat.le_of_ble_eq_true rfl) ⟨⟨Nat.le_of_ble_eq_true rfl, Nat.le_of_ble_eq_true rfl⟩, ⟨Nat.le_of_ble_eq_true rfl, Nat.le_of_ble_eq_true rfl⟩⟩ ⟨rfl, rfl⟩ (w_playB G hD1.2.2.2.1 hD1.1 (hD1.fx hF).2.2.2.2.2.1 (hD1.fx hF).2.2.2.1 hD1.2.1 hF.2.2.2.2.2.2.2.1 hF.2.2.2.2.1 hD1.2.2.2.2.1.1) (fun v h2 hq => ?_)
    obtain ⟨rfl, I2, rfl, hR2⟩ := hq
    have hD2 := hD1.play (t := t) hF.2.2.2.2.2.2 hR2
    have hbd := zBd (m := z0) (u := u) hD1.2.1 hF.2.2.2.2.2.2.1 hF.2.2.2.2.2.2.2.1 hF.2.2.2.2.2.2.2.2 hD1.2.2.2.2.1.1
    have hS0 : p_play s t2 u x 0 0 = t2 6 0 := hbd.1.1
    have h8 := hD1.2.1.1
    refine aw_aload_n dX1_drawn_71 rfl ?_
    refine aw_getR dX1_drawn_72 f1_32 rfl ⟨Nat.le_of_ble_eq_true rfl, Nat.le_of_ble_eq_true rfl⟩ rfl rfl ?_
    refine aw_iload_n dX1_drawn_75 rfl ?_
    refine aw_V0c (As := [_]) dX1_drawn_76 k1_79 rfl rfl rfl ⟨Nat.le_of_ble_eq_true rfl, Nat.le_of_ble_eq_true rfl⟩ (Nat.le_of_ble_eq_true rfl) ⟨⟨Nat.le_of_ble_eq_true rfl, Nat.le_of_ble_eq_true rfl⟩, ⟨Nat.le_of_ble_eq_true rfl, Nat.le_of_ble_eq_true rfl⟩⟩ ⟨rfl, rfl⟩ (w_howMany44 G (a := a) hR2 ha (by rw [hS0]; exact h8) (fun k hk => by rw [hS0] at hk; have := (hbd.2 k hk).1; omega)) (fun v h2 hq => ?_)
    obtain ⟨rfl, rfl⟩ := hq
    have hcm : z_ones (z_who (fun k => p_play s t2 u x 6 k == a) (p_play s t2 u x 0 0)) = z_ones (o_who x u (t_dr t sd (t 6 0)) a) := by
      rw [hS0]; unfold o_who
      rw [z_who_congr (g := fun k => o_st x u (t_dr t sd (t 6 0)) k == a) (fun j hj => by rw [(zCan (u := u) hD1.2.1 hF.2.2.2.2.2.2 hD1.2.2.2.2.1.1 hD1.2.2.1 hj).1, (o_teq hE).1]), hE.1]
    rw [hcm]
    refine aw_reti dX1_drawn_79 rfl rfl ⟨Nat.le_of_ble_eq_true rfl, Nat.le_of_ble_eq_true rfl⟩ ?_
    exact ⟨rfl, _, rfl, _, _, hD2⟩
  · obtain ⟨hE, hD⟩ := hh
    have hl100 : z_lot (z_seed sd (i + 1)) < 100 := Nat.mod_lt _ (by decide)
    refine aw_iload dX1_drawn_16 rfl ?_
    refine aw_aload_n dX1_drawn_18 rfl ?_
    refine aw_getR dX1_drawn_19 f1_25 rfl ⟨Nat.le_of_ble_eq_true rfl, Nat.le_of_ble_eq_true rfl⟩ rfl rfl ?_
    refine aw_getI dX1_drawn_22 f1_68 rfl ⟨Nat.le_of_ble_eq_true rfl, Nat.le_of_ble_eq_true rfl⟩ rfl ?_
    refine aw_top ((hD.fx hF).1.2.1) ?_
    refine aw_ic_ge_n (a := i) (b := t 6 0) (tgt := 60) dX1_drawn_25 (by decide) (by omega) (by omega) (fun z => absurd z (by omega)) (fun c25 => ?_)
    refine aw_ldc dX1_drawn_28 co1_75 ?_
    refine aw_iload_n dX1_drawn_30 rfl ?_
    refine aw_imul dX1_drawn_31 ?_
    refine aw_sipush (v := 12345) dX1_drawn_32 (by decide) ?_
    refine aw_iadd dX1_drawn_35 ?_
    refine aw_istore_n (ls2 := [_, _, _, _, _]) dX1_drawn_36 (by decide) rfl rfl ?_
    refine aw_aload_n dX1_drawn_37 rfl ?_
    refine aw_getR dX1_drawn_38 f1_29 rfl ⟨Nat.le_of_ble_eq_true rfl, Nat.le_of_ble_eq_true rfl⟩ rfl rfl ?_
    refine aw_getR dX1_drawn_41 f1_76 rfl ⟨Nat.le_of_ble_eq_true rfl, Nat.le_of_ble_eq_true rfl⟩ rfl rfl ?_
    refine aw_iload dX1_drawn_44 rfl ?_
    refine aw_iload_n dX1_drawn_46 rfl ?_
    refine aw_bipush (v := 16) dX1_drawn_47 (by decide) ?_
    refine aw_iushr dX1_drawn_49 ?_
    refine aw_top (z_ush (z_seed sd (i + 1))) ?_
    have hush : (z_seed sd (i + 1)).toBitVec.toNat / 65536 < 65536 := by have := (z_seed sd (i + 1)).toBitVec.isLt; omega
    refine aw_bipush (v := 100) dX1_drawn_50 (by decide) ?_
    refine aw_irem_n (a := (z_seed sd (i + 1)).toBitVec.toNat / 65536) (b := 100) dX1_drawn_52 (by omega) (by omega) (by omega) ?_
    refine aw_iast_n (j := i) dX1_drawn_53 rfl ⟨Nat.le_of_ble_eq_true rfl, Nat.le_of_ble_eq_true rfl⟩ (by decide) (by omega) ?_
    have hD2 := hD.st (i := 3) (j := i) (v := z_lot (z_seed sd (i + 1))) (by decide) (show _ < 1000 by omega)
    refine aw_iinc_n (ls2 := [_, _, _, _, _]) dX1_drawn_54 rfl (by decide) rfl rfl ?_
    refine aw_goto (tgt := 16) dX1_drawn_57 (by decide) ?_
    exact ih _ _ _ ⟨hE.u (by decide), hD2⟩
