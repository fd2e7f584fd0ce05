/-! Small methods of both sides; an argument is in its bounds -/
abbrev zok (x : Int32) (b : Nat) : Prop := 0 ≤ x.toInt ∧ x.toInt < (b : Int)
theorem zok_nI {j b : Nat} (hj : j < 2147483648) : zok (nI j) b ↔ j < b := by
  unfold zok; rw [nI_toInt (by omega)]; omega
theorem zok_ex {x : Int32} {b : Nat} (h : zok x b) : ∃ j, j < b ∧ x = nI j := by
  obtain ⟨j, hj, e⟩ := nI_of (x := x) (fun z => by have := Int32.lt_iff_toInt_lt.mp z; have h0 : (0 : Int32).toInt = 0 := rfl; omega)
  refine ⟨j, ?_, e⟩
  rw [e, zok_nI (by omega)] at h
  exact h
def zt (x : Int32) : Nat := x.toInt.toNat
theorem zt_nI {j : Nat} (hj : j < 2147483648) : zt (nI j) = j := by unfold zt; rw [nI_toInt (by omega)]; omega
theorem zm9 {a : Nat} (h : a < 100000) : ¬ nI a = -9 := fun e => by
  have := congrArg Int32.toInt e
  rw [nI_toInt (by omega)] at this
  have h9 : (-9 : Int32).toInt = -9 := rfl
  omega
theorem w_within (G : aw_G) {h : aw_H} (x : Int32) {b : Nat} (hb : b < 2147483648) : aw_Met G mX10_within [.int x, .int (nI b)] h (fun v h2 => v = some (.int (if zok x b then 1 else 0)) ∧ h2 = h) := by
  refine aw_Met.of okX10_within (Nat.le_of_ble_eq_true rfl) ?_
  show aw_W G mX10_within 0 [.int x, .int (nI b)] [] h (0, 0) _
  have hbt : (nI b).toInt = b := nI_toInt (by omega)
  have h00 : (0 : Int32).toInt = 0 := rfl
  refine aw_iload_n dX10_within_0 rfl ?_
  refine aw_if_lt (tgt := 13) dX10_within_1 (by decide) (fun c1 => ?_) (fun c1 => ?_)
  · refine aw_iconst (v := 0) dX10_within_13 rfl ?_
    refine aw_reti dX10_within_14 rfl rfl ⟨Nat.le_of_ble_eq_true rfl, Nat.le_of_ble_eq_true rfl⟩ ?_
    refine ⟨?_, rfl⟩
    simp only [Int32.lt_iff_toInt_lt, Int32.le_iff_toInt_le, hbt, h00] at *
    first
    | (rw [if_pos (by unfold zok; omega)])
    | (rw [if_neg (by unfold zok; omega)])
  · refine aw_iload_n dX10_within_4 rfl ?_
    refine aw_iload_n dX10_within_5 rfl ?_
    refine aw_ic_ge (tgt := 13) dX10_within_6 (by decide) (fun c6 => ?_) (fun c6 => ?_)
    · refine aw_iconst (v := 0) dX10_within_13 rfl ?_
      refine aw_reti dX10_within_14 rfl rfl ⟨Nat.le_of_ble_eq_true rfl, Nat.le_of_ble_eq_true rfl⟩ ?_
      refine ⟨?_, rfl⟩
      simp only [Int32.lt_iff_toInt_lt, Int32.le_iff_toInt_le, hbt, h00] at *
      first
      | (rw [if_pos (by unfold zok; omega)])
      | (rw [if_neg (by unfold zok; omega)])
    · refine aw_iconst (v := 1) dX10_within_9 rfl ?_
      refine aw_goto (tgt := 14) dX10_within_10 (by decide) ?_
      refine aw_reti dX10_within_14 rfl rfl ⟨Nat.le_of_ble_eq_true rfl, Nat.le_of_ble_eq_true rfl⟩ ?_
      refine ⟨?_, rfl⟩
      simp only [Int32.lt_iff_toInt_lt, Int32.le_iff_toInt_le, hbt, h00] at *
      first
      | (rw [if_pos (by unfold zok; omega)])
      | (rw [if_neg (by unfold zok; omega)])
theorem w_in0 (G : aw_G) {h : aw_H} (x lo hi : Int64) : aw_Met G mX11_in [.long x, .long lo, .long hi] h (fun v h2 => v = some (.int (if lo.toInt ≤ x.toInt ∧ x.toInt ≤ hi.toInt then 1 else 0)) ∧ h2 = h) := by
  refine aw_Met.of okX11_in (Nat.le_of_ble_eq_true rfl) ?_
  show aw_W G mX11_in 0 [.long x, aw_x, .long lo, aw_x, .long hi, aw_x] [] h (0, 0) _
  refine aw_lload_n dX11_in_0 rfl ?_
  refine aw_lload_n dX11_in_1 rfl ?_
  refine aw_lcmp dX11_in_2 ?_
  refine aw_if_lt (tgt := 17) dX11_in_3 (by decide) (fun c3 => ?_) (fun c3 => ?_)
  · refine aw_iconst (v := 0) dX11_in_17 rfl ?_
    refine aw_reti dX11_in_18 rfl rfl ⟨Nat.le_of_ble_eq_true rfl, Nat.le_of_ble_eq_true rfl⟩ ?_
    refine ⟨?_, rfl⟩
    simp only [lg_cmp_lt, lg_cmp_gt, Int64.lt_iff_toInt_lt] at *
    first
    | (rw [if_pos (by omega)])
    | (rw [if_neg (by omega)])
  · refine aw_lload_n dX11_in_6 rfl ?_
    refine aw_lload dX11_in_7 rfl ?_
    refine aw_lcmp dX11_in_9 ?_
    refine aw_if_gt (tgt := 17) dX11_in_10 (by decide) (fun c10 => ?_) (fun c10 => ?_)
    · refine aw_iconst (v := 0) dX11_in_17 rfl ?_
      refine aw_reti dX11_in_18 rfl rfl ⟨Nat.le_of_ble_eq_true rfl, Nat.le_of_ble_eq_true rfl⟩ ?_
      refine ⟨?_, rfl⟩
      simp only [lg_cmp_lt, lg_cmp_gt, Int64.lt_iff_toInt_lt] at *
      first
      | (rw [if_pos (by omega)])
      | (rw [if_neg (by omega)])
    · refine aw_iconst (v := 1) dX11_in_13 rfl ?_
      refine aw_goto (tgt := 18) dX11_in_14 (by decide) ?_
      refine aw_reti dX11_in_18 rfl rfl ⟨Nat.le_of_ble_eq_true rfl, Nat.le_of_ble_eq_true rfl⟩ ?_
      refine ⟨?_, rfl⟩
      simp only [lg_cmp_lt, lg_cmp_gt, Int64.lt_iff_toInt_lt] at *
      first
      | (rw [if_pos (by omega)])
      | (rw [if_neg (by omega)])
theorem w_in (G : aw_G) {h : aw_H} (x : Int32) {lo hi : Int64} {b : Nat} (hlo : lo.toInt = 0) (hhi : hi.toInt = (b : Int) - 1) : aw_Met G mX11_in [.long x.toInt64, .long lo, .long hi] h (fun v h2 => v = some (.int (if zok x b then 1 else 0)) ∧ h2 = h) := by
  refine aw_Met.mono (fun v h2 hq => ?_) (w_in0 G x.toInt64 lo hi)
  obtain ⟨rfl, rfl⟩ := hq
  refine ⟨?_, rfl⟩
  rw [Int32.toInt_toInt64, hlo, hhi]
  by_cases hz : zok x b
  · rw [if_pos hz, if_pos (by unfold zok at hz; omega)]
  · rw [if_neg hz, if_neg (by unfold zok at hz; omega)]
theorem w_isTwo (G : aw_G) {h : aw_H} (x : Int32) : aw_Met G mX11_isTwo [.int x] h (fun v h2 => v = some (.int (if zok x 2 then 1 else 0)) ∧ h2 = h) := by
  refine aw_Met.of okX11_isTwo (Nat.le_of_ble_eq_true rfl) ?_
  show aw_W G mX11_isTwo 0 [.int x] [] h (0, 0) _
  refine aw_iload_n dX11_isTwo_0 rfl ?_
  refine aw_i2l dX11_isTwo_1 ?_
  refine aw_lconst (v := 0) dX11_isTwo_2 rfl ?_
  refine aw_lconst (v := 1) dX11_isTwo_3 rfl ?_
  refine aw_S0c (As := [_, _, _]) dX11_isTwo_4 k11_81 rfl rfl (Nat.le_of_ble_eq_true rfl) ⟨⟨Nat.le_of_ble_eq_true rfl, Nat.le_of_ble_eq_true rfl⟩, ⟨Nat.le_of_ble_eq_true rfl, Nat.le_of_ble_eq_true rfl⟩⟩ ⟨rfl, rfl⟩ (w_in G x (b := 2) rfl rfl) (fun v h2 hq => ?_)
  obtain ⟨rfl, rfl⟩ := hq
  refine aw_reti dX11_isTwo_7 rfl (by split <;> rfl) ⟨Nat.le_of_ble_eq_true rfl, Nat.le_of_ble_eq_true rfl⟩ ?_
  exact ⟨rfl, rfl⟩
theorem w_isHour (G : aw_G) {h : aw_H} (x : Int32) : aw_Met G mX11_isHour [.int x] h (fun v h2 => v = some (.int (if zok x 40 then 1 else 0)) ∧ h2 = h) := by
  refine aw_Met.of okX11_isHour (Nat.le_of_ble_eq_true rfl) ?_
  show aw_W G mX11_isHour 0 [.int x] [] h (0, 0) _
  refine aw_iload_n dX11_isHour_0 rfl ?_
  refine aw_i2l dX11_isHour_1 ?_
  refine aw_lconst (v := 0) dX11_isHour_2 rfl ?_
  refine aw_ldc2 dX11_isHour_3 co11_149 ?_
  refine aw_S0c (As := [_, _, _]) dX11_isHour_6 k11_81 rfl rfl (Nat.le_of_ble_eq_true rfl) ⟨⟨Nat.le_of_ble_eq_true rfl, Nat.le_of_ble_eq_true rfl⟩, ⟨Nat.le_of_ble_eq_true rfl, Nat.le_of_ble_eq_true rfl⟩⟩ ⟨rfl, rfl⟩ (w_in G x (b := 40) rfl rfl) (fun v h2 hq => ?_)
  obtain ⟨rfl, rfl⟩ := hq
  refine aw_reti dX11_isHour_9 rfl (by split <;> rfl) ⟨Nat.le_of_ble_eq_true rfl, Nat.le_of_ble_eq_true rfl⟩ ?_
  exact ⟨rfl, rfl⟩
theorem w_isPlace (G : aw_G) {h : aw_H} (x : Int32) : aw_Met G mX11_isPlace [.int x] h (fun v h2 => v = some (.int (if zok x 8 then 1 else 0)) ∧ h2 = h) := by
  refine aw_Met.of okX11_isPlace (Nat.le_of_ble_eq_true rfl) ?_
  show aw_W G mX11_isPlace 0 [.int x] [] h (0, 0) _
  refine aw_iload_n dX11_isPlace_0 rfl ?_
  refine aw_i2l dX11_isPlace_1 ?_
  refine aw_lconst (v := 0) dX11_isPlace_2 rfl ?_
  refine aw_ldc2 dX11_isPlace_3 co11_151 ?_
  refine aw_S0c (As := [_, _, _]) dX11_isPlace_6 k11_81 rfl rfl (Nat.le_of_ble_eq_true rfl) ⟨⟨Nat.le_of_ble_eq_true rfl, Nat.le_of_ble_eq_true rfl⟩, ⟨Nat.le_of_ble_eq_true rfl, Nat.le_of_ble_eq_true rfl⟩⟩ ⟨rfl, rfl⟩ (w_in G x (b := 8) rfl rfl) (fun v h2 hq => ?_)
  obtain ⟨rfl, rfl⟩ := hq
  refine aw_reti dX11_isPlace_9 rfl (by split <;> rfl) ⟨Nat.le_of_ble_eq_true rfl, Nat.le_of_ble_eq_true rfl⟩ ?_
  exact ⟨rfl, rfl⟩
theorem w_isSheet (G : aw_G) {h : aw_H} (x : Int32) : aw_Met G mX11_isSheet [.int x] h (fun v h2 => v = some (.int (if zok x 4 then 1 else 0)) ∧ h2 = h) := by
  refine aw_Met.of okX11_isSheet (Nat.le_of_ble_eq_true rfl) ?_
  show aw_W G mX11_isSheet 0 [.int x] [] h (0, 0) _
  refine aw_iload_n dX11_isSheet_0 rfl ?_
  refine aw_i2l dX11_isSheet_1 ?_
  refine aw_lconst (v := 0) dX11_isSheet_2 rfl ?_
  refine aw_ldc2 dX11_isSheet_3 co11_89 ?_
  refine aw_S0c (As := [_, _, _]) dX11_isSheet_6 k11_81 rfl rfl (Nat.le_of_ble_eq_true rfl) ⟨⟨Nat.le_of_ble_eq_true rfl, Nat.le_of_ble_eq_true rfl⟩, ⟨Nat.le_of_ble_eq_true rfl, Nat.le_of_ble_eq_true rfl⟩⟩ ⟨rfl, rfl⟩ (w_in G x (b := 4) rfl rfl) (fun v h2 hq => ?_)
  obtain ⟨rfl, rfl⟩ := hq
  refine aw_reti dX11_isSheet_9 rfl (by split <;> rfl) ⟨Nat.le_of_ble_eq_true rfl, Nat.le_of_ble_eq_true rfl⟩ ?_
  exact ⟨rfl, rfl⟩
theorem w_lesser (G : aw_G) {h : aw_H} {a b : Nat} (ha : a < 2147483648) (hb : b < 2147483648) : aw_Met G mX11_lesser [.int (nI a), .int (nI b)] h (fun v h2 => v = some (.int (nI (if a < b then a else b))) ∧ h2 = h) := by
  refine aw_Met.of okX11_lesser (Nat.le_of_ble_eq_true rfl) ?_
  show aw_W G mX11_lesser 0 [.int (nI a), .int (nI b)] [] h (0, 0) _
  refine aw_iload_n dX11_lesser_0 rfl ?_
  refine aw_iload_n dX11_lesser_1 rfl ?_
  refine aw_ic_ge_n (a := a) (b := b) (tgt := 9) dX11_lesser_2 (by decide) (by omega) (by omega) (fun c2 => ?_) (fun c2 => ?_)
  · refine aw_iload_n dX11_lesser_9 rfl ?_
    refine aw_reti dX11_lesser_10 rfl rfl ⟨Nat.le_of_ble_eq_true rfl, Nat.le_of_ble_eq_true rfl⟩ ?_
    refine ⟨?_, rfl⟩
    first
    | (rw [if_pos (by omega)])
    | (rw [if_neg (by omega)])
  · refine aw_iload_n dX11_lesser_5 rfl ?_
    refine aw_goto (tgt := 10) dX11_lesser_6 (by decide) ?_
    refine aw_reti dX11_lesser_10 rfl rfl ⟨Nat.le_of_ble_eq_true rfl, Nat.le_of_ble_eq_true rfl⟩ ?_
    refine ⟨?_, rfl⟩
    first
    | (rw [if_pos (by omega)])
    | (rw [if_neg (by omega)])
theorem w_greater (G : aw_G) {h : aw_H} {a b : Nat} (ha : a < 2147483648) (hb : b < 2147483648) : aw_Met G mX11_greater [.int (nI a), .int (nI b)] h (fun v h2 => v = some (.int (nI (if b < a then a else b))) ∧ h2 = h) := by
  refine aw_Met.of okX11_greater (Nat.le_of_ble_eq_true rfl) ?_
  show aw_W G mX11_greater 0 [.int (nI a), .int (nI b)] [] h (0, 0) _
  refine aw_iload_n dX11_greater_0 rfl ?_
  refine aw_iload_n dX11_greater_1 rfl ?_
  refine aw_ic_le_n (a := a) (b := b) (tgt := 9) dX11_greater_2 (by decide) (by omega) (by omega) (fun c2 => ?_) (fun c2 => ?_)
  · refine aw_iload_n dX11_greater_9 rfl ?_
    refine aw_reti dX11_greater_10 rfl rfl ⟨Nat.le_of_ble_eq_true rfl, Nat.le_of_ble_eq_true rfl⟩ ?_
    refine ⟨?_, rfl⟩
    first
    | (rw [if_pos (by omega)])
    | (rw [if_neg (by omega)])
  · refine aw_iload_n dX11_greater_5 rfl ?_
    refine aw_goto (tgt := 10) dX11_greater_6 (by decide) ?_
    refine aw_reti dX11_greater_10 rfl rfl ⟨Nat.le_of_ble_eq_true rfl, Nat.le_of_ble_eq_true rfl⟩ ?_
    refine ⟨?_, rfl⟩
    first
    | (rw [if_pos (by omega)])
    | (rw [if_neg (by omega)])
theorem w_placeY (G : aw_G) {H : aw_H} {b : Nat} (hb : b < 256) (h : q_pl b) : aw_Met G mX11_placeOf [.int (nI b)] H (fun v h2 => v = some (.int (nI (b - 97))) ∧ h2 = H) := by
  refine aw_Met.of okX11_placeOf (Nat.le_of_ble_eq_true rfl) ?_
  show aw_W G mX11_placeOf 0 [.int (nI b)] [] H (0, 0) _
  refine aw_iload_n dX11_placeOf_0 rfl ?_
  refine aw_i2l dX11_placeOf_1 ?_
  refine aw_ldc2 dX11_placeOf_2 co11_115 ?_
  refine aw_ldc2 dX11_placeOf_5 co11_117 ?_
  refine aw_S0c (As := [_, _, _]) dX11_placeOf_8 k11_81 rfl rfl (Nat.le_of_ble_eq_true rfl) ⟨⟨Nat.le_of_ble_eq_true rfl, Nat.le_of_ble_eq_true rfl⟩, ⟨Nat.le_of_ble_eq_true rfl, Nat.le_of_ble_eq_true rfl⟩⟩ ⟨rfl, rfl⟩ (w_in0 G _ _ _) (fun v h2 hq => ?_)
  obtain ⟨rfl, rfl⟩ := hq
  refine aw_if_eq_B (tgt := 21) dX11_placeOf_11 (by decide) (fun z => absurd z (not_not_intro (show (97 : Int64).toInt ≤ (nI b).toInt64.toInt ∧ (nI b).toInt64.toInt ≤ (104 : Int64).toInt by rw [Int32.toInt_toInt64, nI_toInt (by omega)]; exact ⟨by show (97 : Int) ≤ _; omega, by show _ ≤ (104 : Int); omega⟩))) (fun c11 => ?_)
  refine aw_iload_n dX11_placeOf_14 rfl ?_
  refine aw_bipush (v := 97) dX11_placeOf_15 (by decide) ?_
  refine aw_isub_n (a := b) (b := 97) dX11_placeOf_17 (by omega) ?_
  refine aw_goto (tgt := 23) dX11_placeOf_18 (by decide) ?_
  refine aw_reti dX11_placeOf_23 rfl rfl ⟨Nat.le_of_ble_eq_true rfl, Nat.le_of_ble_eq_true rfl⟩ ?_
  exact ⟨rfl, rfl⟩
theorem w_placeN (G : aw_G) {H : aw_H} {b : Nat} (hb : b < 256) (h : ¬ q_pl b) : aw_Met G mX11_placeOf [.int (nI b)] H (fun v h2 => v = some (.int (-9)) ∧ h2 = H) := by
  refine aw_Met.of okX11_placeOf (Nat.le_of_ble_eq_true rfl) ?_
  show aw_W G mX11_placeOf 0 [.int (nI b)] [] H (0, 0) _
  refine aw_iload_n dX11_placeOf_0 rfl ?_
  refine aw_i2l dX11_placeOf_1 ?_
  refine aw_ldc2 dX11_placeOf_2 co11_115 ?_
  refine aw_ldc2 dX11_placeOf_5 co11_117 ?_
  refine aw_S0c (As := [_, _, _]) dX11_placeOf_8 k11_81 rfl rfl (Nat.le_of_ble_eq_true rfl) ⟨⟨Nat.le_of_ble_eq_true rfl, Nat.le_of_ble_eq_true rfl⟩, ⟨Nat.le_of_ble_eq_true rfl, Nat.le_of_ble_eq_true rfl⟩⟩ ⟨rfl, rfl⟩ (w_in0 G _ _ _) (fun v h2 hq => ?_)
  obtain ⟨rfl, rfl⟩ := hq
  refine aw_if_eq_B (tgt := 21) dX11_placeOf_11 (by decide) (fun c11 => ?_) (fun z => absurd z (fun z => h (by rw [Int32.toInt_toInt64, nI_toInt (by omega)] at z; have z1 : (97 : Int) ≤ b := z.1; have z2 : (b : Int) ≤ 104 := z.2; unfold q_pl; omega)))
  refine aw_bipush (v := -9) dX11_placeOf_21 (by decide) ?_
  refine aw_reti dX11_placeOf_23 rfl rfl ⟨Nat.le_of_ble_eq_true rfl, Nat.le_of_ble_eq_true rfl⟩ ?_
  exact ⟨rfl, rfl⟩
theorem w_figY (G : aw_G) {H : aw_H} {b a : Nat} (hb : b < 256) (ha : a < 2) (h : 48 + a ≤ b ∧ b ≤ 57) : aw_Met G mX11_figureOf [.int (nI b), .int (nI a)] H (fun v h2 => v = some (.int (nI (b - 48))) ∧ h2 = H) := by
  refine aw_Met.of okX11_figureOf (Nat.le_of_ble_eq_true rfl) ?_
  show aw_W G mX11_figureOf 0 [.int (nI b), .int (nI a)] [] H (0, 0) _
  refine aw_iload_n dX11_figureOf_0 rfl ?_
  refine aw_i2l dX11_figureOf_1 ?_
  refine aw_bipush (v := 48) dX11_figureOf_2 (by decide) ?_
  refine aw_iload_n dX11_figureOf_4 rfl ?_
  refine aw_iadd_n (a := 48) (b := a) dX11_figureOf_5 ?_
  refine aw_i2l dX11_figureOf_6 ?_
  refine aw_ldc2 dX11_figureOf_7 co11_119 ?_
  refine aw_S0c (As := [_, _, _]) dX11_figureOf_10 k11_81 rfl rfl (Nat.le_of_ble_eq_true rfl) ⟨⟨Nat.le_of_ble_eq_true rfl, Nat.le_of_ble_eq_true rfl⟩, ⟨Nat.le_of_ble_eq_true rfl, Nat.le_of_ble_eq_true rfl⟩⟩ ⟨rfl, rfl⟩ (w_in0 G _ _ _) (fun v h2 hq => ?_)
  obtain ⟨rfl, rfl⟩ := hq
  refine aw_if_eq_B (tgt := 23) dX11_figureOf_13 (by decide) (fun z => absurd z (not_not_intro (show (nI (48 + a)).toInt64.toInt ≤ (nI b).toInt64.toInt ∧ (nI b).toInt64.toInt ≤ (57 : Int64).toInt by rw [Int32.toInt_toInt64, Int32.toInt_toInt64, nI_toInt (by omega), nI_toInt (by omega)]; exact ⟨by omega, by show _ ≤ (57 : Int); omega⟩))) (fun c13 => ?_)
  refine aw_iload_n dX11_figureOf_16 rfl ?_
  refine aw_bipush (v := 48) dX11_figureOf_17 (by decide) ?_
  refine aw_isub_n (a := b) (b := 48) dX11_figureOf_19 (by omega) ?_
  refine aw_goto (tgt := 25) dX11_figureOf_20 (by decide) ?_
  refine aw_reti dX11_figureOf_25 rfl rfl ⟨Nat.le_of_ble_eq_true rfl, Nat.le_of_ble_eq_true rfl⟩ ?_
  exact ⟨rfl, rfl⟩
theorem w_figN (G : aw_G) {H : aw_H} {b a : Nat} (hb : b < 256) (ha : a < 2) (h : ¬ (48 + a ≤ b ∧ b ≤ 57)) : aw_Met G mX11_figureOf [.int (nI b), .int (nI a)] H (fun v h2 => v = some (.int (-9)) ∧ h2 = H) := by
  refine aw_Met.of okX11_figureOf (Nat.le_of_ble_eq_true rfl) ?_
  show aw_W G mX11_figureOf 0 [.int (nI b), .int (nI a)] [] H (0, 0) _
  refine aw_iload_n dX11_figureOf_0 rfl ?_
  refine aw_i2l dX11_figureOf_1 ?_
  refine aw_bipush (v := 48) dX11_figureOf_2 (by decide) ?_
  refine aw_iload_n dX11_figureOf_4 rfl ?_
  refine aw_iadd_n (a := 48) (b := a) dX11_figureOf_5 ?_
  refine aw_i2l dX11_figureOf_6 ?_
  refine aw_ldc2 dX11_figureOf_7 co11_119 ?_
  refine aw_S0c (As := [_, _, _]) dX11_figureOf_10 k11_81 rfl rfl (Nat.le_of_ble_eq_true rfl) ⟨⟨Nat.le_of_ble_eq_true rfl, Nat.le_of_ble_eq_true rfl⟩, ⟨Nat.le_of_ble_eq_true rfl, Nat.le_of_ble_eq_true rfl⟩⟩ ⟨rfl, rfl⟩ (w_in0 G _ _ _) (fun v h2 hq => ?_)
  obtain ⟨rfl, rfl⟩ := hq
  refine aw_if_eq_B (tgt := 23) dX11_figureOf_13 (by decide) (fun c13 => ?_) (fun z => absurd z (fun z => h (by rw [Int32.toInt_toInt64, Int32.toInt_toInt64, nI_toInt (by omega), nI_toInt (by omega)] at z; have z1 := z.1; have z2 : (b : Int) ≤ 57 := z.2; omega)))
  refine aw_bipush (v := -9) dX11_figureOf_23 (by decide) ?_
  refine aw_reti dX11_figureOf_25 rfl rfl ⟨Nat.le_of_ble_eq_true rfl, Nat.le_of_ble_eq_true rfl⟩ ?_
  exact ⟨rfl, rfl⟩
/-- the number of sign i -/
def s_w (b : Nat → Nat) (i : Nat) : Nat := if i % 5 = 0 then b i - 97 else if i % 5 = 1 then b i - 97 else if i % 5 = 2 then b i - 48 else if i % 5 = 3 then (if b i = 117 then 0 else if b i = 102 then 1 else 2) else 0
def s_c (b : Nat → Nat) (i : Nat) : Nat := if i % 7 = 0 then b i - 97 else if i % 7 = 1 then b i - 97 else if i % 7 = 2 then (if b i = 111 then 0 else if b i = 99 then 1 else 2) else if i % 7 = 3 then b i - 48 else if i % 7 = 4 then b i - 48 else if i % 7 = 5 then b i - 48 else 0
theorem s_w_v {b : Nat → Nat} {w j : Nat} (hj : j < 4) : s_w b (w * 5 + j) = v_w b w j := by
  have h : j = 0 ∨ j = 1 ∨ j = 2 ∨ j = 3 := by omega
  have hm : (w * 5 + j) % 5 = j := by omega
  unfold s_w v_w
  rw [hm]
  rcases h with rfl | rfl | rfl | rfl <;> rfl
theorem s_c_v {b : Nat → Nat} {w j : Nat} (hj : j < 6) : s_c b (w * 7 + j) = v_c b w j := by
  have h : j = 0 ∨ j = 1 ∨ j = 2 ∨ j = 3 ∨ j = 4 ∨ j = 5 := by omega
  have hm : (w * 7 + j) % 7 = j := by omega
  unfold s_c v_c
  rw [hm]
  rcases h with rfl | rfl | rfl | rfl | rfl | rfl <;> rfl
theorem w_wayOf0Y (G : aw_G) {H : aw_H} {b : Nat → Nat} {i : Nat} (hb : b i < 256) (hc : i % 5 = 0) (hq : q_w b i = true) : aw_Met G mX11_wayOf [.int 0, .int (nI (b i)), .int (-1)] H (fun v h2 => v = some (.int (nI (s_w b i))) ∧ h2 = H) := by
  have hq0 : q_w b i = decide (q_pl (b i)) := by
    unfold q_w
    rw [if_pos hc]
  rw [hq0] at hq
  have hp := of_decide_eq_true hq
  have hs : s_w b i = (b i - 97) := by
    unfold s_w
    rw [if_pos hc]
  refine aw_Met.of okX11_wayOf (Nat.le_of_ble_eq_true rfl) ?_
  show aw_W G mX11_wayOf 0 [.int 0, .int (nI (b i)), .int (-1)] [] H (0, 0) _
  refine aw_iload_n dX11_wayOf_0 rfl ?_
  refine aw_swIn (off := 31) (tgt := 32) dX11_wayOf_1 (by decide) (by decide) rfl (by decide) ?_
  refine aw_iload_n dX11_wayOf_32 rfl ?_
  refine aw_S0c (As := [_]) dX11_wayOf_33 k11_121 rfl rfl (Nat.le_of_ble_eq_true rfl) ⟨⟨Nat.le_of_ble_eq_true rfl, Nat.le_of_ble_eq_true rfl⟩, ⟨Nat.le_of_ble_eq_true rfl, Nat.le_of_ble_eq_true rfl⟩⟩ ⟨rfl, rfl⟩ (w_placeY G hb hp) (fun v h2 hq => ?_)
  obtain ⟨rfl, rfl⟩ := hq
  refine aw_reti dX11_wayOf_36 rfl rfl ⟨Nat.le_of_ble_eq_true rfl, Nat.le_of_ble_eq_true rfl⟩ ?_
  exact ⟨by rw [hs], rfl⟩
theorem w_wayOf0N (G : aw_G) {H : aw_H} {b : Nat → Nat} {i : Nat} (hb : b i < 256) (hc : i % 5 = 0) (hq : q_w b i = false) : aw_Met G mX11_wayOf [.int 0, .int (nI (b i)), .int (-1)] H (fun v h2 => v = some (.int (-9)) ∧ h2 = H) := by
  have hq0 : q_w b i = decide (q_pl (b i)) := by
    unfold q_w
    rw [if_pos hc]
  rw [hq0] at hq
  have hp := of_decide_eq_false hq
  have hs : s_w b i = (b i - 97) := by
    unfold s_w
    rw [if_pos hc]
  refine aw_Met.of okX11_wayOf (Nat.le_of_ble_eq_true rfl) ?_
  show aw_W G mX11_wayOf 0 [.int 0, .int (nI (b i)), .int (-1)] [] H (0, 0) _
  refine aw_iload_n dX11_wayOf_0 rfl ?_
  refine aw_swIn (off := 31) (tgt := 32) dX11_wayOf_1 (by decide) (by decide) rfl (by decide) ?_
  refine aw_iload_n dX11_wayOf_32 rfl ?_
  refine aw_S0c (As := [_]) dX11_wayOf_33 k11_121 rfl rfl (Nat.le_of_ble_eq_true rfl) ⟨⟨Nat.le_of_ble_eq_true rfl, Nat.le_of_ble_eq_true rfl⟩, ⟨Nat.le_of_ble_eq_true rfl, Nat.le_of_ble_eq_true rfl⟩⟩ ⟨rfl, rfl⟩ (w_placeN G hb hp) (fun v h2 hq => ?_)
  obtain ⟨rfl, rfl⟩ := hq
  refine aw_reti dX11_wayOf_36 rfl rfl ⟨Nat.le_of_ble_eq_true rfl, Nat.le_of_ble_eq_true rfl⟩ ?_
  exact ⟨rfl, rfl⟩
theorem w_wayOf1Y (G : aw_G) {H : aw_H} {b : Nat → Nat} {i : Nat} (hb : b i < 256) (hc : i % 5 = 1) (hq : q_w b i = true) (h1 : q_pl (b (i - 1))) : aw_Met G mX11_wayOf [.int 1, .int (nI (b i)), .int (nI (b (i - 1) - 97))] H (fun v h2 => v = some (.int (nI (s_w b i))) ∧ h2 = H) := by
  have hq0 : q_w b i = decide (q_pl (b i) ∧ ¬ b i = b (i - 1)) := by
    unfold q_w
    rw [if_neg (by omega), if_pos hc]
  rw [hq0] at hq
  have hp := of_decide_eq_true hq
  have hs : s_w b i = (b i - 97) := by
    unfold s_w
    rw [if_neg (by omega), if_pos hc]
  refine aw_Met.of okX11_wayOf (Nat.le_of_ble_eq_true rfl) ?_
  show aw_W G mX11_wayOf 0 [.int 1, .int (nI (b i)), .int (nI (b (i - 1) - 97))] [] H (0, 0) _
  refine aw_iload_n dX11_wayOf_0 rfl ?_
  refine aw_swIn (off := 36) (tgt := 37) dX11_wayOf_1 (by decide) (by decide) rfl (by decide) ?_
  refine aw_iload_n dX11_wayOf_37 rfl ?_
  refine aw_S0c (As := [_]) dX11_wayOf_38 k11_121 rfl rfl (Nat.le_of_ble_eq_true rfl) ⟨⟨Nat.le_of_ble_eq_true rfl, Nat.le_of_ble_eq_true rfl⟩, ⟨Nat.le_of_ble_eq_true rfl, Nat.le_of_ble_eq_true rfl⟩⟩ ⟨rfl, rfl⟩ (w_placeY G hb hp.1) (fun v h2 hq => ?_)
  obtain ⟨rfl, rfl⟩ := hq
  refine aw_iload_n dX11_wayOf_41 rfl ?_
  refine aw_ic_ne_n (a := b i - 97) (b := b (i - 1) - 97) (tgt := 50) dX11_wayOf_42 (by decide) (by omega) (by omega) (fun c42 => ?_) (fun z => absurd z (by have := hp.1; have := hp.2; omega))
  refine aw_iload_n dX11_wayOf_50 rfl ?_
  refine aw_S0c (As := [_]) dX11_wayOf_51 k11_121 rfl rfl (Nat.le_of_ble_eq_true rfl) ⟨⟨Nat.le_of_ble_eq_true rfl, Nat.le_of_ble_eq_true rfl⟩, ⟨Nat.le_of_ble_eq_true rfl, Nat.le_of_ble_eq_true rfl⟩⟩ ⟨rfl, rfl⟩ (w_placeY G hb hp.1) (fun v h2 hq => ?_)
  obtain ⟨rfl, rfl⟩ := hq
  refine aw_reti dX11_wayOf_54 rfl rfl ⟨Nat.le_of_ble_eq_true rfl, Nat.le_of_ble_eq_true rfl⟩ ?_
  exact ⟨by rw [hs], rfl⟩
theorem w_wayOf1N (G : aw_G) {H : aw_H} {b : Nat → Nat} {i : Nat} (hb : b i < 256) (hc : i % 5 = 1) (hq : q_w b i = false) (h1 : q_pl (b (i - 1))) : aw_Met G mX11_wayOf [.int 1, .int (nI (b i)), .int (nI (b (i - 1) - 97))] H (fun v h2 => v = some (.int (-9)) ∧ h2 = H) := by
  have hq0 : q_w b i = decide (q_pl (b i) ∧ ¬ b i = b (i - 1)) := by
    unfold q_w
    rw [if_neg (by omega), if_pos hc]
  rw [hq0] at hq
  have hp := of_decide_eq_false hq
  have hs : s_w b i = (b i - 97) := by
    unfold s_w
    rw [if_neg (by omega), if_pos hc]
  refine aw_Met.of okX11_wayOf (Nat.le_of_ble_eq_true rfl) ?_
  show aw_W G mX11_wayOf 0 [.int 1, .int (nI (b i)), .int (nI (b (i - 1) - 97))] [] H (0, 0) _
  by_cases hpl : q_pl (b i)
  · refine aw_iload_n dX11_wayOf_0 rfl ?_
    refine aw_swIn (off := 36) (tgt := 37) dX11_wayOf_1 (by decide) (by decide) rfl (by decide) ?_
    refine aw_iload_n dX11_wayOf_37 rfl ?_
    refine aw_S0c (As := [_]) dX11_wayOf_38 k11_121 rfl rfl (Nat.le_of_ble_eq_true rfl) ⟨⟨Nat.le_of_ble_eq_true rfl, Nat.le_of_ble_eq_true rfl⟩, ⟨Nat.le_of_ble_eq_true rfl, Nat.le_of_ble_eq_true rfl⟩⟩ ⟨rfl, rfl⟩ (w_placeY G hb hpl) (fun v h2 hq => ?_)
    obtain ⟨rfl, rfl⟩ := hq
    refine aw_iload_n dX11_wayOf_41 rfl ?_
    refine aw_ic_ne_n (a := b i - 97) (b := b (i - 1) - 97) (tgt := 50) dX11_wayOf_42 (by decide) (by omega) (by omega) (fun z => absurd (by omega) z) (fun c42 => ?_)
    refine aw_bipush (v := -9) dX11_wayOf_45 (by decide) ?_
    refine aw_goto (tgt := 54) dX11_wayOf_47 (by decide) ?_
    refine aw_reti dX11_wayOf_54 rfl rfl ⟨Nat.le_of_ble_eq_true rfl, Nat.le_of_ble_eq_true rfl⟩ ?_
    exact ⟨rfl, rfl⟩
  · refine aw_iload_n dX11_wayOf_0 rfl ?_
    refine aw_swIn (off := 36) (tgt := 37) dX11_wayOf_1 (by decide) (by decide) rfl (by decide) ?_
    refine aw_iload_n dX11_wayOf_37 rfl ?_
    refine aw_S0c (As := [_]) dX11_wayOf_38 k11_121 rfl rfl (Nat.le_of_ble_eq_true rfl) ⟨⟨Nat.le_of_ble_eq_true rfl, Nat.le_of_ble_eq_true rfl⟩, ⟨Nat.le_of_ble_eq_true rfl, Nat.le_of_ble_eq_true rfl⟩⟩ ⟨rfl, rfl⟩ (w_placeN G hb hpl) (fun v h2 hq => ?_)
    obtain ⟨rfl, rfl⟩ := hq
    refine aw_iload_n dX11_wayOf_41 rfl ?_
    refine aw_ic_ne (tgt := 50) dX11_wayOf_42 (by decide) (fun c42 => ?_) (fun z => absurd z (fun z => zm9 (by omega) z.symm))
    refine aw_iload_n dX11_wayOf_50 rfl ?_
    refine aw_S0c (As := [_]) dX11_wayOf_51 k11_121 rfl rfl (Nat.le_of_ble_eq_true rfl) ⟨⟨Nat.le_of_ble_eq_true rfl, Nat.le_of_ble_eq_true rfl⟩, ⟨Nat.le_of_ble_eq_true rfl, Nat.le_of_ble_eq_true rfl⟩⟩ ⟨rfl, rfl⟩ (w_placeN G hb hpl) (fun v h2 hq => ?_)
    obtain ⟨rfl, rfl⟩ := hq
    refine aw_reti dX11_wayOf_54 rfl rfl ⟨Nat.le_of_ble_eq_true rfl, Nat.le_of_ble_eq_true rfl⟩ ?_
    exact ⟨rfl, rfl⟩
theorem w_wayOf2Y (G : aw_G) {H : aw_H} {b : Nat → Nat} {i : Nat} (hb : b i < 256) (hc : i % 5 = 2) (hq : q_w b i = true) : aw_Met G mX11_wayOf [.int 2, .int (nI (b i)), .int (-1)] H (fun v h2 => v = some (.int (nI (s_w b i))) ∧ h2 = H) := by
  have hq0 : q_w b i = decide (q_fg (b i) ∧ ¬ b i = 48) := by
    unfold q_w
    rw [if_neg (by omega), if_neg (by omega), if_pos hc]
  rw [hq0] at hq
  have hp := of_decide_eq_true hq
  have hs : s_w b i = (b i - 48) := by
    unfold s_w
    rw [if_neg (by omega), if_neg (by omega), if_pos hc]
  refine aw_Met.of okX11_wayOf (Nat.le_of_ble_eq_true rfl) ?_
  show aw_W G mX11_wayOf 0 [.int 2, .int (nI (b i)), .int (-1)] [] H (0, 0) _
  refine aw_iload_n dX11_wayOf_0 rfl ?_
  refine aw_swIn (off := 54) (tgt := 55) dX11_wayOf_1 (by decide) (by decide) rfl (by decide) ?_
  refine aw_iload_n dX11_wayOf_55 rfl ?_
  refine aw_iconst (v := 1) dX11_wayOf_56 rfl ?_
  refine aw_S0c (As := [_, _]) dX11_wayOf_57 k11_124 rfl rfl (Nat.le_of_ble_eq_true rfl) ⟨⟨Nat.le_of_ble_eq_true rfl, Nat.le_of_ble_eq_true rfl⟩, ⟨Nat.le_of_ble_eq_true rfl, Nat.le_of_ble_eq_true rfl⟩⟩ ⟨rfl, rfl⟩ (w_figY G (a := 1) hb (by decide) (by omega)) (fun v h2 hq => ?_)
  obtain ⟨rfl, rfl⟩ := hq
  refine aw_reti dX11_wayOf_60 rfl rfl ⟨Nat.le_of_ble_eq_true rfl, Nat.le_of_ble_eq_true rfl⟩ ?_
  exact ⟨by rw [hs], rfl⟩
theorem w_wayOf2N (G : aw_G) {H : aw_H} {b : Nat → Nat} {i : Nat} (hb : b i < 256) (hc : i % 5 = 2) (hq : q_w b i = false) : aw_Met G mX11_wayOf [.int 2, .int (nI (b i)), .int (-1)] H (fun v h2 => v = some (.int (-9)) ∧ h2 = H) := by
  have hq0 : q_w b i = decide (q_fg (b i) ∧ ¬ b i = 48) := by
    unfold q_w
    rw [if_neg (by omega), if_neg (by omega), if_pos hc]
  rw [hq0] at hq
  have hp := of_decide_eq_false hq
  have hs : s_w b i = (b i - 48) := by
    unfold s_w
    rw [if_neg (by omega), if_neg (by omega), if_pos hc]
  refine aw_Met.of okX11_wayOf (Nat.le_of_ble_eq_true rfl) ?_
  show aw_W G mX11_wayOf 0 [.int 2, .int (nI (b i)), .int (-1)] [] H (0, 0) _
  refine aw_iload_n dX11_wayOf_0 rfl ?_
  refine aw_swIn (off := 54) (tgt := 55) dX11_wayOf_1 (by decide) (by decide) rfl (by decide) ?_
  refine aw_iload_n dX11_wayOf_55 rfl ?_
  refine aw_iconst (v := 1) dX11_wayOf_56 rfl ?_
  refine aw_S0c (As := [_, _]) dX11_wayOf_57 k11_124 rfl rfl (Nat.le_of_ble_eq_true rfl) ⟨⟨Nat.le_of_ble_eq_true rfl, Nat.le_of_ble_eq_true rfl⟩, ⟨Nat.le_of_ble_eq_true rfl, Nat.le_of_ble_eq_true rfl⟩⟩ ⟨rfl, rfl⟩ (w_figN G (a := 1) hb (by decide) (by omega)) (fun v h2 hq => ?_)
  obtain ⟨rfl, rfl⟩ := hq
  refine aw_reti dX11_wayOf_60 rfl rfl ⟨Nat.le_of_ble_eq_true rfl, Nat.le_of_ble_eq_true rfl⟩ ?_
  exact ⟨rfl, rfl⟩
theorem w_wayOf3Y (G : aw_G) {H : aw_H} {b : Nat → Nat} {i : Nat} (hb : b i < 256) (hc : i % 5 = 3) (hq : q_w b i = true) : aw_Met G mX11_wayOf [.int 3, .int (nI (b i)), .int (-1)] H (fun v h2 => v = some (.int (nI (s_w b i))) ∧ h2 = H) := by
  have hq0 : q_w b i = decide (b i = 117 ∨ b i = 102 ∨ b i = 100) := by
    unfold q_w
    rw [if_neg (by omega), if_neg (by omega), if_neg (by omega), if_pos hc]
  rw [hq0] at hq
  have hp := of_decide_eq_true hq
  have hs : s_w b i = (if b i = 117 then 0 else if b i = 102 then 1 else 2) := by
    unfold s_w
    rw [if_neg (by omega), if_neg (by omega), if_neg (by omega), if_pos hc]
  refine aw_Met.of okX11_wayOf (Nat.le_of_ble_eq_true rfl) ?_
  show aw_W G mX11_wayOf 0 [.int 3, .int (nI (b i)), .int (-1)] [] H (0, 0) _
  refine aw_iload_n dX11_wayOf_0 rfl ?_
  refine aw_swIn (off := 60) (tgt := 61) dX11_wayOf_1 (by decide) (by decide) rfl (by decide) ?_
  refine aw_iload_n dX11_wayOf_61 rfl ?_
  refine aw_bipush (v := 117) dX11_wayOf_62 (by decide) ?_
  refine aw_ic_ne_n (a := b i) (b := 117) (tgt := 71) dX11_wayOf_64 (by decide) (by omega) (by omega) (fun c64 => ?_) (fun c64 => ?_)
  · refine aw_iload_n dX11_wayOf_71 rfl ?_
    refine aw_bipush (v := 102) dX11_wayOf_72 (by decide) ?_
    refine aw_ic_ne_n (a := b i) (b := 102) (tgt := 81) dX11_wayOf_74 (by decide) (by omega) (by omega) (fun c74 => ?_) (fun c74 => ?_)
    · refine aw_iload_n dX11_wayOf_81 rfl ?_
      refine aw_bipush (v := 100) dX11_wayOf_82 (by decide) ?_
      refine aw_ic_ne_n (a := b i) (b := 100) (tgt := 91) dX11_wayOf_84 (by decide) (by omega) (by omega) (fun c84 => ?_) (fun c84 => ?_)
      · refine aw_bipush (v := -9) dX11_wayOf_91 (by decide) ?_
        refine aw_reti dX11_wayOf_93 rfl rfl ⟨Nat.le_of_ble_eq_true rfl, Nat.le_of_ble_eq_true rfl⟩ ?_
        refine ⟨?_, rfl⟩
        rw [hs]
        first
        | (rw [if_pos (by omega)]; rfl)
        | (rw [if_neg (by omega), if_pos (by omega)]; rfl)
        | (rw [if_neg (by omega), if_neg (by omega)]; rfl)
        | (exfalso; omega)
      · refine aw_iconst (v := 2) dX11_wayOf_87 rfl ?_
        refine aw_goto (tgt := 93) dX11_wayOf_88 (by decide) ?_
        refine aw_reti dX11_wayOf_93 rfl rfl ⟨Nat.le_of_ble_eq_true rfl, Nat.le_of_ble_eq_true rfl⟩ ?_
        refine ⟨?_, rfl⟩
        rw [hs]
        first
        | (rw [if_pos (by omega)]; rfl)
        | (rw [if_neg (by omega), if_pos (by omega)]; rfl)
        | (rw [if_neg (by omega), if_neg (by omega)]; rfl)
        | (exfalso; omega)
    · refine aw_iconst (v := 1) dX11_wayOf_77 rfl ?_
      refine aw_goto (tgt := 93) dX11_wayOf_78 (by decide) ?_
      refine aw_reti dX11_wayOf_93 rfl rfl ⟨Nat.le_of_ble_eq_true rfl, Nat.le_of_ble_eq_true rfl⟩ ?_
      refine ⟨?_, rfl⟩
      rw [hs]
      first
      | (rw [if_pos (by omega)]; rfl)
      | (rw [if_neg (by omega), if_pos (by omega)]; rfl)
      | (rw [if_neg (by omega), if_neg (by omega)]; rfl)
      | (exfalso; omega)
  · refine aw_iconst (v := 0) dX11_wayOf_67 rfl ?_
    refine aw_goto (tgt := 93) dX11_wayOf_68 (by decide) ?_
    refine aw_reti dX11_wayOf_93 rfl rfl ⟨Nat.le_of_ble_eq_true rfl, Nat.le_of_ble_eq_true rfl⟩ ?_
    refine ⟨?_, rfl⟩
    rw [hs]
    first
    | (rw [if_pos (by omega)]; rfl)
    | (rw [if_neg (by omega), if_pos (by omega)]; rfl)
    | (rw [if_neg (by omega), if_neg (by omega)]; rfl)
    | (exfalso; omega)
theorem w_wayOf3N (G : aw_G) {H : aw_H} {b : Nat → Nat} {i : Nat} (hb : b i < 256) (hc : i % 5 = 3) (hq : q_w b i = false) : aw_Met G mX11_wayOf [.int 3, .int (nI (b i)), .int (-1)] H (fun v h2 => v = some (.int (-9)) ∧ h2 = H) := by
  have hq0 : q_w b i = decide (b i = 117 ∨ b i = 102 ∨ b i = 100) := by
    unfold q_w
    rw [if_neg (by omega), if_neg (by omega), if_neg (by omega), if_pos hc]
  rw [hq0] at hq
  have hp := of_decide_eq_false hq
  have hs : s_w b i = (if b i = 117 then 0 else if b i = 102 then 1 else 2) := by
    unfold s_w
    rw [if_neg (by omega), if_neg (by omega), if_neg (by omega), if_pos hc]
  refine aw_Met.of okX11_wayOf (Nat.le_of_ble_eq_true rfl) ?_
  show aw_W G mX11_wayOf 0 [.int 3, .int (nI (b i)), .int (-1)] [] H (0, 0) _
  refine aw_iload_n dX11_wayOf_0 rfl ?_
  refine aw_swIn (off := 60) (tgt := 61) dX11_wayOf_1 (by decide) (by decide) rfl (by decide) ?_
  refine aw_iload_n dX11_wayOf_61 rfl ?_
  refine aw_bipush (v := 117) dX11_wayOf_62 (by decide) ?_
  refine aw_ic_ne_n (a := b i) (b := 117) (tgt := 71) dX11_wayOf_64 (by decide) (by omega) (by omega) (fun c64 => ?_) (fun c64 => ?_)
  · refine aw_iload_n dX11_wayOf_71 rfl ?_
    refine aw_bipush (v := 102) dX11_wayOf_72 (by decide) ?_
    refine aw_ic_ne_n (a := b i) (b := 102) (tgt := 81) dX11_wayOf_74 (by decide) (by omega) (by omega) (fun c74 => ?_) (fun c74 => ?_)
    · refine aw_iload_n dX11_wayOf_81 rfl ?_
      refine aw_bipush (v := 100) dX11_wayOf_82 (by decide) ?_
      refine aw_ic_ne_n (a := b i) (b := 100) (tgt := 91) dX11_wayOf_84 (by decide) (by omega) (by omega) (fun c84 => ?_) (fun c84 => ?_)
      · refine aw_bipush (v := -9) dX11_wayOf_91 (by decide) ?_
        refine aw_reti dX11_wayOf_93 rfl rfl ⟨Nat.le_of_ble_eq_true rfl, Nat.le_of_ble_eq_true rfl⟩ ?_
        refine ⟨?_, rfl⟩
        first
        | rfl
        | (exfalso; omega)
      · refine aw_iconst (v := 2) dX11_wayOf_87 rfl ?_
        refine aw_goto (tgt := 93) dX11_wayOf_88 (by decide) ?_
        refine aw_reti dX11_wayOf_93 rfl rfl ⟨Nat.le_of_ble_eq_true rfl, Nat.le_of_ble_eq_true rfl⟩ ?_
        refine ⟨?_, rfl⟩
        first
        | rfl
        | (exfalso; omega)
    · refine aw_iconst (v := 1) dX11_wayOf_77 rfl ?_
      refine aw_goto (tgt := 93) dX11_wayOf_78 (by decide) ?_
      refine aw_reti dX11_wayOf_93 rfl rfl ⟨Nat.le_of_ble_eq_true rfl, Nat.le_of_ble_eq_true rfl⟩ ?_
      refine ⟨?_, rfl⟩
      first
      | rfl
      | (exfalso; omega)
  · refine aw_iconst (v := 0) dX11_wayOf_67 rfl ?_
    refine aw_goto (tgt := 93) dX11_wayOf_68 (by decide) ?_
    refine aw_reti dX11_wayOf_93 rfl rfl ⟨Nat.le_of_ble_eq_true rfl, Nat.le_of_ble_eq_true rfl⟩ ?_
    refine ⟨?_, rfl⟩
    first
    | rfl
    | (exfalso; omega)
theorem w_wayOf4Y (G : aw_G) {H : aw_H} {b : Nat → Nat} {i : Nat} (hb : b i < 256) (hc : i % 5 = 4) (hq : q_w b i = true) : aw_Met G mX11_wayOf [.int 4, .int (nI (b i)), .int (-1)] H (fun v h2 => v = some (.int (nI (s_w b i))) ∧ h2 = H) := by
  have hq0 : q_w b i = decide (b i = 59) := by
    unfold q_w
    rw [if_neg (by omega), if_neg (by omega), if_neg (by omega), if_neg (by omega)]
  rw [hq0] at hq
  have hp := of_decide_eq_true hq
  have hs : s_w b i = (0) := by
    unfold s_w
    rw [if_neg (by omega), if_neg (by omega), if_neg (by omega), if_neg (by omega)]
  refine aw_Met.of okX11_wayOf (Nat.le_of_ble_eq_true rfl) ?_
  show aw_W G mX11_wayOf 0 [.int 4, .int (nI (b i)), .int (-1)] [] H (0, 0) _
  refine aw_iload_n dX11_wayOf_0 rfl ?_
  refine aw_swOut (tgt := 94) dX11_wayOf_1 (by decide) (by decide) ?_
  refine aw_iload_n dX11_wayOf_94 rfl ?_
  refine aw_bipush (v := 59) dX11_wayOf_95 (by decide) ?_
  refine aw_ic_ne_n (a := b i) (b := 59) (tgt := 104) dX11_wayOf_97 (by decide) (by omega) (by omega) (fun c97 => ?_) (fun c97 => ?_)
  · refine aw_bipush (v := -9) dX11_wayOf_104 (by decide) ?_
    refine aw_reti dX11_wayOf_106 rfl rfl ⟨Nat.le_of_ble_eq_true rfl, Nat.le_of_ble_eq_true rfl⟩ ?_
    refine ⟨?_, rfl⟩
    first
    | (exfalso; omega)
    | (rw [hs]; rfl)
  · refine aw_iconst (v := 0) dX11_wayOf_100 rfl ?_
    refine aw_goto (tgt := 106) dX11_wayOf_101 (by decide) ?_
    refine aw_reti dX11_wayOf_106 rfl rfl ⟨Nat.le_of_ble_eq_true rfl, Nat.le_of_ble_eq_true rfl⟩ ?_
    refine ⟨?_, rfl⟩
    first
    | (exfalso; omega)
    | (rw [hs]; rfl)
theorem w_wayOf4N (G : aw_G) {H : aw_H} {b : Nat → Nat} {i : Nat} (hb : b i < 256) (hc : i % 5 = 4) (hq : q_w b i = false) : aw_Met G mX11_wayOf [.int 4, .int (nI (b i)), .int (-1)] H (fun v h2 => v = some (.int (-9)) ∧ h2 = H) := by
  have hq0 : q_w b i = decide (b i = 59) := by
    unfold q_w
    rw [if_neg (by omega), if_neg (by omega), if_neg (by omega), if_neg (by omega)]
  rw [hq0] at hq
  have hp := of_decide_eq_false hq
  have hs : s_w b i = (0) := by
    unfold s_w
    rw [if_neg (by omega), if_neg (by omega), if_neg (by omega), if_neg (by omega)]
  refine aw_Met.of okX11_wayOf (Nat.le_of_ble_eq_true rfl) ?_
  show aw_W G mX11_wayOf 0 [.int 4, .int (nI (b i)), .int (-1)] [] H (0, 0) _
  refine aw_iload_n dX11_wayOf_0 rfl ?_
  refine aw_swOut (tgt := 94) dX11_wayOf_1 (by decide) (by decide) ?_
  refine aw_iload_n dX11_wayOf_94 rfl ?_
  refine aw_bipush (v := 59) dX11_wayOf_95 (by decide) ?_
  refine aw_ic_ne_n (a := b i) (b := 59) (tgt := 104) dX11_wayOf_97 (by decide) (by omega) (by omega) (fun c97 => ?_) (fun c97 => ?_)
  · refine aw_bipush (v := -9) dX11_wayOf_104 (by decide) ?_
    refine aw_reti dX11_wayOf_106 rfl rfl ⟨Nat.le_of_ble_eq_true rfl, Nat.le_of_ble_eq_true rfl⟩ ?_
    refine ⟨?_, rfl⟩
    first
    | (exfalso; omega)
    | rfl
  · refine aw_iconst (v := 0) dX11_wayOf_100 rfl ?_
    refine aw_goto (tgt := 106) dX11_wayOf_101 (by decide) ?_
    refine aw_reti dX11_wayOf_106 rfl rfl ⟨Nat.le_of_ble_eq_true rfl, Nat.le_of_ble_eq_true rfl⟩ ?_
    refine ⟨?_, rfl⟩
    first
    | (exfalso; omega)
    | rfl
theorem w_carterOf0Y (G : aw_G) {H : aw_H} {b : Nat → Nat} {i : Nat} (hb : b i < 256) (hc : i % 7 = 0) (hq : q_c b i = true) : aw_Met G mX11_carterOf [.int 0, .int (nI (b i))] H (fun v h2 => v = some (.int (nI (s_c b i))) ∧ h2 = H) := by
  have hq0 : q_c b i = decide (q_pl (b i)) := by
    unfold q_c
    rw [if_pos hc]
  rw [hq0] at hq
  have hp := of_decide_eq_true hq
  have hs : s_c b i = (b i - 97) := by
    unfold s_c
    rw [if_pos hc]
  refine aw_Met.of okX11_carterOf (Nat.le_of_ble_eq_true rfl) ?_
  show aw_W G mX11_carterOf 0 [.int 0, .int (nI (b i))] [] H (0, 0) _
  refine aw_iload_n dX11_carterOf_0 rfl ?_
  refine aw_swIn (off := 39) (tgt := 40) dX11_carterOf_1 (by decide) (by decide) rfl (by decide) ?_
  refine aw_iload_n dX11_carterOf_40 rfl ?_
  refine aw_S0c (As := [_]) dX11_carterOf_41 k11_121 rfl rfl (Nat.le_of_ble_eq_true rfl) ⟨⟨Nat.le_of_ble_eq_true rfl, Nat.le_of_ble_eq_true rfl⟩, ⟨Nat.le_of_ble_eq_true rfl, Nat.le_of_ble_eq_true rfl⟩⟩ ⟨rfl, rfl⟩ (w_placeY G hb hp) (fun v h2 hq => ?_)
  obtain ⟨rfl, rfl⟩ := hq
  refine aw_reti dX11_carterOf_44 rfl rfl ⟨Nat.le_of_ble_eq_true rfl, Nat.le_of_ble_eq_true rfl⟩ ?_
  exact ⟨by rw [hs], rfl⟩
theorem w_carterOf0N (G : aw_G) {H : aw_H} {b : Nat → Nat} {i : Nat} (hb : b i < 256) (hc : i % 7 = 0) (hq : q_c b i = false) : aw_Met G mX11_carterOf [.int 0, .int (nI (b i))] H (fun v h2 => v = some (.int (-9)) ∧ h2 = H) := by
  have hq0 : q_c b i = decide (q_pl (b i)) := by
    unfold q_c
    rw [if_pos hc]
  rw [hq0] at hq
  have hp := of_decide_eq_false hq
  have hs : s_c b i = (b i - 97) := by
    unfold s_c
    rw [if_pos hc]
  refine aw_Met.of okX11_carterOf (Nat.le_of_ble_eq_true rfl) ?_
  show aw_W G mX11_carterOf 0 [.int 0, .int (nI (b i))] [] H (0, 0) _
  refine aw_iload_n dX11_carterOf_0 rfl ?_
  refine aw_swIn (off := 39) (tgt := 40) dX11_carterOf_1 (by decide) (by decide) rfl (by decide) ?_
  refine aw_iload_n dX11_carterOf_40 rfl ?_
  refine aw_S0c (As := [_]) dX11_carterOf_41 k11_121 rfl rfl (Nat.le_of_ble_eq_true rfl) ⟨⟨Nat.le_of_ble_eq_true rfl, Nat.le_of_ble_eq_true rfl⟩, ⟨Nat.le_of_ble_eq_true rfl, Nat.le_of_ble_eq_true rfl⟩⟩ ⟨rfl, rfl⟩ (w_placeN G hb hp) (fun v h2 hq => ?_)
  obtain ⟨rfl, rfl⟩ := hq
  refine aw_reti dX11_carterOf_44 rfl rfl ⟨Nat.le_of_ble_eq_true rfl, Nat.le_of_ble_eq_true rfl⟩ ?_
  exact ⟨rfl, rfl⟩
theorem w_carterOf1Y (G : aw_G) {H : aw_H} {b : Nat → Nat} {i : Nat} (hb : b i < 256) (hc : i % 7 = 1) (hq : q_c b i = true) : aw_Met G mX11_carterOf [.int 1, .int (nI (b i))] H (fun v h2 => v = some (.int (nI (s_c b i))) ∧ h2 = H) := by
  have hq0 : q_c b i = decide (q_pl (b i)) := by
    unfold q_c
    rw [if_neg (by omega), if_pos hc]
  rw [hq0] at hq
  have hp := of_decide_eq_true hq
  have hs : s_c b i = (b i - 97) := by
    unfold s_c
    rw [if_neg (by omega), if_pos hc]
  refine aw_Met.of okX11_carterOf (Nat.le_of_ble_eq_true rfl) ?_
  show aw_W G mX11_carterOf 0 [.int 1, .int (nI (b i))] [] H (0, 0) _
  refine aw_iload_n dX11_carterOf_0 rfl ?_
  refine aw_swIn (off := 39) (tgt := 40) dX11_carterOf_1 (by decide) (by decide) rfl (by decide) ?_
  refine aw_iload_n dX11_carterOf_40 rfl ?_
  refine aw_S0c (As := [_]) dX11_carterOf_41 k11_121 rfl rfl (Nat.le_of_ble_eq_true rfl) ⟨⟨Nat.le_of_ble_eq_true rfl, Nat.le_of_ble_eq_true rfl⟩, ⟨Nat.le_of_ble_eq_true rfl, Nat.le_of_ble_eq_true rfl⟩⟩ ⟨rfl, rfl⟩ (w_placeY G hb hp) (fun v h2 hq => ?_)
  obtain ⟨rfl, rfl⟩ := hq
  refine aw_reti dX11_carterOf_44 rfl rfl ⟨Nat.le_of_ble_eq_true rfl, Nat.le_of_ble_eq_true rfl⟩ ?_
  exact ⟨by rw [hs], rfl⟩
theorem w_carterOf1N (G : aw_G) {H : aw_H} {b : Nat → Nat} {i : Nat} (hb : b i < 256) (hc : i % 7 = 1) (hq : q_c b i = false) : aw_Met G mX11_carterOf [.int 1, .int (nI (b i))] H (fun v h2 => v = some (.int (-9)) ∧ h2 = H) := by
  have hq0 : q_c b i = decide (q_pl (b i)) := by
    unfold q_c
    rw [if_neg (by omega), if_pos hc]
  rw [hq0] at hq
  have hp := of_decide_eq_false hq
  have hs : s_c b i = (b i - 97) := by
    unfold s_c
    rw [if_neg (by omega), if_pos hc]
  refine aw_Met.of okX11_carterOf (Nat.le_of_ble_eq_true rfl) ?_
  show aw_W G mX11_carterOf 0 [.int 1, .int (nI (b i))] [] H (0, 0) _
  refine aw_iload_n dX11_carterOf_0 rfl ?_
  refine aw_swIn (off := 39) (tgt := 40) dX11_carterOf_1 (by decide) (by decide) rfl (by decide) ?_
  refine aw_iload_n dX11_carterOf_40 rfl ?_
  refine aw_S0c (As := [_]) dX11_carterOf_41 k11_121 rfl rfl (Nat.le_of_ble_eq_true rfl) ⟨⟨Nat.le_of_ble_eq_true rfl, Nat.le_of_ble_eq_true rfl⟩, ⟨Nat.le_of_ble_eq_true rfl, Nat.le_of_ble_eq_true rfl⟩⟩ ⟨rfl, rfl⟩ (w_placeN G hb hp) (fun v h2 hq => ?_)
  obtain ⟨rfl, rfl⟩ := hq
  refine aw_reti dX11_carterOf_44 rfl rfl ⟨Nat.le_of_ble_eq_true rfl, Nat.le_of_ble_eq_true rfl⟩ ?_
  exact ⟨rfl, rfl⟩
theorem w_carterOf2Y (G : aw_G) {H : aw_H} {b : Nat → Nat} {i : Nat} (hb : b i < 256) (hc : i % 7 = 2) (hq : q_c b i = true) : aw_Met G mX11_carterOf [.int 2, .int (nI (b i))] H (fun v h2 => v = some (.int (nI (s_c b i))) ∧ h2 = H) := by
  have hq0 : q_c b i = decide (b i = 111 ∨ b i = 99 ∨ b i = 114) := by
    unfold q_c
    rw [if_neg (by omega), if_neg (by omega), if_pos hc]
  rw [hq0] at hq
  have hp := of_decide_eq_true hq
  have hs : s_c b i = (if b i = 111 then 0 else if b i = 99 then 1 else 2) := by
    unfold s_c
    rw [if_neg (by omega), if_neg (by omega), if_pos hc]
  refine aw_Met.of okX11_carterOf (Nat.le_of_ble_eq_true rfl) ?_
  show aw_W G mX11_carterOf 0 [.int 2, .int (nI (b i))] [] H (0, 0) _
  refine aw_iload_n dX11_carterOf_0 rfl ?_
  refine aw_swIn (off := 44) (tgt := 45) dX11_carterOf_1 (by decide) (by decide) rfl (by decide) ?_
  refine aw_iload_n dX11_carterOf_45 rfl ?_
  refine aw_bipush (v := 111) dX11_carterOf_46 (by decide) ?_
  refine aw_ic_ne_n (a := b i) (b := 111) (tgt := 55) dX11_carterOf_48 (by decide) (by omega) (by omega) (fun c48 => ?_) (fun c48 => ?_)
  · refine aw_iload_n dX11_carterOf_55 rfl ?_
    refine aw_bipush (v := 99) dX11_carterOf_56 (by decide) ?_
    refine aw_ic_ne_n (a := b i) (b := 99) (tgt := 65) dX11_carterOf_58 (by decide) (by omega) (by omega) (fun c58 => ?_) (fun c58 => ?_)
    · refine aw_iload_n dX11_carterOf_65 rfl ?_
      refine aw_bipush (v := 114) dX11_carterOf_66 (by decide) ?_
      refine aw_ic_ne_n (a := b i) (b := 114) (tgt := 75) dX11_carterOf_68 (by decide) (by omega) (by omega) (fun c68 => ?_) (fun c68 => ?_)
      · refine aw_bipush (v := -9) dX11_carterOf_75 (by decide) ?_
        refine aw_reti dX11_carterOf_77 rfl rfl ⟨Nat.le_of_ble_eq_true rfl, Nat.le_of_ble_eq_true rfl⟩ ?_
        refine ⟨?_, rfl⟩
        rw [hs]
        first
        | (rw [if_pos (by omega)]; rfl)
        | (rw [if_neg (by omega), if_pos (by omega)]; rfl)
        | (rw [if_neg (by omega), if_neg (by omega)]; rfl)
        | (exfalso; omega)
      · refine aw_iconst (v := 2) dX11_carterOf_71 rfl ?_
        refine aw_goto (tgt := 77) dX11_carterOf_72 (by decide) ?_
        refine aw_reti dX11_carterOf_77 rfl rfl ⟨Nat.le_of_ble_eq_true rfl, Nat.le_of_ble_eq_true rfl⟩ ?_
        refine ⟨?_, rfl⟩
        rw [hs]
        first
        | (rw [if_pos (by omega)]; rfl)
        | (rw [if_neg (by omega), if_pos (by omega)]; rfl)
        | (rw [if_neg (by omega), if_neg (by omega)]; rfl)
        | (exfalso; omega)
    · refine aw_iconst (v := 1) dX11_carterOf_61 rfl ?_
      refine aw_goto (tgt := 77) dX11_carterOf_62 (by decide) ?_
      refine aw_reti dX11_carterOf_77 rfl rfl ⟨Nat.le_of_ble_eq_true rfl, Nat.le_of_ble_eq_true rfl⟩ ?_
      refine ⟨?_, rfl⟩
      rw [hs]
      first
      | (rw [if_pos (by omega)]; rfl)
      | (rw [if_neg (by omega), if_pos (by omega)]; rfl)
      | (rw [if_neg (by omega), if_neg (by omega)]; rfl)
      | (exfalso; omega)
  · refine aw_iconst (v := 0) dX11_carterOf_51 rfl ?_
    refine aw_goto (tgt := 77) dX11_carterOf_52 (by decide) ?_
    refine aw_reti dX11_carterOf_77 rfl rfl ⟨Nat.le_of_ble_eq_true rfl, Nat.le_of_ble_eq_true rfl⟩ ?_
    refine ⟨?_, rfl⟩
    rw [hs]
    first
    | (rw [if_pos (by omega)]; rfl)
    | (rw [if_neg (by omega), if_pos (by omega)]; rfl)
    | (rw [if_neg (by omega), if_neg (by omega)]; rfl)
    | (exfalso; omega)
theorem w_carterOf2N (G : aw_G) {H : aw_H} {b : Nat → Nat} {i : Nat} (hb : b i < 256) (hc : i % 7 = 2) (hq : q_c b i = false) : aw_Met G mX11_carterOf [.int 2, .int (nI (b i))] H (fun v h2 => v = some (.int (-9)) ∧ h2 = H) := by
  have hq0 : q_c b i = decide (b i = 111 ∨ b i = 99 ∨ b i = 114) := by
    unfold q_c
    rw [if_neg (by omega), if_neg (by omega), if_pos hc]
  rw [hq0] at hq
  have hp := of_decide_eq_false hq
  have hs : s_c b i = (if b i = 111 then 0 else if b i = 99 then 1 else 2) := by
    unfold s_c
    rw [if_neg (by omega), if_neg (by omega), if_pos hc]
  refine aw_Met.of okX11_carterOf (Nat.le_of_ble_eq_true rfl) ?_
  show aw_W G mX11_carterOf 0 [.int 2, .int (nI (b i))] [] H (0, 0) _
  refine aw_iload_n dX11_carterOf_0 rfl ?_
  refine aw_swIn (off := 44) (tgt := 45) dX11_carterOf_1 (by decide) (by decide) rfl (by decide) ?_
  refine aw_iload_n dX11_carterOf_45 rfl ?_
  refine aw_bipush (v := 111) dX11_carterOf_46 (by decide) ?_
  refine aw_ic_ne_n (a := b i) (b := 111) (tgt := 55) dX11_carterOf_48 (by decide) (by omega) (by omega) (fun c48 => ?_) (fun c48 => ?_)
  · refine aw_iload_n dX11_carterOf_55 rfl ?_
    refine aw_bipush (v := 99) dX11_carterOf_56 (by decide) ?_
    refine aw_ic_ne_n (a := b i) (b := 99) (tgt := 65) dX11_carterOf_58 (by decide) (by omega) (by omega) (fun c58 => ?_) (fun c58 => ?_)
    · refine aw_iload_n dX11_carterOf_65 rfl ?_
      refine aw_bipush (v := 114) dX11_carterOf_66 (by decide) ?_
      refine aw_ic_ne_n (a := b i) (b := 114) (tgt := 75) dX11_carterOf_68 (by decide) (by omega) (by omega) (fun c68 => ?_) (fun c68 => ?_)
      · refine aw_bipush (v := -9) dX11_carterOf_75 (by decide) ?_
        refine aw_reti dX11_carterOf_77 rfl rfl ⟨Nat.le_of_ble_eq_true rfl, Nat.le_of_ble_eq_true rfl⟩ ?_
        refine ⟨?_, rfl⟩
        first
        | rfl
        | (exfalso; omega)
      · refine aw_iconst (v := 2) dX11_carterOf_71 rfl ?_
        refine aw_goto (tgt := 77) dX11_carterOf_72 (by decide) ?_
        refine aw_reti dX11_carterOf_77 rfl rfl ⟨Nat.le_of_ble_eq_true rfl, Nat.le_of_ble_eq_true rfl⟩ ?_
        refine ⟨?_, rfl⟩
        first
        | rfl
        | (exfalso; omega)
    · refine aw_iconst (v := 1) dX11_carterOf_61 rfl ?_
      refine aw_goto (tgt := 77) dX11_carterOf_62 (by decide) ?_
      refine aw_reti dX11_carterOf_77 rfl rfl ⟨Nat.le_of_ble_eq_true rfl, Nat.le_of_ble_eq_true rfl⟩ ?_
      refine ⟨?_, rfl⟩
      first
      | rfl
      | (exfalso; omega)
  · refine aw_iconst (v := 0) dX11_carterOf_51 rfl ?_
    refine aw_goto (tgt := 77) dX11_carterOf_52 (by decide) ?_
    refine aw_reti dX11_carterOf_77 rfl rfl ⟨Nat.le_of_ble_eq_true rfl, Nat.le_of_ble_eq_true rfl⟩ ?_
    refine ⟨?_, rfl⟩
    first
    | rfl
    | (exfalso; omega)
theorem w_carterOf3Y (G : aw_G) {H : aw_H} {b : Nat → Nat} {i : Nat} (hb : b i < 256) (hc : i % 7 = 3) (hq : q_c b i = true) : aw_Met G mX11_carterOf [.int 3, .int (nI (b i))] H (fun v h2 => v = some (.int (nI (s_c b i))) ∧ h2 = H) := by
  have hq0 : q_c b i = decide (q_fg (b i)) := by
    unfold q_c
    rw [if_neg (by omega), if_neg (by omega), if_neg (by omega), if_pos hc]
  rw [hq0] at hq
  have hp := of_decide_eq_true hq
  have hs : s_c b i = (b i - 48) := by
    unfold s_c
    rw [if_neg (by omega), if_neg (by omega), if_neg (by omega), if_pos hc]
  refine aw_Met.of okX11_carterOf (Nat.le_of_ble_eq_true rfl) ?_
  show aw_W G mX11_carterOf 0 [.int 3, .int (nI (b i))] [] H (0, 0) _
  refine aw_iload_n dX11_carterOf_0 rfl ?_
  refine aw_swIn (off := 77) (tgt := 78) dX11_carterOf_1 (by decide) (by decide) rfl (by decide) ?_
  refine aw_iload_n dX11_carterOf_78 rfl ?_
  refine aw_iconst (v := 0) dX11_carterOf_79 rfl ?_
  refine aw_S0c (As := [_, _]) dX11_carterOf_80 k11_124 rfl rfl (Nat.le_of_ble_eq_true rfl) ⟨⟨Nat.le_of_ble_eq_true rfl, Nat.le_of_ble_eq_true rfl⟩, ⟨Nat.le_of_ble_eq_true rfl, Nat.le_of_ble_eq_true rfl⟩⟩ ⟨rfl, rfl⟩ (w_figY G (a := 0) hb (by decide) (by omega)) (fun v h2 hq => ?_)
  obtain ⟨rfl, rfl⟩ := hq
  refine aw_reti dX11_carterOf_83 rfl rfl ⟨Nat.le_of_ble_eq_true rfl, Nat.le_of_ble_eq_true rfl⟩ ?_
  exact ⟨by rw [hs], rfl⟩
theorem w_carterOf3N (G : aw_G) {H : aw_H} {b : Nat → Nat} {i : Nat} (hb : b i < 256) (hc : i % 7 = 3) (hq : q_c b i = false) : aw_Met G mX11_carterOf [.int 3, .int (nI (b i))] H (fun v h2 => v = some (.int (-9)) ∧ h2 = H) := by
  have hq0 : q_c b i = decide (q_fg (b i)) := by
    unfold q_c
    rw [if_neg (by omega), if_neg (by omega), if_neg (by omega), if_pos hc]
  rw [hq0] at hq
  have hp := of_decide_eq_false hq
  have hs : s_c b i = (b i - 48) := by
    unfold s_c
    rw [if_neg (by omega), if_neg (by omega), if_neg (by omega), if_pos hc]
  refine aw_Met.of okX11_carterOf (Nat.le_of_ble_eq_true rfl) ?_
  show aw_W G mX11_carterOf 0 [.int 3, .int (nI (b i))] [] H (0, 0) _
  refine aw_iload_n dX11_carterOf_0 rfl ?_
  refine aw_swIn (off := 77) (tgt := 78) dX11_carterOf_1 (by decide) (by decide) rfl (by decide) ?_
  refine aw_iload_n dX11_carterOf_78 rfl ?_
  refine aw_iconst (v := 0) dX11_carterOf_79 rfl ?_
  refine aw_S0c (As := [_, _]) dX11_carterOf_80 k11_124 rfl rfl (Nat.le_of_ble_eq_true rfl) ⟨⟨Nat.le_of_ble_eq_true rfl, Nat.le_of_ble_eq_true rfl⟩, ⟨Nat.le_of_ble_eq_true rfl, Nat.le_of_ble_eq_true rfl⟩⟩ ⟨rfl, rfl⟩ (w_figN G (a := 0) hb (by decide) (by omega)) (fun v h2 hq => ?_)
  obtain ⟨rfl, rfl⟩ := hq
  refine aw_reti dX11_carterOf_83 rfl rfl ⟨Nat.le_of_ble_eq_true rfl, Nat.le_of_ble_eq_true rfl⟩ ?_
  exact ⟨rfl, rfl⟩
theorem w_carterOf4Y (G : aw_G) {H : aw_H} {b : Nat → Nat} {i : Nat} (hb : b i < 256) (hc : i % 7 = 4) (hq : q_c b i = true) : aw_Met G mX11_carterOf [.int 4, .int (nI (b i))] H (fun v h2 => v = some (.int (nI (s_c b i))) ∧ h2 = H) := by
  have hq0 : q_c b i = decide (q_fg (b i)) := by
    unfold q_c
    rw [if_neg (by omega), if_neg (by omega), if_neg (by omega), if_neg (by omega), if_pos hc]
  rw [hq0] at hq
  have hp := of_decide_eq_true hq
  have hs : s_c b i = (b i - 48) := by
    unfold s_c
    rw [if_neg (by omega), if_neg (by omega), if_neg (by omega), if_neg (by omega), if_pos hc]
  refine aw_Met.of okX11_carterOf (Nat.le_of_ble_eq_true rfl) ?_
  show aw_W G mX11_carterOf 0 [.int 4, .int (nI (b i))] [] H (0, 0) _
  refine aw_iload_n dX11_carterOf_0 rfl ?_
  refine aw_swIn (off := 77) (tgt := 78) dX11_carterOf_1 (by decide) (by decide) rfl (by decide) ?_
  refine aw_iload_n dX11_carterOf_78 rfl ?_
  refine aw_iconst (v := 0) dX11_carterOf_79 rfl ?_
  refine aw_S0c (As := [_, _]) dX11_carterOf_80 k11_124 rfl rfl (Nat.le_of_ble_eq_true rfl) ⟨⟨Nat.le_of_ble_eq_true rfl, Nat.le_of_ble_eq_true rfl⟩, ⟨Nat.le_of_ble_eq_true rfl, Nat.le_of_ble_eq_true rfl⟩⟩ ⟨rfl, rfl⟩ (w_figY G (a := 0) hb (by decide) (by omega)) (fun v h2 hq => ?_)
  obtain ⟨rfl, rfl⟩ := hq
  refine aw_reti dX11_carterOf_83 rfl rfl ⟨Nat.le_of_ble_eq_true rfl, Nat.le_of_ble_eq_true rfl⟩ ?_
  exact ⟨by rw [hs], rfl⟩
theorem w_carterOf4N (G : aw_G) {H : aw_H} {b : Nat → Nat} {i : Nat} (hb : b i < 256) (hc : i % 7 = 4) (hq : q_c b i = false) : aw_Met G mX11_carterOf [.int 4, .int (nI (b i))] H (fun v h2 => v = some (.int (-9)) ∧ h2 = H) := by
  have hq0 : q_c b i = decide (q_fg (b i)) := by
    unfold q_c
    rw [if_neg (by omega), if_neg (by omega), if_neg (by omega), if_neg (by omega), if_pos hc]
  rw [hq0] at hq
  have hp := of_decide_eq_false hq
  have hs : s_c b i = (b i - 48) := by
    unfold s_c
    rw [if_neg (by omega), if_neg (by omega), if_neg (by omega), if_neg (by omega), if_pos hc]
  refine aw_Met.of okX11_carterOf (Nat.le_of_ble_eq_true rfl) ?_
  show aw_W G mX11_carterOf 0 [.int 4, .int (nI (b i))] [] H (0, 0) _
  refine aw_iload_n dX11_carterOf_0 rfl ?_
  refine aw_swIn (off := 77) (tgt := 78) dX11_carterOf_1 (by decide) (by decide) rfl (by decide) ?_
  refine aw_iload_n dX11_carterOf_78 rfl ?_
  refine aw_iconst (v := 0) dX11_carterOf_79 rfl ?_
  refine aw_S0c (As := [_, _]) dX11_carterOf_80 k11_124 rfl rfl (Nat.le_of_ble_eq_true rfl) ⟨⟨Nat.le_of_ble_eq_true rfl, Nat.le_of_ble_eq_true rfl⟩, ⟨Nat.le_of_ble_eq_true rfl, Nat.le_of_ble_eq_true rfl⟩⟩ ⟨rfl, rfl⟩ (w_figN G (a := 0) hb (by decide) (by omega)) (fun v h2 hq => ?_)
  obtain ⟨rfl, rfl⟩ := hq
  refine aw_reti dX11_carterOf_83 rfl rfl ⟨Nat.le_of_ble_eq_true rfl, Nat.le_of_ble_eq_true rfl⟩ ?_
  exact ⟨rfl, rfl⟩
theorem w_carterOf5Y (G : aw_G) {H : aw_H} {b : Nat → Nat} {i : Nat} (hb : b i < 256) (hc : i % 7 = 5) (hq : q_c b i = true) : aw_Met G mX11_carterOf [.int 5, .int (nI (b i))] H (fun v h2 => v = some (.int (nI (s_c b i))) ∧ h2 = H) := by
  have hq0 : q_c b i = decide (q_fg (b i)) := by
    unfold q_c
    rw [if_neg (by omega), if_neg (by omega), if_neg (by omega), if_neg (by omega), if_neg (by omega), if_pos hc]
  rw [hq0] at hq
  have hp := of_decide_eq_true hq
  have hs : s_c b i = (b i - 48) := by
    unfold s_c
    rw [if_neg (by omega), if_neg (by omega), if_neg (by omega), if_neg (by omega), if_neg (by omega), if_pos hc]
  refine aw_Met.of okX11_carterOf (Nat.le_of_ble_eq_true rfl) ?_
  show aw_W G mX11_carterOf 0 [.int 5, .int (nI (b i))] [] H (0, 0) _
  refine aw_iload_n dX11_carterOf_0 rfl ?_
  refine aw_swIn (off := 77) (tgt := 78) dX11_carterOf_1 (by decide) (by decide) rfl (by decide) ?_
  refine aw_iload_n dX11_carterOf_78 rfl ?_
  refine aw_iconst (v := 0) dX11_carterOf_79 rfl ?_
  refine aw_S0c (As := [_, _]) dX11_carterOf_80 k11_124 rfl rfl (Nat.le_of_ble_eq_true rfl) ⟨⟨Nat.le_of_ble_eq_true rfl, Nat.le_of_ble_eq_true rfl⟩, ⟨Nat.le_of_ble_eq_true rfl, Nat.le_of_ble_eq_true rfl⟩⟩ ⟨rfl, rfl⟩ (w_figY G (a := 0) hb (by decide) (by omega)) (fun v h2 hq => ?_)
  obtain ⟨rfl, rfl⟩ := hq
  refine aw_reti dX11_carterOf_83 rfl rfl ⟨Nat.le_of_ble_eq_true rfl, Nat.le_of_ble_eq_true rfl⟩ ?_
  exact ⟨by rw [hs], rfl⟩
theorem w_carterOf5N (G : aw_G) {H : aw_H} {b : Nat → Nat} {i : Nat} (hb : b i < 256) (hc : i % 7 = 5) (hq : q_c b i = false) : aw_Met G mX11_carterOf [.int 5, .int (nI (b i))] H (fun v h2 => v = some (.int (-9)) ∧ h2 = H) := by
  have hq0 : q_c b i = decide (q_fg (b i)) := by
    unfold q_c
    rw [if_neg (by omega), if_neg (by omega), if_neg (by omega), if_neg (by omega), if_neg (by omega), if_pos hc]
  rw [hq0] at hq
  have hp := of_decide_eq_false hq
  have hs : s_c b i = (b i - 48) := by
    unfold s_c
    rw [if_neg (by omega), if_neg (by omega), if_neg (by omega), if_neg (by omega), if_neg (by omega), if_pos hc]
  refine aw_Met.of okX11_carterOf (Nat.le_of_ble_eq_true rfl) ?_
  show aw_W G mX11_carterOf 0 [.int 5, .int (nI (b i))] [] H (0, 0) _
  refine aw_iload_n dX11_carterOf_0 rfl ?_
  refine aw_swIn (off := 77) (tgt := 78) dX11_carterOf_1 (by decide) (by decide) rfl (by decide) ?_
  refine aw_iload_n dX11_carterOf_78 rfl ?_
  refine aw_iconst (v := 0) dX11_carterOf_79 rfl ?_
  refine aw_S0c (As := [_, _]) dX11_carterOf_80 k11_124 rfl rfl (Nat.le_of_ble_eq_true rfl) ⟨⟨Nat.le_of_ble_eq_true rfl, Nat.le_of_ble_eq_true rfl⟩, ⟨Nat.le_of_ble_eq_true rfl, Nat.le_of_ble_eq_true rfl⟩⟩ ⟨rfl, rfl⟩ (w_figN G (a := 0) hb (by decide) (by omega)) (fun v h2 hq => ?_)
  obtain ⟨rfl, rfl⟩ := hq
  refine aw_reti dX11_carterOf_83 rfl rfl ⟨Nat.le_of_ble_eq_true rfl, Nat.le_of_ble_eq_true rfl⟩ ?_
  exact ⟨rfl, rfl⟩
theorem w_carterOf6Y (G : aw_G) {H : aw_H} {b : Nat → Nat} {i : Nat} (hb : b i < 256) (hc : i % 7 = 6) (hq : q_c b i = true) : aw_Met G mX11_carterOf [.int 6, .int (nI (b i))] H (fun v h2 => v = some (.int (nI (s_c b i))) ∧ h2 = H) := by
  have hq0 : q_c b i = decide (b i = 59) := by
    unfold q_c
    rw [if_neg (by omega), if_neg (by omega), if_neg (by omega), if_neg (by omega), if_neg (by omega), if_neg (by omega)]
  rw [hq0] at hq
  have hp := of_decide_eq_true hq
  have hs : s_c b i = (0) := by
    unfold s_c
    rw [if_neg (by omega), if_neg (by omega), if_neg (by omega), if_neg (by omega), if_neg (by omega), if_neg (by omega)]
  refine aw_Met.of okX11_carterOf (Nat.le_of_ble_eq_true rfl) ?_
  show aw_W G mX11_carterOf 0 [.int 6, .int (nI (b i))] [] H (0, 0) _
  refine aw_iload_n dX11_carterOf_0 rfl ?_
  refine aw_swOut (tgt := 84) dX11_carterOf_1 (by decide) (by decide) ?_
  refine aw_iload_n dX11_carterOf_84 rfl ?_
  refine aw_bipush (v := 59) dX11_carterOf_85 (by decide) ?_
  refine aw_ic_ne_n (a := b i) (b := 59) (tgt := 94) dX11_carterOf_87 (by decide) (by omega) (by omega) (fun c87 => ?_) (fun c87 => ?_)
  · refine aw_bipush (v := -9) dX11_carterOf_94 (by decide) ?_
    refine aw_reti dX11_carterOf_96 rfl rfl ⟨Nat.le_of_ble_eq_true rfl, Nat.le_of_ble_eq_true rfl⟩ ?_
    refine ⟨?_, rfl⟩
    first
    | (exfalso; omega)
    | (rw [hs]; rfl)
  · refine aw_iconst (v := 0) dX11_carterOf_90 rfl ?_
    refine aw_goto (tgt := 96) dX11_carterOf_91 (by decide) ?_
    refine aw_reti dX11_carterOf_96 rfl rfl ⟨Nat.le_of_ble_eq_true rfl, Nat.le_of_ble_eq_true rfl⟩ ?_
    refine ⟨?_, rfl⟩
    first
    | (exfalso; omega)
    | (rw [hs]; rfl)
theorem w_carterOf6N (G : aw_G) {H : aw_H} {b : Nat → Nat} {i : Nat} (hb : b i < 256) (hc : i % 7 = 6) (hq : q_c b i = false) : aw_Met G mX11_carterOf [.int 6, .int (nI (b i))] H (fun v h2 => v = some (.int (-9)) ∧ h2 = H) := by
  have hq0 : q_c b i = decide (b i = 59) := by
    unfold q_c
    rw [if_neg (by omega), if_neg (by omega), if_neg (by omega), if_neg (by omega), if_neg (by omega), if_neg (by omega)]
  rw [hq0] at hq
  have hp := of_decide_eq_false hq
  have hs : s_c b i = (0) := by
    unfold s_c
    rw [if_neg (by omega), if_neg (by omega), if_neg (by omega), if_neg (by omega), if_neg (by omega), if_neg (by omega)]
  refine aw_Met.of okX11_carterOf (Nat.le_of_ble_eq_true rfl) ?_
  show aw_W G mX11_carterOf 0 [.int 6, .int (nI (b i))] [] H (0, 0) _
  refine aw_iload_n dX11_carterOf_0 rfl ?_
  refine aw_swOut (tgt := 84) dX11_carterOf_1 (by decide) (by decide) ?_
  refine aw_iload_n dX11_carterOf_84 rfl ?_
  refine aw_bipush (v := 59) dX11_carterOf_85 (by decide) ?_
  refine aw_ic_ne_n (a := b i) (b := 59) (tgt := 94) dX11_carterOf_87 (by decide) (by omega) (by omega) (fun c87 => ?_) (fun c87 => ?_)
  · refine aw_bipush (v := -9) dX11_carterOf_94 (by decide) ?_
    refine aw_reti dX11_carterOf_96 rfl rfl ⟨Nat.le_of_ble_eq_true rfl, Nat.le_of_ble_eq_true rfl⟩ ?_
    refine ⟨?_, rfl⟩
    first
    | (exfalso; omega)
    | rfl
  · refine aw_iconst (v := 0) dX11_carterOf_90 rfl ?_
    refine aw_goto (tgt := 96) dX11_carterOf_91 (by decide) ?_
    refine aw_reti dX11_carterOf_96 rfl rfl ⟨Nat.le_of_ble_eq_true rfl, Nat.le_of_ble_eq_true rfl⟩ ?_
    refine ⟨?_, rfl⟩
    first
    | (exfalso; omega)
    | rfl
theorem w_carterOfY (G : aw_G) {H : aw_H} {b : Nat → Nat} {i : Nat} (hb : b i < 256) (hq : q_c b i = true) : aw_Met G mX11_carterOf [.int (nI (i % 7)), .int (nI (b i))] H (fun v h2 => v = some (.int (nI (s_c b i))) ∧ h2 = H) := by
  have h : i % 7 = 0 ∨ i % 7 = 1 ∨ i % 7 = 2 ∨ i % 7 = 3 ∨ i % 7 = 4 ∨ i % 7 = 5 ∨ i % 7 = 6 := by omega
  rcases h with h | h | h | h | h | h | h
  · rw [h]; exact w_carterOf0Y G hb h hq
  · rw [h]; exact w_carterOf1Y G hb h hq
  · rw [h]; exact w_carterOf2Y G hb h hq
  · rw [h]; exact w_carterOf3Y G hb h hq
  · rw [h]; exact w_carterOf4Y G hb h hq
  · rw [h]; exact w_carterOf5Y G hb h hq
  · rw [h]; exact w_carterOf6Y G hb h hq
theorem w_carterOfN (G : aw_G) {H : aw_H} {b : Nat → Nat} {i : Nat} (hb : b i < 256) (hq : q_c b i = false) : aw_Met G mX11_carterOf [.int (nI (i % 7)), .int (nI (b i))] H (fun v h2 => v = some (.int (-9)) ∧ h2 = H) := by
  have h : i % 7 = 0 ∨ i % 7 = 1 ∨ i % 7 = 2 ∨ i % 7 = 3 ∨ i % 7 = 4 ∨ i % 7 = 5 ∨ i % 7 = 6 := by omega
  rcases h with h | h | h | h | h | h | h
  · rw [h]; exact w_carterOf0N G hb h hq
  · rw [h]; exact w_carterOf1N G hb h hq
  · rw [h]; exact w_carterOf2N G hb h hq
  · rw [h]; exact w_carterOf3N G hb h hq
  · rw [h]; exact w_carterOf4N G hb h hq
  · rw [h]; exact w_carterOf5N G hb h hq
  · rw [h]; exact w_carterOf6N G hb h hq
