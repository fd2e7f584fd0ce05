/-! RUNS are asked, on both sides -/
/-- bits of those for whom f holds -/
def z_who (f : Nat → Bool) : Nat → Nat
  | 0 => 0
  | i + 1 => if f i = true then z_who f i + 2 ^ i else z_who f i
def z_ones (w : Nat) : Nat := zc (fun i => w.testBit i) 8
def z_sum (f : Nat → Nat) : Nat → Nat
  | 0 => 0
  | i + 1 => z_sum f i + f i
/-- the first place with most, one higher, and how many -/
def z_most (f : Nat → Nat) : Nat → Nat × Nat
  | 0 => (0, 0)
  | i + 1 => if (z_most f i).2 < f i then (i + 1, f i) else z_most f i
theorem z_who_lt {f : Nat → Bool} {i : Nat} : z_who f i < 2 ^ i := by
  induction i with
  | zero => exact Nat.one_pos
  | succ i ih => rw [z_who, Nat.pow_succ]; split <;> omega
theorem z_who_256 {f : Nat → Bool} {i : Nat} (h : i ≤ 8) : z_who f i < 256 :=
  Nat.lt_of_lt_of_le z_who_lt (Nat.pow_le_pow_right (by decide) h)
theorem z_who_congr {f g : Nat → Bool} {i : Nat} (h : ∀ j, j < i → f j = g j) : z_who f i = z_who g i := by
  induction i with
  | zero => rfl
  | succ i ih => rw [z_who, z_who, ih (fun j hj => h j (by omega)), h i (by omega)]
theorem z_most_le {f : Nat → Nat} {i B : Nat} (h : ∀ j, j < i → f j ≤ B) : (z_most f i).2 ≤ B ∧ (z_most f i).1 ≤ i := by
  induction i with
  | zero => exact ⟨Nat.zero_le _, Nat.zero_le _⟩
  | succ i ih =>
    have h1 := ih (fun j hj => h j (by omega))
    rw [z_most]
    split
    · exact ⟨h i (by omega), Nat.le_refl _⟩
    · exact ⟨h1.1, by omega⟩
theorem z_sum_le {f : Nat → Nat} {i B : Nat} (h : ∀ j, j < i → f j ≤ B) : z_sum f i ≤ i * B := by
  induction i with
  | zero => exact Nat.zero_le _
  | succ i ih => rw [z_sum, Nat.succ_mul]; have := ih (fun j hj => h j (by omega)); have := h i (by omega); omega
theorem zi_or : ∀ c, c < 8 → ∀ b, b < 256 → b < 2 ^ c → nI b ||| ((1 : Int32) <<< (nI c &&& 31)) = nI (b + 2 ^ c) := by decide +kernel
theorem zi_or0 : ∀ b, b < 256 → nI b ||| (0 : Int32) = nI b := by decide +kernel
theorem zi_sh1 : ∀ c, c < 9 → (1 : Int32) <<< (nI c &&& 31) = nI (2 ^ c) := by decide +kernel
theorem zc_le0 {f : Nat → Bool} {i : Nat} : zc f i ≤ i := by
  induction i with
  | zero => exact Nat.le_refl _
  | succ i ih => rw [zc]; split <;> omega
theorem z_ones_le (w : Nat) : z_ones w ≤ 8 := zc_le0
theorem w_bitCount (G : aw_G) {h : aw_H} {w : Nat} (hw : w < 256) : aw_Met G mJ6_bitCount_0f7a4 [.int (nI w)] h (fun v h2 => v = some (.int (nI (z_ones w))) ∧ h2 = h) := by
  refine aw_Met.of okJ6_bitCount_0f7a4 (Nat.le_of_ble_eq_true rfl) ?_
  show aw_W G mJ6_bitCount_0f7a4 0 [.int (nI w)] [] h (0, 0) _
  refine aw_iload_n dJ6_bitCount_0f7a4_0 rfl ?_
  refine aw_iload_n dJ6_bitCount_0f7a4_1 rfl ?_
  refine aw_iconst (v := 1) dJ6_bitCount_0f7a4_2 rfl ?_
  refine aw_iushr dJ6_bitCount_0f7a4_3 ?_
  refine aw_ldcw dJ6_bitCount_0f7a4_4 co14_265 ?_
  refine aw_iand dJ6_bitCount_0f7a4_7 ?_
  refine aw_isub dJ6_bitCount_0f7a4_8 ?_
  refine aw_istore_n (ls2 := [_]) dJ6_bitCount_0f7a4_9 (by decide) rfl rfl ?_
  refine aw_iload_n dJ6_bitCount_0f7a4_10 rfl ?_
  refine aw_ldcw dJ6_bitCount_0f7a4_11 co14_266 ?_
  refine aw_iand dJ6_bitCount_0f7a4_14 ?_
  refine aw_iload_n dJ6_bitCount_0f7a4_15 rfl ?_
  refine aw_iconst (v := 2) dJ6_bitCount_0f7a4_16 rfl ?_
  refine aw_iushr dJ6_bitCount_0f7a4_17 ?_
  refine aw_ldcw dJ6_bitCount_0f7a4_18 co14_266 ?_
  refine aw_iand dJ6_bitCount_0f7a4_21 ?_
  refine aw_iadd dJ6_bitCount_0f7a4_22 ?_
  refine aw_istore_n (ls2 := [_]) dJ6_bitCount_0f7a4_23 (by decide) rfl rfl ?_
  refine aw_iload_n dJ6_bitCount_0f7a4_24 rfl ?_
  refine aw_iload_n dJ6_bitCount_0f7a4_25 rfl ?_
  refine aw_iconst (v := 4) dJ6_bitCount_0f7a4_26 rfl ?_
  refine aw_iushr dJ6_bitCount_0f7a4_27 ?_
  refine aw_iadd dJ6_bitCount_0f7a4_28 ?_
  refine aw_ldcw dJ6_bitCount_0f7a4_29 co14_267 ?_
  refine aw_iand dJ6_bitCount_0f7a4_32 ?_
  refine aw_istore_n (ls2 := [_]) dJ6_bitCount_0f7a4_33 (by decide) rfl rfl ?_
  refine aw_iload_n dJ6_bitCount_0f7a4_34 rfl ?_
  refine aw_iload_n dJ6_bitCount_0f7a4_35 rfl ?_
  refine aw_bipush (v := 8) dJ6_bitCount_0f7a4_36 (by decide) ?_
  refine aw_iushr dJ6_bitCount_0f7a4_38 ?_
  refine aw_iadd dJ6_bitCount_0f7a4_39 ?_
  refine aw_istore_n (ls2 := [_]) dJ6_bitCount_0f7a4_40 (by decide) rfl rfl ?_
  refine aw_iload_n dJ6_bitCount_0f7a4_41 rfl ?_
  refine aw_iload_n dJ6_bitCount_0f7a4_42 rfl ?_
  refine aw_bipush (v := 16) dJ6_bitCount_0f7a4_43 (by decide) ?_
  refine aw_iushr dJ6_bitCount_0f7a4_45 ?_
  refine aw_iadd dJ6_bitCount_0f7a4_46 ?_
  refine aw_istore_n (ls2 := [_]) dJ6_bitCount_0f7a4_47 (by decide) rfl rfl ?_
  refine aw_iload_n dJ6_bitCount_0f7a4_48 rfl ?_
  refine aw_bipush (v := 63) dJ6_bitCount_0f7a4_49 (by decide) ?_
  refine aw_iand dJ6_bitCount_0f7a4_51 ?_
  refine aw_reti dJ6_bitCount_0f7a4_52 rfl rfl ⟨Nat.le_of_ble_eq_true rfl, Nat.le_of_ble_eq_true rfl⟩ ?_
  refine ⟨congrArg (fun z => some (Value.int z)) ?_, rfl⟩
  revert hw
  revert w
  decide +kernel
theorem zi_and1 : ∀ l, l < 256 → 0 < l → nI l &&& (nI l - 1) = nI (l &&& (l - 1)) := by decide +kernel
theorem zi_and2 : ∀ l, l < 256 → 0 < l → (l &&& (l - 1)) < l ∧ z_ones l = z_ones (l &&& (l - 1)) + 1 := by decide +kernel
theorem w_ones (G : aw_G) {h : aw_H} {w0 : Nat} (hw : w0 < 256) : aw_Met G mX11_ones [.int (nI w0)] h (fun v h2 => v = some (.int (nI (z_ones w0))) ∧ h2 = h) := by
  refine aw_Met.of okX11_ones (Nat.le_of_ble_eq_true rfl) ?_
  show aw_W G mX11_ones 0 [.int (nI w0), aw_x, aw_x] [] h (0, 0) _
  have key : ∀ l, l < 256 → ∀ d, d ≤ 8 → z_ones l + d = z_ones w0 → aw_W G mX11_ones 4 [.int (nI w0), .int (nI d), .int (nI l)] [] h (0, 0) (fun v h2 => v = some (.int (nI (z_ones w0))) ∧ h2 = h) := by
    intro l
    induction l using Nat.strongRecOn with
    | ind l ih0 =>
      intro hl d hd hz
      have ih : ∀ l2, l2 < l → ∀ d, d ≤ 8 → z_ones l2 + d = z_ones w0 → aw_W G mX11_ones 4 [.int (nI w0), .int (nI d), .int (nI l2)] [] h (0, 0) (fun v h2 => v = some (.int (nI (z_ones w0))) ∧ h2 = h) := fun l2 h2 d hd hz => ih0 l2 h2 (by omega) d hd hz
      have ho8 := z_ones_le w0
      have h0 : z_ones 0 = 0 := rfl
      refine aw_iload_n dX11_ones_4 rfl ?_
      refine aw_if_eq_n (a := l) (tgt := 20) dX11_ones_5 (by decide) (by omega) (fun c5 => ?_) (fun c5 => ?_)
      · refine aw_iload_n dX11_ones_20 rfl ?_
        refine aw_reti dX11_ones_21 rfl rfl ⟨Nat.le_of_ble_eq_true rfl, Nat.le_of_ble_eq_true rfl⟩ ?_
        refine ⟨?_, rfl⟩
        rw [c5, h0] at hz
        rw [show z_ones w0 = d by omega]
      · refine aw_iinc_n (ls2 := [_, _, _]) dX11_ones_8 rfl (by decide) rfl rfl ?_
        refine aw_iload_n dX11_ones_11 rfl ?_
        refine aw_iload_n dX11_ones_12 rfl ?_
        refine aw_iconst (v := 1) dX11_ones_13 rfl ?_
        refine aw_isub dX11_ones_14 ?_
        refine aw_iand dX11_ones_15 ?_
        refine aw_istore_n (ls2 := [_, _, _]) dX11_ones_16 (by decide) rfl rfl ?_
        refine aw_goto (tgt := 4) dX11_ones_17 (by decide) ?_
        have e2 := zi_and2 l hl (by omega)
        rw [zi_and1 l hl (by omega)]
        exact ih (l &&& (l - 1)) e2.1 (d + 1) (by omega) (by omega)
  refine aw_iconst (v := 0) dX11_ones_0 rfl ?_
  refine aw_istore_n (ls2 := [_, _, _]) dX11_ones_1 (by decide) rfl rfl ?_
  refine aw_iload_n dX11_ones_2 rfl ?_
  refine aw_istore_n (ls2 := [_, _, _]) dX11_ones_3 (by decide) rfl rfl ?_
  exact key w0 hw 0 (by decide) rfl
theorem w_stay22 (G : aw_G) {n c : Nat} {I I0 : Nat → Nat → Int32} {L : Nat → Nat → Int64} {s : Nat → Nat → Nat} (hR : zRun s 22 I0 I) {k h : Nat} (hk : k < 8) (hh : h < 100000) (h7 : s 7 k < 100000) (h5 : s 5 k < 8) : aw_Met G mX6_stayBehind [.ref 22, .int (nI k), .int (nI h)] (zH n I L c) (fun v h2 => v = some (.int (nI (if s 7 k ≠ 0 ∧ s 7 k ≤ h + 1 then s 5 k + 1 else 0) - 1)) ∧ h2 = zH n I L c) := by
  refine aw_Met.of okX6_stayBehind (Nat.le_of_ble_eq_true rfl) ?_
  show aw_W G mX6_stayBehind 0 [.ref 22, .int (nI k), .int (nI h)] [] (zH n I L c) (0, 0) _
  refine aw_aload_n dX6_stayBehind_0 rfl ?_
  refine aw_getR dX6_stayBehind_1 f6_34 rfl ⟨Nat.le_of_ble_eq_true rfl, Nat.le_of_ble_eq_true rfl⟩ rfl rfl ?_
  refine aw_iload_n dX6_stayBehind_4 rfl ?_
  refine aw_iald_n (j := k) dX6_stayBehind_5 rfl (Nat.le_of_ble_eq_true rfl) (by decide) (by omega) ?_
  refine aw_top (show _ = nI (s 7 (k)) - 1 from hR.at 7 (k) (by decide) (by decide) (by decide) (by omega)) ?_
  refine aw_iconst (v := -1) dX6_stayBehind_6 rfl ?_
  refine aw_ic_eq_p (a := s 7 (k)) (b := 0) (tgt := 29) dX6_stayBehind_7 (by decide) (by omega) (by omega) (fun c7 => ?_) (fun c7 => ?_)
  · refine aw_iconst (v := -1) dX6_stayBehind_29 rfl ?_
    refine aw_reti dX6_stayBehind_30 rfl rfl ⟨Nat.le_of_ble_eq_true rfl, Nat.le_of_ble_eq_true rfl⟩ ?_
    refine ⟨?_, rfl⟩
    first
    | (rw [if_pos (by omega), nI_pred])
    | (rw [if_neg (by omega)]; rfl)
  · refine aw_aload_n dX6_stayBehind_10 rfl ?_
    refine aw_getR dX6_stayBehind_11 f6_34 rfl ⟨Nat.le_of_ble_eq_true rfl, Nat.le_of_ble_eq_true rfl⟩ rfl rfl ?_
    refine aw_iload_n dX6_stayBehind_14 rfl ?_
    refine aw_iald_n (j := k) dX6_stayBehind_15 rfl (Nat.le_of_ble_eq_true rfl) (by decide) (by omega) ?_
    refine aw_top (show _ = nI (s 7 (k)) - 1 from hR.at 7 (k) (by decide) (by decide) (by decide) (by omega)) ?_
    refine aw_iload_n dX6_stayBehind_16 rfl ?_
    refine aw_top (show _ = nI (h + 1) - 1 from (nI_pred h).symm) ?_
    refine aw_ic_gt_p (a := s 7 (k)) (b := h + 1) (tgt := 29) dX6_stayBehind_17 (by decide) (by omega) (by omega) (fun c17 => ?_) (fun c17 => ?_)
    · refine aw_iconst (v := -1) dX6_stayBehind_29 rfl ?_
      refine aw_reti dX6_stayBehind_30 rfl rfl ⟨Nat.le_of_ble_eq_true rfl, Nat.le_of_ble_eq_true rfl⟩ ?_
      refine ⟨?_, rfl⟩
      first
      | (rw [if_pos (by omega), nI_pred])
      | (rw [if_neg (by omega)]; rfl)
    · refine aw_aload_n dX6_stayBehind_20 rfl ?_
      refine aw_getR dX6_stayBehind_21 f6_28 rfl ⟨Nat.le_of_ble_eq_true rfl, Nat.le_of_ble_eq_true rfl⟩ rfl rfl ?_
      refine aw_iload_n dX6_stayBehind_24 rfl ?_
      refine aw_iald_n (j := k) dX6_stayBehind_25 rfl (Nat.le_of_ble_eq_true rfl) (by decide) (by omega) ?_
      refine aw_top (show _ = nI (s 5 (k)) from hR.at 5 (k) (by decide) (by decide) (by decide) (by omega)) ?_
      refine aw_goto (tgt := 30) dX6_stayBehind_26 (by decide) ?_
      refine aw_reti dX6_stayBehind_30 rfl rfl ⟨Nat.le_of_ble_eq_true rfl, Nat.le_of_ble_eq_true rfl⟩ ?_
      refine ⟨?_, rfl⟩
      first
      | (rw [if_pos (by omega), nI_pred])
      | (rw [if_neg (by omega)]; rfl)
theorem w_whoIs22 (G : aw_G) {n c : Nat} {I I0 : Nat → Nat → Int32} {L : Nat → Nat → Int64} {s : Nat → Nat → Nat} (hR : zRun s 22 I0 I) {a : Nat} (ha : a < 100000) (hn : s 0 0 ≤ 8) (h6 : ∀ k, k < s 0 0 → s 6 k < 100000) : aw_Met G mX6_whoIs [.ref 22, .int (nI a)] (zH n I L c) (fun v h2 => v = some (.int (nI (z_who (fun k => s 6 k == a) (s 0 0)))) ∧ h2 = zH n I L c) := by
  refine aw_Met.of okX6_whoIs (Nat.le_of_ble_eq_true rfl) ?_
  show aw_W G mX6_whoIs 0 [.ref 22, .int (nI a), aw_x, aw_x] [] (zH n I L c) (0, 0) _
  refine aw_iconst (v := 0) dX6_whoIs_0 rfl ?_
  refine aw_istore_n (ls2 := [_, _, _, _]) dX6_whoIs_1 (by decide) rfl rfl ?_
  refine aw_iconst (v := 0) dX6_whoIs_2 rfl ?_
  refine aw_istore_n (ls2 := [_, _, _, _]) dX6_whoIs_3 (by decide) rfl rfl ?_
  refine aw_up (X := fun i => aw_W G mX6_whoIs 4 [.ref 22, .int (nI a), .int (nI (z_who (fun k => s 6 k == a) i)), .int (nI i)] [] (zH n I L c) (0, 0) _) (show 0 ≤ s 0 0 by omega) ?_ (fun i _ hi ih => ?_)
  · refine aw_iload_n dX6_whoIs_4 rfl ?_
    refine aw_aload_n dX6_whoIs_5 rfl ?_
    refine aw_getI dX6_whoIs_6 f6_9 rfl ⟨Nat.le_of_ble_eq_true rfl, Nat.le_of_ble_eq_true rfl⟩ rfl ?_
    refine aw_top (show _ = nI (s 0 0) from hR.at0 0 (Or.inl rfl)) ?_
    refine aw_ic_ge_n (a := s 0 0) (b := s 0 0) (tgt := 34) dX6_whoIs_9 (by decide) (by omega) (by omega) (fun c9 => ?_) (fun z => absurd z (by omega))
    refine aw_iload_n dX6_whoIs_34 rfl ?_
    refine aw_reti dX6_whoIs_35 rfl rfl ⟨Nat.le_of_ble_eq_true rfl, Nat.le_of_ble_eq_true rfl⟩ ?_
    exact ⟨rfl, rfl⟩
  · have h6i := h6 i hi
    refine aw_iload_n dX6_whoIs_4 rfl ?_
    refine aw_aload_n dX6_whoIs_5 rfl ?_
    refine aw_getI dX6_whoIs_6 f6_9 rfl ⟨Nat.le_of_ble_eq_true rfl, Nat.le_of_ble_eq_true rfl⟩ rfl ?_
    refine aw_top (show _ = nI (s 0 0) from hR.at0 0 (Or.inl rfl)) ?_
    refine aw_ic_ge_n (a := i) (b := s 0 0) (tgt := 34) dX6_whoIs_9 (by decide) (by omega) (by omega) (fun z => absurd z (by omega)) (fun c9 => ?_)
    refine aw_aload_n dX6_whoIs_12 rfl ?_
    refine aw_getR dX6_whoIs_13 f6_31 rfl ⟨Nat.le_of_ble_eq_true rfl, Nat.le_of_ble_eq_true rfl⟩ rfl rfl ?_
    refine aw_iload_n dX6_whoIs_16 rfl ?_
    refine aw_iald_n (j := i) dX6_whoIs_17 rfl (Nat.le_of_ble_eq_true rfl) (by decide) (by omega) ?_
    refine aw_top (show _ = nI (s 6 (i)) from hR.at 6 (i) (by decide) (by decide) (by decide) (by omega)) ?_
    refine aw_iload_n dX6_whoIs_18 rfl ?_
    refine aw_ic_ne_n (a := s 6 (i)) (b := a) (tgt := 28) dX6_whoIs_19 (by decide) (by omega) (by omega) (fun c19 => ?_) (fun c19 => ?_)
    · refine aw_iinc_n (ls2 := [_, _, _, _]) dX6_whoIs_28 rfl (by decide) rfl rfl ?_
      refine aw_goto (tgt := 4) dX6_whoIs_31 (by decide) ?_
      have e : z_who (fun k => s 6 k == a) (i + 1) = z_who (fun k => s 6 k == a) i := by rw [z_who, if_neg (by simpa using c19)]
      rw [e] at ih
      exact ih
    · refine aw_iload_n dX6_whoIs_22 rfl ?_
      refine aw_iconst (v := 1) dX6_whoIs_23 rfl ?_
      refine aw_iload_n dX6_whoIs_24 rfl ?_
      refine aw_ishl dX6_whoIs_25 ?_
      refine aw_ior dX6_whoIs_26 ?_
      refine aw_istore_n (ls2 := [_, _, _, _]) dX6_whoIs_27 (by decide) rfl rfl ?_
      refine aw_iinc_n (ls2 := [_, _, _, _]) dX6_whoIs_28 rfl (by decide) rfl rfl ?_
      refine aw_goto (tgt := 4) dX6_whoIs_31 (by decide) ?_
      have e : z_who (fun k => s 6 k == a) (i + 1) = z_who (fun k => s 6 k == a) i + 2 ^ i := by rw [z_who, if_pos (by simpa using c19)]
      rw [e] at ih
      rw [zi_or i (by omega) _ (z_who_256 (by omega)) z_who_lt]
      exact ih
theorem w_howMany22 (G : aw_G) {n c : Nat} {I I0 : Nat → Nat → Int32} {L : Nat → Nat → Int64} {s : Nat → Nat → Nat} (hR : zRun s 22 I0 I) {a : Nat} (ha : a < 100000) (hn : s 0 0 ≤ 8) (h6 : ∀ k, k < s 0 0 → s 6 k < 100000) : aw_Met G mX6_howMany [.ref 22, .int (nI a)] (zH n I L c) (fun v h2 => v = some (.int (nI (z_ones (z_who (fun k => s 6 k == a) (s 0 0))))) ∧ h2 = zH n I L c) := by
  refine aw_Met.of okX6_howMany (Nat.le_of_ble_eq_true rfl) ?_
  show aw_W G mX6_howMany 0 [.ref 22, .int (nI a)] [] (zH n I L c) (0, 0) _
  refine aw_aload_n dX6_howMany_0 rfl ?_
  refine aw_iload_n dX6_howMany_1 rfl ?_
  refine aw_V0c (As := [_]) dX6_howMany_2 k6_123 rfl rfl rfl ⟨Nat.le_of_ble_eq_true rfl, Nat.le_of_ble_eq_true rfl⟩ (Nat.le_of_ble_eq_true rfl) ⟨⟨Nat.le_of_ble_eq_true rfl, Nat.le_of_ble_eq_true rfl⟩, ⟨Nat.le_of_ble_eq_true rfl, Nat.le_of_ble_eq_true rfl⟩⟩ ⟨rfl, rfl⟩ (w_whoIs22 G hR ha hn h6) (fun v h2 hq => ?_)
  obtain ⟨rfl, rfl⟩ := hq
  refine aw_S0c (As := [_]) dX6_howMany_5 k6_127 rfl rfl (Nat.le_of_ble_eq_true rfl) ⟨⟨Nat.le_of_ble_eq_true rfl, Nat.le_of_ble_eq_true rfl⟩, ⟨Nat.le_of_ble_eq_true rfl, Nat.le_of_ble_eq_true rfl⟩⟩ ⟨rfl, rfl⟩ (w_bitCount G (z_who_256 hn)) (fun v h2 hq => ?_)
  obtain ⟨rfl, rfl⟩ := hq
  refine aw_reti dX6_howMany_8 rfl rfl ⟨Nat.le_of_ble_eq_true rfl, Nat.le_of_ble_eq_true rfl⟩ ?_
  exact ⟨rfl, rfl⟩
theorem w_allArr (G : aw_G) {n c : Nat} {I I0 : Nat → Nat → Int32} {L : Nat → Nat → Int64} {s : Nat → Nat → Nat} (hR : zRun s 22 I0 I)  : aw_Met G mX6_allArrivals [.ref 22] (zH n I L c) (fun v h2 => v = some (.int (nI (z_sum (s 4) 8))) ∧ h2 = zH n I L c) := by
  refine aw_Met.of okX6_allArrivals (Nat.le_of_ble_eq_true rfl) ?_
  show aw_W G mX6_allArrivals 0 [.ref 22, aw_x, aw_x] [] (zH n I L c) (0, 0) _
  refine aw_iconst (v := 0) dX6_allArrivals_0 rfl ?_
  refine aw_istore_n (ls2 := [_, _, _]) dX6_allArrivals_1 (by decide) rfl rfl ?_
  refine aw_iconst (v := 0) dX6_allArrivals_2 rfl ?_
  refine aw_istore_n (ls2 := [_, _, _]) dX6_allArrivals_3 (by decide) rfl rfl ?_
  refine aw_up (X := fun i => aw_W G mX6_allArrivals 4 [.ref 22, .int (nI (z_sum (s 4) i)), .int (nI i)] [] (zH n I L c) (0, 0) _) (show 0 ≤ 8 by omega) ?_ (fun i _ hi ih => ?_)
  · refine aw_iload_n dX6_allArrivals_4 rfl ?_
    refine aw_bipush (v := 8) dX6_allArrivals_5 (by decide) ?_
    refine aw_ic_ge_n (a := 8) (b := 8) (tgt := 25) dX6_allArrivals_7 (by decide) (by omega) (by omega) (fun c7 => ?_) (fun z => absurd z (by omega))
    refine aw_iload_n dX6_allArrivals_25 rfl ?_
    refine aw_reti dX6_allArrivals_26 rfl rfl ⟨Nat.le_of_ble_eq_true rfl, Nat.le_of_ble_eq_true rfl⟩ ?_
    exact ⟨rfl, rfl⟩
  · refine aw_iload_n dX6_allArrivals_4 rfl ?_
    refine aw_bipush (v := 8) dX6_allArrivals_5 (by decide) ?_
    refine aw_ic_ge_n (a := i) (b := 8) (tgt := 25) dX6_allArrivals_7 (by decide) (by omega) (by omega) (fun z => absurd z (by omega)) (fun c7 => ?_)
    refine aw_iload_n dX6_allArrivals_10 rfl ?_
    refine aw_aload_n dX6_allArrivals_11 rfl ?_
    refine aw_getR dX6_allArrivals_12 f6_25 rfl ⟨Nat.le_of_ble_eq_true rfl, Nat.le_of_ble_eq_true rfl⟩ rfl rfl ?_
    refine aw_iload_n dX6_allArrivals_15 rfl ?_
    refine aw_iald_n (j := i) dX6_allArrivals_16 rfl (Nat.le_of_ble_eq_true rfl) (by decide) (by omega) ?_
    refine aw_top (show _ = nI (s 4 (i)) from hR.at 4 (i) (by decide) (by decide) (by decide) (by omega)) ?_
    refine aw_iadd_n (a := z_sum (s 4) i) (b := s 4 (i)) dX6_allArrivals_17 ?_
    refine aw_istore_n (ls2 := [_, _, _]) dX6_allArrivals_18 (by decide) rfl rfl ?_
    refine aw_iinc_n (ls2 := [_, _, _]) dX6_allArrivals_19 rfl (by decide) rfl rfl ?_
    refine aw_goto (tgt := 4) dX6_allArrivals_22 (by decide) ?_
    exact ih
theorem aw_loc2 {G : aw_G} {M : aw_MR} {pc : Nat} {st : List Value} {h : aw_H} {q : Nat × Nat} {Q : Option Value → aw_H → Prop} {v w z : Value} {x y : Int32} (e : x = y) (k : aw_W G M pc [v, w, .int y, z] st h q Q) : aw_W G M pc [v, w, .int x, z] st h q Q := e ▸ k
theorem w_mostArr (G : aw_G) {n c : Nat} {I I0 : Nat → Nat → Int32} {L : Nat → Nat → Int64} {s : Nat → Nat → Nat} (hR : zRun s 22 I0 I) (hB : ∀ j, j < 8 → s 4 j ≤ 100000) : aw_Met G mX6_mostArrivals [.ref 22] (zH n I L c) (fun v h2 => v = some (.int (nI (z_most (s 4) 8).1 - 1)) ∧ h2 = zH n I L c) := by
  refine aw_Met.of okX6_mostArrivals (Nat.le_of_ble_eq_true rfl) ?_
  show aw_W G mX6_mostArrivals 0 [.ref 22, aw_x, aw_x, aw_x] [] (zH n I L c) (0, 0) _
  refine aw_iconst (v := 0) dX6_mostArrivals_0 rfl ?_
  refine aw_istore_n (ls2 := [_, _, _, _]) dX6_mostArrivals_1 (by decide) rfl rfl ?_
  refine aw_iconst (v := -1) dX6_mostArrivals_2 rfl ?_
  refine aw_istore_n (ls2 := [_, _, _, _]) dX6_mostArrivals_3 (by decide) rfl rfl ?_
  refine aw_iconst (v := 0) dX6_mostArrivals_4 rfl ?_
  refine aw_istore_n (ls2 := [_, _, _, _]) dX6_mostArrivals_5 (by decide) rfl rfl ?_
  refine aw_up (X := fun i => aw_W G mX6_mostArrivals 6 [.ref 22, .int (nI ((z_most (s 4) i).2)), .int (nI ((z_most (s 4) i).1) - 1), .int (nI i)] [] (zH n I L c) (0, 0) _) (show 0 ≤ 8 by omega) ?_ (fun i _ hi ih => ?_)
  · refine aw_iload_n dX6_mostArrivals_6 rfl ?_
    refine aw_bipush (v := 8) dX6_mostArrivals_7 (by decide) ?_
    refine aw_ic_ge_n (a := 8) (b := 8) (tgt := 37) dX6_mostArrivals_9 (by decide) (by omega) (by omega) (fun c9 => ?_) (fun z => absurd z (by omega))
    refine aw_iload_n dX6_mostArrivals_37 rfl ?_
    refine aw_reti dX6_mostArrivals_38 rfl rfl ⟨Nat.le_of_ble_eq_true rfl, Nat.le_of_ble_eq_true rfl⟩ ?_
    exact ⟨rfl, rfl⟩
  · have hbb := z_most_le (f := s 4) (i := i) (B := 100000) (fun j hj => hB j (by omega))
    have hbi := hB i (by omega)
    refine aw_iload_n dX6_mostArrivals_6 rfl ?_
    refine aw_bipush (v := 8) dX6_mostArrivals_7 (by decide) ?_
    refine aw_ic_ge_n (a := i) (b := 8) (tgt := 37) dX6_mostArrivals_9 (by decide) (by omega) (by omega) (fun z => absurd z (by omega)) (fun c9 => ?_)
    refine aw_aload_n dX6_mostArrivals_12 rfl ?_
    refine aw_getR dX6_mostArrivals_13 f6_25 rfl ⟨Nat.le_of_ble_eq_true rfl, Nat.le_of_ble_eq_true rfl⟩ rfl rfl ?_
    refine aw_iload_n dX6_mostArrivals_16 rfl ?_
    refine aw_iald_n (j := i) dX6_mostArrivals_17 rfl (Nat.le_of_ble_eq_true rfl) (by decide) (by omega) ?_
    refine aw_top (show _ = nI (s 4 (i)) from hR.at 4 (i) (by decide) (by decide) (by decide) (by omega)) ?_
    refine aw_iload_n dX6_mostArrivals_18 rfl ?_
    refine aw_ic_le_n (a := s 4 (i)) (b := (z_most (s 4) i).2) (tgt := 31) dX6_mostArrivals_19 (by decide) (by omega) (by omega) (fun c19 => ?_) (fun c19 => ?_)
    · refine aw_iinc_n (ls2 := [_, _, _, _]) dX6_mostArrivals_31 rfl (by decide) rfl rfl ?_
      refine aw_goto (tgt := 6) dX6_mostArrivals_34 (by decide) ?_
      have e : z_most (s 4) (i + 1) = z_most (s 4) i := by rw [z_most, if_neg (by omega)]
      rw [e] at ih
      exact ih
    · refine aw_aload_n dX6_mostArrivals_22 rfl ?_
      refine aw_getR dX6_mostArrivals_23 f6_25 rfl ⟨Nat.le_of_ble_eq_true rfl, Nat.le_of_ble_eq_true rfl⟩ rfl rfl ?_
      refine aw_iload_n dX6_mostArrivals_26 rfl ?_
      refine aw_iald_n (j := i) dX6_mostArrivals_27 rfl (Nat.le_of_ble_eq_true rfl) (by decide) (by omega) ?_
      refine aw_top (show _ = nI (s 4 (i)) from hR.at 4 (i) (by decide) (by decide) (by decide) (by omega)) ?_
      refine aw_istore_n (ls2 := [_, _, _, _]) dX6_mostArrivals_28 (by decide) rfl rfl ?_
      refine aw_iload_n dX6_mostArrivals_29 rfl ?_
      refine aw_istore_n (ls2 := [_, _, _, _]) dX6_mostArrivals_30 (by decide) rfl rfl ?_
      refine aw_iinc_n (ls2 := [_, _, _, _]) dX6_mostArrivals_31 rfl (by decide) rfl rfl ?_
      refine aw_goto (tgt := 6) dX6_mostArrivals_34 (by decide) ?_
      have e : z_most (s 4) (i + 1) = (i + 1, s 4 i) := by rw [z_most, if_pos (by omega)]
      rw [e] at ih
      refine aw_loc2 (nI_pred i).symm ?_
      exact ih
theorem w_lastStep (G : aw_G) {n c : Nat} {I I0 : Nat → Nat → Int32} {L : Nat → Nat → Int64} {s : Nat → Nat → Nat} (hR : zRun s 22 I0 I) {k h : Nat} (hk : k < 8) (hh : h < 100000) (h10 : s 10 k ≤ 8) (h11 : ∀ i, i < s 10 k → s 11 (k * 8 + i) < 100000) : aw_Met G mX4_lastStep [.ref 31, .int (nI k), .int (nI h)] (zH n I L c) (fun v h2 => v = some (.int (nI (p_last s k h (s 10 k)) - 1)) ∧ h2 = zH n I L c) := by
  refine aw_Met.of okX4_lastStep (Nat.le_of_ble_eq_true rfl) ?_
  show aw_W G mX4_lastStep 0 [.ref 31, .int (nI k), .int (nI h), aw_x, aw_x] [] (zH n I L c) (0, 0) _
  refine aw_iconst (v := -1) dX4_lastStep_0 rfl ?_
  refine aw_istore_n (ls2 := [_, _, _, _, _]) dX4_lastStep_1 (by decide) rfl rfl ?_
  refine aw_iconst (v := 0) dX4_lastStep_2 rfl ?_
  refine aw_istore (ls2 := [_, _, _, _, _]) dX4_lastStep_3 (by decide) rfl rfl ?_
  refine aw_up (X := fun i => aw_W G mX4_lastStep 5 [.ref 31, .int (nI k), .int (nI h), .int (nI (p_last s k h i) - 1), .int (nI i)] [] (zH n I L c) (0, 0) _) (show 0 ≤ s 10 k by omega) ?_ (fun i _ hi ih => ?_)
  · refine aw_iload dX4_lastStep_5 rfl ?_
    refine aw_aload_n dX4_lastStep_7 rfl ?_
    refine aw_getR dX4_lastStep_8 f4_9 rfl ⟨Nat.le_of_ble_eq_true rfl, Nat.le_of_ble_eq_true rfl⟩ rfl rfl ?_
    refine aw_iload_n dX4_lastStep_11 rfl ?_
    refine aw_iald_n (j := k) dX4_lastStep_12 rfl (Nat.le_of_ble_eq_true rfl) (by decide) (by omega) ?_
    refine aw_top (show _ = nI (s 10 k) from hR.at 10 k (by decide) (by decide) (by decide) (by omega)) ?_
    refine aw_ic_ge_n (a := s 10 k) (b := s 10 k) (tgt := 46) dX4_lastStep_13 (by decide) (by omega) (by omega) (fun c13 => ?_) (fun z => absurd z (by omega))
    refine aw_iload_n dX4_lastStep_46 rfl ?_
    refine aw_reti dX4_lastStep_47 rfl rfl ⟨Nat.le_of_ble_eq_true rfl, Nat.le_of_ble_eq_true rfl⟩ ?_
    exact ⟨rfl, rfl⟩
  · have h11i := h11 i hi
    refine aw_iload dX4_lastStep_5 rfl ?_
    refine aw_aload_n dX4_lastStep_7 rfl ?_
    refine aw_getR dX4_lastStep_8 f4_9 rfl ⟨Nat.le_of_ble_eq_true rfl, Nat.le_of_ble_eq_true rfl⟩ rfl rfl ?_
    refine aw_iload_n dX4_lastStep_11 rfl ?_
    refine aw_iald_n (j := k) dX4_lastStep_12 rfl (Nat.le_of_ble_eq_true rfl) (by decide) (by omega) ?_
    refine aw_top (show _ = nI (s 10 k) from hR.at 10 k (by decide) (by decide) (by decide) (by omega)) ?_
    refine aw_ic_ge_n (a := i) (b := s 10 k) (tgt := 46) dX4_lastStep_13 (by decide) (by omega) (by omega) (fun z => absurd z (by omega)) (fun c13 => ?_)
    refine aw_aload_n dX4_lastStep_16 rfl ?_
    refine aw_getR dX4_lastStep_17 f4_15 rfl ⟨Nat.le_of_ble_eq_true rfl, Nat.le_of_ble_eq_true rfl⟩ rfl rfl ?_
    refine aw_iload_n dX4_lastStep_20 rfl ?_
    refine aw_bipush (v := 8) dX4_lastStep_21 (by decide) ?_
    refine aw_imul_n (a := k) (b := 8) dX4_lastStep_23 ?_
    refine aw_iload dX4_lastStep_24 rfl ?_
    refine aw_iadd_n (a := k * 8) (b := i) dX4_lastStep_26 ?_
    refine aw_iald_n (j := (k * 8) + i) dX4_lastStep_27 rfl (Nat.le_of_ble_eq_true rfl) (by decide) (by omega) ?_
    refine aw_top (show _ = nI (s 11 (k * 8 + i)) from hR.at 11 (k * 8 + i) (by decide) (by decide) (by decide) (by omega)) ?_
    refine aw_iload_n dX4_lastStep_28 rfl ?_
    refine aw_ic_gt_n (a := s 11 (k * 8 + i)) (b := h) (tgt := 40) dX4_lastStep_29 (by decide) (by omega) (by omega) (fun c29 => ?_) (fun c29 => ?_)
    · refine aw_iinc_n (ls2 := [_, _, _, _, _]) dX4_lastStep_40 rfl (by decide) rfl rfl ?_
      refine aw_goto (tgt := 5) dX4_lastStep_43 (by decide) ?_
      have e : p_last s k h (i + 1) = p_last s k h i := by rw [p_last, if_neg (by omega)]
      rw [e] at ih
      exact ih
    · refine aw_iload_n dX4_lastStep_32 rfl ?_
      refine aw_bipush (v := 8) dX4_lastStep_33 (by decide) ?_
      refine aw_imul_n (a := k) (b := 8) dX4_lastStep_35 ?_
      refine aw_iload dX4_lastStep_36 rfl ?_
      refine aw_iadd_n (a := k * 8) (b := i) dX4_lastStep_38 ?_
      refine aw_istore_n (ls2 := [_, _, _, _, _]) dX4_lastStep_39 (by decide) rfl rfl ?_
      refine aw_iinc_n (ls2 := [_, _, _, _, _]) dX4_lastStep_40 rfl (by decide) rfl rfl ?_
      refine aw_goto (tgt := 5) dX4_lastStep_43 (by decide) ?_
      have e : p_last s k h (i + 1) = k * 8 + i + 1 := by rw [p_last, if_pos (by omega)]
      rw [e, nI_pred] at ih
      exact ih
theorem p_last_64 {s : Nat → Nat → Nat} {c h i : Nat} (hi : i ≤ 8) (hc : c < 8) : p_last s c h i ≤ 64 := by
  induction i with
  | zero => exact Nat.zero_le _
  | succ i ih => rw [p_last]; split; omega; exact ih (by omega)
theorem w_behind0 (G : aw_G) {n c : Nat} {I I0 : Nat → Nat → Int32} {L : Nat → Nat → Int64} {s : Nat → Nat → Nat} {t : Nat → Nat → Nat} (hR : zRun s 22 I0 I) (hT : zSet t 11 16 I) {k h : Nat} (hk : k < 8) (hh : h < 100000) (h10 : s 10 k ≤ 8) (h11 : ∀ i, i < s 10 k → s 11 (k * 8 + i) < 100000) (h14 : ∀ i, i < 64 → s 14 i < 100000) : aw_Met G mX10_behind [.ref 3, .int (nI h), .int (nI k), .int 0] (zH n I L c) (fun v h2 => v = some (.int (mE 6 0 (zOb s t k h 0))) ∧ h2 = zH n I L c) := by
  have hpl := p_last_64 (s := s) (c := k) (h := h) h10 hk
  refine aw_Met.of okX10_behind (Nat.le_of_ble_eq_true rfl) ?_
  show aw_W G mX10_behind 0 [.ref 3, .int (nI h), .int (nI k), .int 0, aw_x, aw_x] [] (zH n I L c) (0, 0) _
  refine aw_aload_n dX10_behind_0 rfl ?_
  refine aw_getR dX10_behind_1 f10_58 rfl ⟨Nat.le_of_ble_eq_true rfl, Nat.le_of_ble_eq_true rfl⟩ rfl rfl ?_
  refine aw_getR dX10_behind_4 f10_317 rfl ⟨Nat.le_of_ble_eq_true rfl, Nat.le_of_ble_eq_true rfl⟩ rfl rfl ?_
  refine aw_iload_n dX10_behind_7 rfl ?_
  refine aw_iload_n dX10_behind_8 rfl ?_
  refine aw_V0c (As := [_, _]) dX10_behind_9 k10_321 rfl rfl rfl ⟨Nat.le_of_ble_eq_true rfl, Nat.le_of_ble_eq_true rfl⟩ (Nat.le_of_ble_eq_true rfl) ⟨⟨Nat.le_of_ble_eq_true rfl, Nat.le_of_ble_eq_true rfl⟩, ⟨Nat.le_of_ble_eq_true rfl, Nat.le_of_ble_eq_true rfl⟩⟩ ⟨rfl, rfl⟩ (w_lastStep G hR hk hh h10 h11) (fun v h2 hq => ?_)
  obtain ⟨rfl, rfl⟩ := hq
  refine aw_istore (ls2 := [_, _, _, _, _, _]) dX10_behind_12 (by decide) rfl rfl ?_
  refine aw_iload dX10_behind_14 rfl ?_
  refine aw_iconst (v := -1) dX10_behind_16 rfl ?_
  refine aw_ic_ne_p (a := p_last s k h (s 10 k)) (b := 0) (tgt := 45) dX10_behind_17 (by decide) (by omega) (by omega) (fun c17 => ?_) (fun c17 => ?_)
  · rw [zi_pred c17]
    refine aw_aload_n dX10_behind_45 rfl ?_
    refine aw_getR dX10_behind_46 f10_58 rfl ⟨Nat.le_of_ble_eq_true rfl, Nat.le_of_ble_eq_true rfl⟩ rfl rfl ?_
    refine aw_getR dX10_behind_49 f10_317 rfl ⟨Nat.le_of_ble_eq_true rfl, Nat.le_of_ble_eq_true rfl⟩ rfl rfl ?_
    refine aw_getR dX10_behind_52 f10_329 rfl ⟨Nat.le_of_ble_eq_true rfl, Nat.le_of_ble_eq_true rfl⟩ rfl rfl ?_
    refine aw_iload dX10_behind_55 rfl ?_
    refine aw_iald_n (j := p_last s k h (s 10 k) - 1) dX10_behind_57 rfl (Nat.le_of_ble_eq_true rfl) (by decide) (by omega) ?_
    refine aw_top (show _ = nI (s 14 (p_last s k h (s 10 k) - 1)) - 1 from hR.at 14 (p_last s k h (s 10 k) - 1) (by decide) (by decide) (by decide) (by omega)) ?_
    refine aw_istore (ls2 := [_, _, _, _, _, _]) dX10_behind_58 (by decide) rfl rfl ?_
    refine aw_iload_n dX10_behind_60 rfl ?_
    refine aw_swIn (off := 27) (tgt := 88) dX10_behind_61 (by decide) (by decide) rfl (by decide) ?_
    have h14i := h14 (p_last s k h (s 10 k) - 1) (by omega)
    refine aw_iload dX10_behind_88 rfl ?_
    refine aw_iconst (v := -1) dX10_behind_90 rfl ?_
    refine aw_ic_ne_p (a := s 14 (p_last s k h (s 10 k) - 1)) (b := 0) (tgt := 106) dX10_behind_91 (by decide) (by omega) (by omega) (fun c91 => ?_) (fun c91 => ?_)
    · refine aw_iconst (v := 1) dX10_behind_106 rfl ?_
      refine aw_reti dX10_behind_107 rfl rfl ⟨Nat.le_of_ble_eq_true rfl, Nat.le_of_ble_eq_true rfl⟩ ?_
      refine ⟨congrArg (fun z => some (Value.int z)) ?_, rfl⟩
      unfold zOb
      rw [if_neg c17, if_pos rfl, if_neg c91]; rfl
    · refine aw_aload_n dX10_behind_94 rfl ?_
      refine aw_getR dX10_behind_95 f10_58 rfl ⟨Nat.le_of_ble_eq_true rfl, Nat.le_of_ble_eq_true rfl⟩ rfl rfl ?_
      refine aw_getR dX10_behind_98 f10_332 rfl ⟨Nat.le_of_ble_eq_true rfl, Nat.le_of_ble_eq_true rfl⟩ rfl rfl ?_
      refine aw_iload_n dX10_behind_101 rfl ?_
      refine aw_iald_n (j := k) dX10_behind_102 rfl (Nat.le_of_ble_eq_true rfl) (by decide) (by omega) ?_
      refine aw_top (show _ = nI (s 6 (k)) from hR.at 6 (k) (by decide) (by decide) (by decide) (by omega)) ?_
      refine aw_goto (tgt := 107) dX10_behind_103 (by decide) ?_
      refine aw_reti dX10_behind_107 rfl rfl ⟨Nat.le_of_ble_eq_true rfl, Nat.le_of_ble_eq_true rfl⟩ ?_
      refine ⟨congrArg (fun z => some (Value.int z)) ?_, rfl⟩
      unfold zOb
      rw [if_neg c17, if_pos rfl, if_pos c91]; rfl
  · refine aw_iload_n dX10_behind_20 rfl ?_
    refine aw_if_ne (tgt := 26) dX10_behind_21 (by decide) (fun z => absurd (by decide) z) (fun _ => ?_)
    refine aw_iconst (v := 0) dX10_behind_24 rfl ?_
    refine aw_reti dX10_behind_25 rfl rfl ⟨Nat.le_of_ble_eq_true rfl, Nat.le_of_ble_eq_true rfl⟩ ?_
    refine ⟨congrArg (fun z => some (Value.int z)) ?_, rfl⟩
    unfold zOb
    rw [if_pos c17, if_neg (by decide)]; rfl
theorem w_behind1 (G : aw_G) {n c : Nat} {I I0 : Nat → Nat → Int32} {L : Nat → Nat → Int64} {s : Nat → Nat → Nat} {t : Nat → Nat → Nat} (hR : zRun s 22 I0 I) (hT : zSet t 11 16 I) {k h : Nat} (hk : k < 8) (hh : h < 100000) (h10 : s 10 k ≤ 8) (h11 : ∀ i, i < s 10 k → s 11 (k * 8 + i) < 100000) (h14 : ∀ i, i < 64 → s 14 i < 100000) : aw_Met G mX10_behind [.ref 3, .int (nI h), .int (nI k), .int 1] (zH n I L c) (fun v h2 => v = some (.int (mE 6 1 (zOb s t k h 1))) ∧ h2 = zH n I L c) := by
  have hpl := p_last_64 (s := s) (c := k) (h := h) h10 hk
  refine aw_Met.of okX10_behind (Nat.le_of_ble_eq_true rfl) ?_
  show aw_W G mX10_behind 0 [.ref 3, .int (nI h), .int (nI k), .int 1, aw_x, aw_x] [] (zH n I L c) (0, 0) _
  refine aw_aload_n dX10_behind_0 rfl ?_
  refine aw_getR dX10_behind_1 f10_58 rfl ⟨Nat.le_of_ble_eq_true rfl, Nat.le_of_ble_eq_true rfl⟩ rfl rfl ?_
  refine aw_getR dX10_behind_4 f10_317 rfl ⟨Nat.le_of_ble_eq_true rfl, Nat.le_of_ble_eq_true rfl⟩ rfl rfl ?_
  refine aw_iload_n dX10_behind_7 rfl ?_
  refine aw_iload_n dX10_behind_8 rfl ?_
  refine aw_V0c (As := [_, _]) dX10_behind_9 k10_321 rfl rfl rfl ⟨Nat.le_of_ble_eq_true rfl, Nat.le_of_ble_eq_true rfl⟩ (Nat.le_of_ble_eq_true rfl) ⟨⟨Nat.le_of_ble_eq_true rfl, Nat.le_of_ble_eq_true rfl⟩, ⟨Nat.le_of_ble_eq_true rfl, Nat.le_of_ble_eq_true rfl⟩⟩ ⟨rfl, rfl⟩ (w_lastStep G hR hk hh h10 h11) (fun v h2 hq => ?_)
  obtain ⟨rfl, rfl⟩ := hq
  refine aw_istore (ls2 := [_, _, _, _, _, _]) dX10_behind_12 (by decide) rfl rfl ?_
  refine aw_iload dX10_behind_14 rfl ?_
  refine aw_iconst (v := -1) dX10_behind_16 rfl ?_
  refine aw_ic_ne_p (a := p_last s k h (s 10 k)) (b := 0) (tgt := 45) dX10_behind_17 (by decide) (by omega) (by omega) (fun c17 => ?_) (fun c17 => ?_)
  · rw [zi_pred c17]
    refine aw_aload_n dX10_behind_45 rfl ?_
    refine aw_getR dX10_behind_46 f10_58 rfl ⟨Nat.le_of_ble_eq_true rfl, Nat.le_of_ble_eq_true rfl⟩ rfl rfl ?_
    refine aw_getR dX10_behind_49 f10_317 rfl ⟨Nat.le_of_ble_eq_true rfl, Nat.le_of_ble_eq_true rfl⟩ rfl rfl ?_
    refine aw_getR dX10_behind_52 f10_329 rfl ⟨Nat.le_of_ble_eq_true rfl, Nat.le_of_ble_eq_true rfl⟩ rfl rfl ?_
    refine aw_iload dX10_behind_55 rfl ?_
    refine aw_iald_n (j := p_last s k h (s 10 k) - 1) dX10_behind_57 rfl (Nat.le_of_ble_eq_true rfl) (by decide) (by omega) ?_
    refine aw_top (show _ = nI (s 14 (p_last s k h (s 10 k) - 1)) - 1 from hR.at 14 (p_last s k h (s 10 k) - 1) (by decide) (by decide) (by decide) (by omega)) ?_
    refine aw_istore (ls2 := [_, _, _, _, _, _]) dX10_behind_58 (by decide) rfl rfl ?_
    refine aw_iload_n dX10_behind_60 rfl ?_
    refine aw_swIn (off := 47) (tgt := 108) dX10_behind_61 (by decide) (by decide) rfl (by decide) ?_
    have h14i := h14 (p_last s k h (s 10 k) - 1) (by omega)
    refine aw_iload dX10_behind_108 rfl ?_
    refine aw_iconst (v := -1) dX10_behind_110 rfl ?_
    refine aw_ic_ne_p (a := s 14 (p_last s k h (s 10 k) - 1)) (b := 0) (tgt := 130) dX10_behind_111 (by decide) (by omega) (by omega) (fun c111 => ?_) (fun c111 => ?_)
    · refine aw_iconst (v := -1) dX10_behind_130 rfl ?_
      refine aw_reti dX10_behind_131 rfl rfl ⟨Nat.le_of_ble_eq_true rfl, Nat.le_of_ble_eq_true rfl⟩ ?_
      refine ⟨congrArg (fun z => some (Value.int z)) ?_, rfl⟩
      unfold zOb
      rw [if_neg c17, if_neg (by decide), if_pos rfl, if_neg c111]; rfl
    · refine aw_aload_n dX10_behind_114 rfl ?_
      refine aw_getR dX10_behind_115 f10_58 rfl ⟨Nat.le_of_ble_eq_true rfl, Nat.le_of_ble_eq_true rfl⟩ rfl rfl ?_
      refine aw_getR dX10_behind_118 f10_317 rfl ⟨Nat.le_of_ble_eq_true rfl, Nat.le_of_ble_eq_true rfl⟩ rfl rfl ?_
      refine aw_getR dX10_behind_121 f10_335 rfl ⟨Nat.le_of_ble_eq_true rfl, Nat.le_of_ble_eq_true rfl⟩ rfl rfl ?_
      refine aw_iload dX10_behind_124 rfl ?_
      refine aw_iald_n (j := p_last s k h (s 10 k) - 1) dX10_behind_126 rfl (Nat.le_of_ble_eq_true rfl) (by decide) (by omega) ?_
      refine aw_top (show _ = nI (s 12 (p_last s k h (s 10 k) - 1)) from hR.at 12 (p_last s k h (s 10 k) - 1) (by decide) (by decide) (by decide) (by omega)) ?_
      refine aw_goto (tgt := 131) dX10_behind_127 (by decide) ?_
      refine aw_reti dX10_behind_131 rfl rfl ⟨Nat.le_of_ble_eq_true rfl, Nat.le_of_ble_eq_true rfl⟩ ?_
      refine ⟨congrArg (fun z => some (Value.int z)) ?_, rfl⟩
      unfold zOb
      rw [if_neg c17, if_neg (by decide), if_pos rfl, if_pos c111]; exact (nI_pred _).symm
  · refine aw_iload_n dX10_behind_20 rfl ?_
    refine aw_if_ne (tgt := 26) dX10_behind_21 (by decide) (fun _ => ?_) (fun z => absurd z (by decide))
    refine aw_iload_n dX10_behind_26 rfl ?_
    refine aw_iconst (v := 2) dX10_behind_27 rfl ?_
    refine aw_ic_ne (tgt := 43) dX10_behind_28 (by decide) (fun _ => ?_) (fun z => absurd z (by decide))
    refine aw_iconst (v := -1) dX10_behind_43 rfl ?_
    refine aw_reti dX10_behind_44 rfl rfl ⟨Nat.le_of_ble_eq_true rfl, Nat.le_of_ble_eq_true rfl⟩ ?_
    refine ⟨congrArg (fun z => some (Value.int z)) ?_, rfl⟩
    unfold zOb
    rw [if_pos c17, if_neg (by decide)]; rfl
theorem w_behind2 (G : aw_G) {n c : Nat} {I I0 : Nat → Nat → Int32} {L : Nat → Nat → Int64} {s : Nat → Nat → Nat} {t : Nat → Nat → Nat} (hR : zRun s 22 I0 I) (hT : zSet t 11 16 I) {k h : Nat} (hk : k < 8) (hh : h < 100000) (h10 : s 10 k ≤ 8) (h11 : ∀ i, i < s 10 k → s 11 (k * 8 + i) < 100000) (h14 : ∀ i, i < 64 → s 14 i < 100000) : aw_Met G mX10_behind [.ref 3, .int (nI h), .int (nI k), .int 2] (zH n I L c) (fun v h2 => v = some (.int (mE 6 2 (zOb s t k h 2))) ∧ h2 = zH n I L c) := by
  have hpl := p_last_64 (s := s) (c := k) (h := h) h10 hk
  refine aw_Met.of okX10_behind (Nat.le_of_ble_eq_true rfl) ?_
  show aw_W G mX10_behind 0 [.ref 3, .int (nI h), .int (nI k), .int 2, aw_x, aw_x] [] (zH n I L c) (0, 0) _
  refine aw_aload_n dX10_behind_0 rfl ?_
  refine aw_getR dX10_behind_1 f10_58 rfl ⟨Nat.le_of_ble_eq_true rfl, Nat.le_of_ble_eq_true rfl⟩ rfl rfl ?_
  refine aw_getR dX10_behind_4 f10_317 rfl ⟨Nat.le_of_ble_eq_true rfl, Nat.le_of_ble_eq_true rfl⟩ rfl rfl ?_
  refine aw_iload_n dX10_behind_7 rfl ?_
  refine aw_iload_n dX10_behind_8 rfl ?_
  refine aw_V0c (As := [_, _]) dX10_behind_9 k10_321 rfl rfl rfl ⟨Nat.le_of_ble_eq_true rfl, Nat.le_of_ble_eq_true rfl⟩ (Nat.le_of_ble_eq_true rfl) ⟨⟨Nat.le_of_ble_eq_true rfl, Nat.le_of_ble_eq_true rfl⟩, ⟨Nat.le_of_ble_eq_true rfl, Nat.le_of_ble_eq_true rfl⟩⟩ ⟨rfl, rfl⟩ (w_lastStep G hR hk hh h10 h11) (fun v h2 hq => ?_)
  obtain ⟨rfl, rfl⟩ := hq
  refine aw_istore (ls2 := [_, _, _, _, _, _]) dX10_behind_12 (by decide) rfl rfl ?_
  refine aw_iload dX10_behind_14 rfl ?_
  refine aw_iconst (v := -1) dX10_behind_16 rfl ?_
  refine aw_ic_ne_p (a := p_last s k h (s 10 k)) (b := 0) (tgt := 45) dX10_behind_17 (by decide) (by omega) (by omega) (fun c17 => ?_) (fun c17 => ?_)
  · rw [zi_pred c17]
    refine aw_aload_n dX10_behind_45 rfl ?_
    refine aw_getR dX10_behind_46 f10_58 rfl ⟨Nat.le_of_ble_eq_true rfl, Nat.le_of_ble_eq_true rfl⟩ rfl rfl ?_
    refine aw_getR dX10_behind_49 f10_317 rfl ⟨Nat.le_of_ble_eq_true rfl, Nat.le_of_ble_eq_true rfl⟩ rfl rfl ?_
    refine aw_getR dX10_behind_52 f10_329 rfl ⟨Nat.le_of_ble_eq_true rfl, Nat.le_of_ble_eq_true rfl⟩ rfl rfl ?_
    refine aw_iload dX10_behind_55 rfl ?_
    refine aw_iald_n (j := p_last s k h (s 10 k) - 1) dX10_behind_57 rfl (Nat.le_of_ble_eq_true rfl) (by decide) (by omega) ?_
    refine aw_top (show _ = nI (s 14 (p_last s k h (s 10 k) - 1)) - 1 from hR.at 14 (p_last s k h (s 10 k) - 1) (by decide) (by decide) (by decide) (by omega)) ?_
    refine aw_istore (ls2 := [_, _, _, _, _, _]) dX10_behind_58 (by decide) rfl rfl ?_
    refine aw_iload_n dX10_behind_60 rfl ?_
    refine aw_swIn (off := 71) (tgt := 132) dX10_behind_61 (by decide) (by decide) rfl (by decide) ?_
    refine aw_aload_n dX10_behind_132 rfl ?_
    refine aw_getR dX10_behind_133 f10_58 rfl ⟨Nat.le_of_ble_eq_true rfl, Nat.le_of_ble_eq_true rfl⟩ rfl rfl ?_
    refine aw_getR dX10_behind_136 f10_317 rfl ⟨Nat.le_of_ble_eq_true rfl, Nat.le_of_ble_eq_true rfl⟩ rfl rfl ?_
    refine aw_getR dX10_behind_139 f10_338 rfl ⟨Nat.le_of_ble_eq_true rfl, Nat.le_of_ble_eq_true rfl⟩ rfl rfl ?_
    refine aw_iload dX10_behind_142 rfl ?_
    refine aw_iald_n (j := p_last s k h (s 10 k) - 1) dX10_behind_144 rfl (Nat.le_of_ble_eq_true rfl) (by decide) (by omega) ?_
    refine aw_top (show _ = nI (s 13 (p_last s k h (s 10 k) - 1)) from hR.at 13 (p_last s k h (s 10 k) - 1) (by decide) (by decide) (by decide) (by omega)) ?_
    refine aw_reti dX10_behind_145 rfl rfl ⟨Nat.le_of_ble_eq_true rfl, Nat.le_of_ble_eq_true rfl⟩ ?_
    refine ⟨congrArg (fun z => some (Value.int z)) ?_, rfl⟩
    unfold zOb
    rw [if_neg c17, if_neg (by decide), if_neg (by decide), if_pos rfl]; rfl
  · refine aw_iload_n dX10_behind_20 rfl ?_
    refine aw_if_ne (tgt := 26) dX10_behind_21 (by decide) (fun _ => ?_) (fun z => absurd z (by decide))
    refine aw_iload_n dX10_behind_26 rfl ?_
    refine aw_iconst (v := 2) dX10_behind_27 rfl ?_
    refine aw_ic_ne (tgt := 43) dX10_behind_28 (by decide) (fun z => absurd (by decide) z) (fun _ => ?_)
    refine aw_aload_n dX10_behind_31 rfl ?_
    refine aw_getR dX10_behind_32 f10_43 rfl ⟨Nat.le_of_ble_eq_true rfl, Nat.le_of_ble_eq_true rfl⟩ rfl rfl ?_
    refine aw_getR dX10_behind_35 f10_326 rfl ⟨Nat.le_of_ble_eq_true rfl, Nat.le_of_ble_eq_true rfl⟩ rfl rfl ?_
    refine aw_iload_n dX10_behind_38 rfl ?_
    refine aw_iald_n (j := k) dX10_behind_39 rfl (Nat.le_of_ble_eq_true rfl) (by decide) (by omega) ?_
    refine aw_top (hT.1 3 k (by decide) hk) ?_
    refine aw_goto (tgt := 44) dX10_behind_40 (by decide) ?_
    refine aw_reti dX10_behind_44 rfl rfl ⟨Nat.le_of_ble_eq_true rfl, Nat.le_of_ble_eq_true rfl⟩ ?_
    refine ⟨congrArg (fun z => some (Value.int z)) ?_, rfl⟩
    unfold zOb
    rw [if_pos c17, if_pos rfl]; rfl
theorem w_behind3 (G : aw_G) {n c : Nat} {I I0 : Nat → Nat → Int32} {L : Nat → Nat → Int64} {s : Nat → Nat → Nat} {t : Nat → Nat → Nat} (hR : zRun s 22 I0 I) (hT : zSet t 11 16 I) {k h : Nat} (hk : k < 8) (hh : h < 100000) (h10 : s 10 k ≤ 8) (h11 : ∀ i, i < s 10 k → s 11 (k * 8 + i) < 100000) (h14 : ∀ i, i < 64 → s 14 i < 100000) : aw_Met G mX10_behind [.ref 3, .int (nI h), .int (nI k), .int 3] (zH n I L c) (fun v h2 => v = some (.int (mE 6 3 (zOb s t k h 3))) ∧ h2 = zH n I L c) := by
  have hpl := p_last_64 (s := s) (c := k) (h := h) h10 hk
  refine aw_Met.of okX10_behind (Nat.le_of_ble_eq_true rfl) ?_
  show aw_W G mX10_behind 0 [.ref 3, .int (nI h), .int (nI k), .int 3, aw_x, aw_x] [] (zH n I L c) (0, 0) _
  refine aw_aload_n dX10_behind_0 rfl ?_
  refine aw_getR dX10_behind_1 f10_58 rfl ⟨Nat.le_of_ble_eq_true rfl, Nat.le_of_ble_eq_true rfl⟩ rfl rfl ?_
  refine aw_getR dX10_behind_4 f10_317 rfl ⟨Nat.le_of_ble_eq_true rfl, Nat.le_of_ble_eq_true rfl⟩ rfl rfl ?_
  refine aw_iload_n dX10_behind_7 rfl ?_
  refine aw_iload_n dX10_behind_8 rfl ?_
  refine aw_V0c (As := [_, _]) dX10_behind_9 k10_321 rfl rfl rfl ⟨Nat.le_of_ble_eq_true rfl, Nat.le_of_ble_eq_true rfl⟩ (Nat.le_of_ble_eq_true rfl) ⟨⟨Nat.le_of_ble_eq_true rfl, Nat.le_of_ble_eq_true rfl⟩, ⟨Nat.le_of_ble_eq_true rfl, Nat.le_of_ble_eq_true rfl⟩⟩ ⟨rfl, rfl⟩ (w_lastStep G hR hk hh h10 h11) (fun v h2 hq => ?_)
  obtain ⟨rfl, rfl⟩ := hq
  refine aw_istore (ls2 := [_, _, _, _, _, _]) dX10_behind_12 (by decide) rfl rfl ?_
  refine aw_iload dX10_behind_14 rfl ?_
  refine aw_iconst (v := -1) dX10_behind_16 rfl ?_
  refine aw_ic_ne_p (a := p_last s k h (s 10 k)) (b := 0) (tgt := 45) dX10_behind_17 (by decide) (by omega) (by omega) (fun c17 => ?_) (fun c17 => ?_)
  · rw [zi_pred c17]
    refine aw_aload_n dX10_behind_45 rfl ?_
    refine aw_getR dX10_behind_46 f10_58 rfl ⟨Nat.le_of_ble_eq_true rfl, Nat.le_of_ble_eq_true rfl⟩ rfl rfl ?_
    refine aw_getR dX10_behind_49 f10_317 rfl ⟨Nat.le_of_ble_eq_true rfl, Nat.le_of_ble_eq_true rfl⟩ rfl rfl ?_
    refine aw_getR dX10_behind_52 f10_329 rfl ⟨Nat.le_of_ble_eq_true rfl, Nat.le_of_ble_eq_true rfl⟩ rfl rfl ?_
    refine aw_iload dX10_behind_55 rfl ?_
    refine aw_iald_n (j := p_last s k h (s 10 k) - 1) dX10_behind_57 rfl (Nat.le_of_ble_eq_true rfl) (by decide) (by omega) ?_
    refine aw_top (show _ = nI (s 14 (p_last s k h (s 10 k) - 1)) - 1 from hR.at 14 (p_last s k h (s 10 k) - 1) (by decide) (by decide) (by decide) (by omega)) ?_
    refine aw_istore (ls2 := [_, _, _, _, _, _]) dX10_behind_58 (by decide) rfl rfl ?_
    refine aw_iload_n dX10_behind_60 rfl ?_
    refine aw_swOut (tgt := 146) dX10_behind_61 (by decide) (by decide) ?_
    refine aw_iload dX10_behind_146 rfl ?_
    refine aw_reti dX10_behind_148 rfl rfl ⟨Nat.le_of_ble_eq_true rfl, Nat.le_of_ble_eq_true rfl⟩ ?_
    refine ⟨congrArg (fun z => some (Value.int z)) ?_, rfl⟩
    unfold zOb
    rw [if_neg c17, if_neg (by decide), if_neg (by decide), if_neg (by decide)]; rfl
  · refine aw_iload_n dX10_behind_20 rfl ?_
    refine aw_if_ne (tgt := 26) dX10_behind_21 (by decide) (fun _ => ?_) (fun z => absurd z (by decide))
    refine aw_iload_n dX10_behind_26 rfl ?_
    refine aw_iconst (v := 2) dX10_behind_27 rfl ?_
    refine aw_ic_ne (tgt := 43) dX10_behind_28 (by decide) (fun _ => ?_) (fun z => absurd z (by decide))
    refine aw_iconst (v := -1) dX10_behind_43 rfl ?_
    refine aw_reti dX10_behind_44 rfl rfl ⟨Nat.le_of_ble_eq_true rfl, Nat.le_of_ble_eq_true rfl⟩ ?_
    refine ⟨congrArg (fun z => some (Value.int z)) ?_, rfl⟩
    unfold zOb
    rw [if_pos c17, if_neg (by decide)]; rfl
theorem w_behind (G : aw_G) {n c : Nat} {I I0 : Nat → Nat → Int32} {L : Nat → Nat → Int64} {s : Nat → Nat → Nat} {t : Nat → Nat → Nat} (hR : zRun s 22 I0 I) (hT : zSet t 11 16 I) {k h j : Nat} (hk : k < 8) (hh : h < 100000) (h10 : s 10 k ≤ 8) (h11 : ∀ i, i < s 10 k → s 11 (k * 8 + i) < 100000) (h14 : ∀ i, i < 64 → s 14 i < 100000) (hj : j < 4) : aw_Met G mX10_behind [.ref 3, .int (nI h), .int (nI k), .int (nI j)] (zH n I L c) (fun v h2 => v = some (.int (mE 6 j (zOb s t k h j))) ∧ h2 = zH n I L c) := by
  have h' : j = 0 ∨ j = 1 ∨ j = 2 ∨ j = 3 := by omega
  rcases h' with rfl | rfl | rfl | rfl
  · exact w_behind0 G hR hT hk hh h10 h11 h14
  · exact w_behind1 G hR hT hk hh h10 h11 h14
  · exact w_behind2 G hR hT hk hh h10 h11 h14
  · exact w_behind3 G hR hT hk hh h10 h11 h14
theorem w_stay44 (G : aw_G) {n c : Nat} {I I0 : Nat → Nat → Int32} {L : Nat → Nat → Int64} {s : Nat → Nat → Nat} (hR : zRun s 44 I0 I) {k h : Nat} (hk : k < 8) (hh : h < 100000) (h7 : s 7 k < 100000) (h5 : s 5 k < 8) : aw_Met G mX6_stayBehind [.ref 44, .int (nI k), .int (nI h)] (zH n I L c) (fun v h2 => v = some (.int (nI (if s 7 k ≠ 0 ∧ s 7 k ≤ h + 1 then s 5 k + 1 else 0) - 1)) ∧ h2 = zH n I L c) := by
  refine aw_Met.of okX6_stayBehind (Nat.le_of_ble_eq_true rfl) ?_
  show aw_W G mX6_stayBehind 0 [.ref 44, .int (nI k), .int (nI h)] [] (zH n I L c) (0, 0) _
  refine aw_aload_n dX6_stayBehind_0 rfl ?_
  refine aw_getR dX6_stayBehind_1 f6_34 rfl ⟨Nat.le_of_ble_eq_true rfl, Nat.le_of_ble_eq_true rfl⟩ rfl rfl ?_
  refine aw_iload_n dX6_stayBehind_4 rfl ?_
  refine aw_iald_n (j := k) dX6_stayBehind_5 rfl (Nat.le_of_ble_eq_true rfl) (by decide) (by omega) ?_
  refine aw_top (show _ = nI (s 7 (k)) - 1 from hR.at 7 (k) (by decide) (by decide) (by decide) (by omega)) ?_
  refine aw_iconst (v := -1) dX6_stayBehind_6 rfl ?_
  refine aw_ic_eq_p (a := s 7 (k)) (b := 0) (tgt := 29) dX6_stayBehind_7 (by decide) (by omega) (by omega) (fun c7 => ?_) (fun c7 => ?_)
  · refine aw_iconst (v := -1) dX6_stayBehind_29 rfl ?_
    refine aw_reti dX6_stayBehind_30 rfl rfl ⟨Nat.le_of_ble_eq_true rfl, Nat.le_of_ble_eq_true rfl⟩ ?_
    refine ⟨?_, rfl⟩
    first
    | (rw [if_pos (by omega), nI_pred])
    | (rw [if_neg (by omega)]; rfl)
  · refine aw_aload_n dX6_stayBehind_10 rfl ?_
    refine aw_getR dX6_stayBehind_11 f6_34 rfl ⟨Nat.le_of_ble_eq_true rfl, Nat.le_of_ble_eq_true rfl⟩ rfl rfl ?_
    refine aw_iload_n dX6_stayBehind_14 rfl ?_
    refine aw_iald_n (j := k) dX6_stayBehind_15 rfl (Nat.le_of_ble_eq_true rfl) (by decide) (by omega) ?_
    refine aw_top (show _ = nI (s 7 (k)) - 1 from hR.at 7 (k) (by decide) (by decide) (by decide) (by omega)) ?_
    refine aw_iload_n dX6_stayBehind_16 rfl ?_
    refine aw_top (show _ = nI (h + 1) - 1 from (nI_pred h).symm) ?_
    refine aw_ic_gt_p (a := s 7 (k)) (b := h + 1) (tgt := 29) dX6_stayBehind_17 (by decide) (by omega) (by omega) (fun c17 => ?_) (fun c17 => ?_)
    · refine aw_iconst (v := -1) dX6_stayBehind_29 rfl ?_
      refine aw_reti dX6_stayBehind_30 rfl rfl ⟨Nat.le_of_ble_eq_true rfl, Nat.le_of_ble_eq_true rfl⟩ ?_
      refine ⟨?_, rfl⟩
      first
      | (rw [if_pos (by omega), nI_pred])
      | (rw [if_neg (by omega)]; rfl)
    · refine aw_aload_n dX6_stayBehind_20 rfl ?_
      refine aw_getR dX6_stayBehind_21 f6_28 rfl ⟨Nat.le_of_ble_eq_true rfl, Nat.le_of_ble_eq_true rfl⟩ rfl rfl ?_
      refine aw_iload_n dX6_stayBehind_24 rfl ?_
      refine aw_iald_n (j := k) dX6_stayBehind_25 rfl (Nat.le_of_ble_eq_true rfl) (by decide) (by omega) ?_
      refine aw_top (show _ = nI (s 5 (k)) from hR.at 5 (k) (by decide) (by decide) (by decide) (by omega)) ?_
      refine aw_goto (tgt := 30) dX6_stayBehind_26 (by decide) ?_
      refine aw_reti dX6_stayBehind_30 rfl rfl ⟨Nat.le_of_ble_eq_true rfl, Nat.le_of_ble_eq_true rfl⟩ ?_
      refine ⟨?_, rfl⟩
      first
      | (rw [if_pos (by omega), nI_pred])
      | (rw [if_neg (by omega)]; rfl)
theorem w_whoIs44 (G : aw_G) {n c : Nat} {I I0 : Nat → Nat → Int32} {L : Nat → Nat → Int64} {s : Nat → Nat → Nat} (hR : zRun s 44 I0 I) {a : Nat} (ha : a < 100000) (hn : s 0 0 ≤ 8) (h6 : ∀ k, k < s 0 0 → s 6 k < 100000) : aw_Met G mX6_whoIs [.ref 44, .int (nI a)] (zH n I L c) (fun v h2 => v = some (.int (nI (z_who (fun k => s 6 k == a) (s 0 0)))) ∧ h2 = zH n I L c) := by
  refine aw_Met.of okX6_whoIs (Nat.le_of_ble_eq_true rfl) ?_
  show aw_W G mX6_whoIs 0 [.ref 44, .int (nI a), aw_x, aw_x] [] (zH n I L c) (0, 0) _
  refine aw_iconst (v := 0) dX6_whoIs_0 rfl ?_
  refine aw_istore_n (ls2 := [_, _, _, _]) dX6_whoIs_1 (by decide) rfl rfl ?_
  refine aw_iconst (v := 0) dX6_whoIs_2 rfl ?_
  refine aw_istore_n (ls2 := [_, _, _, _]) dX6_whoIs_3 (by decide) rfl rfl ?_
  refine aw_up (X := fun i => aw_W G mX6_whoIs 4 [.ref 44, .int (nI a), .int (nI (z_who (fun k => s 6 k == a) i)), .int (nI i)] [] (zH n I L c) (0, 0) _) (show 0 ≤ s 0 0 by omega) ?_ (fun i _ hi ih => ?_)
  · refine aw_iload_n dX6_whoIs_4 rfl ?_
    refine aw_aload_n dX6_whoIs_5 rfl ?_
    refine aw_getI dX6_whoIs_6 f6_9 rfl ⟨Nat.le_of_ble_eq_true rfl, Nat.le_of_ble_eq_true rfl⟩ rfl ?_
    refine aw_top (show _ = nI (s 0 0) from hR.at0 0 (Or.inl rfl)) ?_
    refine aw_ic_ge_n (a := s 0 0) (b := s 0 0) (tgt := 34) dX6_whoIs_9 (by decide) (by omega) (by omega) (fun c9 => ?_) (fun z => absurd z (by omega))
    refine aw_iload_n dX6_whoIs_34 rfl ?_
    refine aw_reti dX6_whoIs_35 rfl rfl ⟨Nat.le_of_ble_eq_true rfl, Nat.le_of_ble_eq_true rfl⟩ ?_
    exact ⟨rfl, rfl⟩
  · have h6i := h6 i hi
    refine aw_iload_n dX6_whoIs_4 rfl ?_
    refine aw_aload_n dX6_whoIs_5 rfl ?_
    refine aw_getI dX6_whoIs_6 f6_9 rfl ⟨Nat.le_of_ble_eq_true rfl, Nat.le_of_ble_eq_true rfl⟩ rfl ?_
    refine aw_top (show _ = nI (s 0 0) from hR.at0 0 (Or.inl rfl)) ?_
    refine aw_ic_ge_n (a := i) (b := s 0 0) (tgt := 34) dX6_whoIs_9 (by decide) (by omega) (by omega) (fun z => absurd z (by omega)) (fun c9 => ?_)
    refine aw_aload_n dX6_whoIs_12 rfl ?_
    refine aw_getR dX6_whoIs_13 f6_31 rfl ⟨Nat.le_of_ble_eq_true rfl, Nat.le_of_ble_eq_true rfl⟩ rfl rfl ?_
    refine aw_iload_n dX6_whoIs_16 rfl ?_
    refine aw_iald_n (j := i) dX6_whoIs_17 rfl (Nat.le_of_ble_eq_true rfl) (by decide) (by omega) ?_
    refine aw_top (show _ = nI (s 6 (i)) from hR.at 6 (i) (by decide) (by decide) (by decide) (by omega)) ?_
    refine aw_iload_n dX6_whoIs_18 rfl ?_
    refine aw_ic_ne_n (a := s 6 (i)) (b := a) (tgt := 28) dX6_whoIs_19 (by decide) (by omega) (by omega) (fun c19 => ?_) (fun c19 => ?_)
    · refine aw_iinc_n (ls2 := [_, _, _, _]) dX6_whoIs_28 rfl (by decide) rfl rfl ?_
      refine aw_goto (tgt := 4) dX6_whoIs_31 (by decide) ?_
      have e : z_who (fun k => s 6 k == a) (i + 1) = z_who (fun k => s 6 k == a) i := by rw [z_who, if_neg (by simpa using c19)]
      rw [e] at ih
      exact ih
    · refine aw_iload_n dX6_whoIs_22 rfl ?_
      refine aw_iconst (v := 1) dX6_whoIs_23 rfl ?_
      refine aw_iload_n dX6_whoIs_24 rfl ?_
      refine aw_ishl dX6_whoIs_25 ?_
      refine aw_ior dX6_whoIs_26 ?_
      refine aw_istore_n (ls2 := [_, _, _, _]) dX6_whoIs_27 (by decide) rfl rfl ?_
      refine aw_iinc_n (ls2 := [_, _, _, _]) dX6_whoIs_28 rfl (by decide) rfl rfl ?_
      refine aw_goto (tgt := 4) dX6_whoIs_31 (by decide) ?_
      have e : z_who (fun k => s 6 k == a) (i + 1) = z_who (fun k => s 6 k == a) i + 2 ^ i := by rw [z_who, if_pos (by simpa using c19)]
      rw [e] at ih
      rw [zi_or i (by omega) _ (z_who_256 (by omega)) z_who_lt]
      exact ih
theorem w_howMany44 (G : aw_G) {n c : Nat} {I I0 : Nat → Nat → Int32} {L : Nat → Nat → Int64} {s : Nat → Nat → Nat} (hR : zRun s 44 I0 I) {a : Nat} (ha : a < 100000) (hn : s 0 0 ≤ 8) (h6 : ∀ k, k < s 0 0 → s 6 k < 100000) : aw_Met G mX6_howMany [.ref 44, .int (nI a)] (zH n I L c) (fun v h2 => v = some (.int (nI (z_ones (z_who (fun k => s 6 k == a) (s 0 0))))) ∧ h2 = zH n I L c) := by
  refine aw_Met.of okX6_howMany (Nat.le_of_ble_eq_true rfl) ?_
  show aw_W G mX6_howMany 0 [.ref 44, .int (nI a)] [] (zH n I L c) (0, 0) _
  refine aw_aload_n dX6_howMany_0 rfl ?_
  refine aw_iload_n dX6_howMany_1 rfl ?_
  refine aw_V0c (As := [_]) dX6_howMany_2 k6_123 rfl rfl rfl ⟨Nat.le_of_ble_eq_true rfl, Nat.le_of_ble_eq_true rfl⟩ (Nat.le_of_ble_eq_true rfl) ⟨⟨Nat.le_of_ble_eq_true rfl, Nat.le_of_ble_eq_true rfl⟩, ⟨Nat.le_of_ble_eq_true rfl, Nat.le_of_ble_eq_true rfl⟩⟩ ⟨rfl, rfl⟩ (w_whoIs44 G hR ha hn h6) (fun v h2 hq => ?_)
  obtain ⟨rfl, rfl⟩ := hq
  refine aw_S0c (As := [_]) dX6_howMany_5 k6_127 rfl rfl (Nat.le_of_ble_eq_true rfl) ⟨⟨Nat.le_of_ble_eq_true rfl, Nat.le_of_ble_eq_true rfl⟩, ⟨Nat.le_of_ble_eq_true rfl, Nat.le_of_ble_eq_true rfl⟩⟩ ⟨rfl, rfl⟩ (w_bitCount G (z_who_256 hn)) (fun v h2 hq => ?_)
  obtain ⟨rfl, rfl⟩ := hq
  refine aw_reti dX6_howMany_8 rfl rfl ⟨Nat.le_of_ble_eq_true rfl, Nat.le_of_ble_eq_true rfl⟩ ?_
  exact ⟨rfl, rfl⟩
theorem w_whoBy (G : aw_G) {n c : Nat} {I I0 : Nat → Nat → Int32} {L : Nat → Nat → Int64} {m : Nat → Nat → Nat} (hM : zMod m I0 I) {a k : Nat} (hk : I 81 9 = nI k) (ha : a < 100000) (hn : k ≤ 8) (h6 : ∀ j, j < k → m 0 j < 100000) : aw_Met G mX11_whoBy [.ref 81, .int (nI a)] (zH n I L c) (fun v h2 => v = some (.int (nI (z_who (fun j => m 0 j == a) k))) ∧ h2 = zH n I L c) := by
  refine aw_Met.of okX11_whoBy (Nat.le_of_ble_eq_true rfl) ?_
  show aw_W G mX11_whoBy 0 [.ref 81, .int (nI a), aw_x, aw_x] [] (zH n I L c) (0, 0) _
  refine aw_iconst (v := 0) dX11_whoBy_0 rfl ?_
  refine aw_istore_n (ls2 := [_, _, _, _]) dX11_whoBy_1 (by decide) rfl rfl ?_
  refine aw_iconst (v := 0) dX11_whoBy_2 rfl ?_
  refine aw_istore_n (ls2 := [_, _, _, _]) dX11_whoBy_3 (by decide) rfl rfl ?_
  refine aw_up (X := fun i => aw_W G mX11_whoBy 4 [.ref 81, .int (nI a), .int (nI (z_who (fun j => m 0 j == a) i)), .int (nI i)] [] (zH n I L c) (0, 0) _) (show 0 ≤ k by omega) ?_ (fun i _ hi ih => ?_)
  · refine aw_iload_n dX11_whoBy_4 rfl ?_
    refine aw_aload_n dX11_whoBy_5 rfl ?_
    refine aw_getI dX11_whoBy_6 f11_133 rfl ⟨Nat.le_of_ble_eq_true rfl, Nat.le_of_ble_eq_true rfl⟩ rfl ?_
    refine aw_top hk ?_
    refine aw_ic_ge_n (a := k) (b := k) (tgt := 38) dX11_whoBy_9 (by decide) (by omega) (by omega) (fun c9 => ?_) (fun z => absurd z (by omega))
    refine aw_iload_n dX11_whoBy_38 rfl ?_
    refine aw_reti dX11_whoBy_39 rfl rfl ⟨Nat.le_of_ble_eq_true rfl, Nat.le_of_ble_eq_true rfl⟩ ?_
    exact ⟨rfl, rfl⟩
  · have h6i := h6 i hi
    refine aw_iload_n dX11_whoBy_4 rfl ?_
    refine aw_aload_n dX11_whoBy_5 rfl ?_
    refine aw_getI dX11_whoBy_6 f11_133 rfl ⟨Nat.le_of_ble_eq_true rfl, Nat.le_of_ble_eq_true rfl⟩ rfl ?_
    refine aw_top hk ?_
    refine aw_ic_ge_n (a := i) (b := k) (tgt := 38) dX11_whoBy_9 (by decide) (by omega) (by omega) (fun z => absurd z (by omega)) (fun c9 => ?_)
    refine aw_iload_n dX11_whoBy_12 rfl ?_
    refine aw_aload_n dX11_whoBy_13 rfl ?_
    refine aw_getR dX11_whoBy_14 f11_46 rfl ⟨Nat.le_of_ble_eq_true rfl, Nat.le_of_ble_eq_true rfl⟩ rfl rfl ?_
    refine aw_iload_n dX11_whoBy_17 rfl ?_
    refine aw_iald_n (j := i) dX11_whoBy_18 rfl (Nat.le_of_ble_eq_true rfl) (by decide) (by omega) ?_
    refine aw_top (show _ = nI (m 0 (i)) from hM.at 0 (i) (by decide) (by omega)) ?_
    refine aw_iload_n dX11_whoBy_19 rfl ?_
    refine aw_ic_ne_n (a := m 0 (i)) (b := a) (tgt := 29) dX11_whoBy_20 (by decide) (by omega) (by omega) (fun c20 => ?_) (fun c20 => ?_)
    · refine aw_iconst (v := 0) dX11_whoBy_29 rfl ?_
      refine aw_ior dX11_whoBy_30 ?_
      refine aw_istore_n (ls2 := [_, _, _, _]) dX11_whoBy_31 (by decide) rfl rfl ?_
      refine aw_iinc_n (ls2 := [_, _, _, _]) dX11_whoBy_32 rfl (by decide) rfl rfl ?_
      refine aw_goto (tgt := 4) dX11_whoBy_35 (by decide) ?_
      have e : z_who (fun j => m 0 j == a) (i + 1) = z_who (fun j => m 0 j == a) i := by rw [z_who, if_neg (by simpa using c20)]
      rw [e] at ih
      rw [zi_or0 _ (z_who_256 (by omega))]
      exact ih
    · refine aw_iconst (v := 1) dX11_whoBy_23 rfl ?_
      refine aw_iload_n dX11_whoBy_24 rfl ?_
      refine aw_ishl dX11_whoBy_25 ?_
      refine aw_goto (tgt := 30) dX11_whoBy_26 (by decide) ?_
      refine aw_ior dX11_whoBy_30 ?_
      refine aw_istore_n (ls2 := [_, _, _, _]) dX11_whoBy_31 (by decide) rfl rfl ?_
      refine aw_iinc_n (ls2 := [_, _, _, _]) dX11_whoBy_32 rfl (by decide) rfl rfl ?_
      refine aw_goto (tgt := 4) dX11_whoBy_35 (by decide) ?_
      have e : z_who (fun j => m 0 j == a) (i + 1) = z_who (fun j => m 0 j == a) i + 2 ^ i := by rw [z_who, if_pos (by simpa using c20)]
      rw [e] at ih
      rw [zi_or i (by omega) _ (z_who_256 (by omega)) z_who_lt]
      exact ih
theorem w_comers (G : aw_G) {n c : Nat} {I I0 : Nat → Nat → Int32} {L : Nat → Nat → Int64} {m : Nat → Nat → Nat} (hM : zMod m I0 I) {k : Nat} (hk : I 81 9 = nI k) (hn : k ≤ 8) (h6 : ∀ j, j < k → m 0 j < 100000) : aw_Met G mX11_comers [.ref 81] (zH n I L c) (fun v h2 => v = some (.int (nI (z_ones (z_who (fun j => m 0 j == 2) k)))) ∧ h2 = zH n I L c) := by
  refine aw_Met.of okX11_comers (Nat.le_of_ble_eq_true rfl) ?_
  show aw_W G mX11_comers 0 [.ref 81] [] (zH n I L c) (0, 0) _
  refine aw_aload_n dX11_comers_0 rfl ?_
  refine aw_iconst (v := 2) dX11_comers_1 rfl ?_
  refine aw_V0c (As := [_]) dX11_comers_2 k11_226 rfl rfl rfl ⟨Nat.le_of_ble_eq_true rfl, Nat.le_of_ble_eq_true rfl⟩ (Nat.le_of_ble_eq_true rfl) ⟨⟨Nat.le_of_ble_eq_true rfl, Nat.le_of_ble_eq_true rfl⟩, ⟨Nat.le_of_ble_eq_true rfl, Nat.le_of_ble_eq_true rfl⟩⟩ ⟨rfl, rfl⟩ (w_whoBy G (a := 2) hM hk (by decide) hn h6) (fun v h2 hq => ?_)
  obtain ⟨rfl, rfl⟩ := hq
  refine aw_S0c (As := [_]) dX11_comers_5 k11_235 rfl rfl (Nat.le_of_ble_eq_true rfl) ⟨⟨Nat.le_of_ble_eq_true rfl, Nat.le_of_ble_eq_true rfl⟩, ⟨Nat.le_of_ble_eq_true rfl, Nat.le_of_ble_eq_true rfl⟩⟩ ⟨rfl, rfl⟩ (w_ones G (z_who_256 hn)) (fun v h2 hq => ?_)
  obtain ⟨rfl, rfl⟩ := hq
  refine aw_reti dX11_comers_8 rfl rfl ⟨Nat.le_of_ble_eq_true rfl, Nat.le_of_ble_eq_true rfl⟩ ?_
  exact ⟨rfl, rfl⟩
theorem w_mAll (G : aw_G) {n c : Nat} {I I0 : Nat → Nat → Int32} {L : Nat → Nat → Int64} {m : Nat → Nat → Nat} (hM : zMod m I0 I)  : aw_Met G mX11_allArrivals [.ref 81] (zH n I L c) (fun v h2 => v = some (.int (nI (z_sum (m 8) 8))) ∧ h2 = zH n I L c) := by
  refine aw_Met.of okX11_allArrivals (Nat.le_of_ble_eq_true rfl) ?_
  show aw_W G mX11_allArrivals 0 [.ref 81, aw_x, aw_x] [] (zH n I L c) (0, 0) _
  refine aw_iconst (v := 0) dX11_allArrivals_0 rfl ?_
  refine aw_istore_n (ls2 := [_, _, _]) dX11_allArrivals_1 (by decide) rfl rfl ?_
  refine aw_iconst (v := 0) dX11_allArrivals_2 rfl ?_
  refine aw_istore_n (ls2 := [_, _, _]) dX11_allArrivals_3 (by decide) rfl rfl ?_
  refine aw_up (X := fun i => aw_W G mX11_allArrivals 4 [.ref 81, .int (nI (z_sum (m 8) i)), .int (nI i)] [] (zH n I L c) (0, 0) _) (show 0 ≤ 8 by omega) ?_ (fun i _ hi ih => ?_)
  · refine aw_iload_n dX11_allArrivals_4 rfl ?_
    refine aw_bipush (v := 8) dX11_allArrivals_5 (by decide) ?_
    refine aw_ic_ge_n (a := 8) (b := 8) (tgt := 25) dX11_allArrivals_7 (by decide) (by omega) (by omega) (fun c7 => ?_) (fun z => absurd z (by omega))
    refine aw_iload_n dX11_allArrivals_25 rfl ?_
    refine aw_reti dX11_allArrivals_26 rfl rfl ⟨Nat.le_of_ble_eq_true rfl, Nat.le_of_ble_eq_true rfl⟩ ?_
    exact ⟨rfl, rfl⟩
  · refine aw_iload_n dX11_allArrivals_4 rfl ?_
    refine aw_bipush (v := 8) dX11_allArrivals_5 (by decide) ?_
    refine aw_ic_ge_n (a := i) (b := 8) (tgt := 25) dX11_allArrivals_7 (by decide) (by omega) (by omega) (fun z => absurd z (by omega)) (fun c7 => ?_)
    refine aw_iload_n dX11_allArrivals_10 rfl ?_
    refine aw_aload_n dX11_allArrivals_11 rfl ?_
    refine aw_getR dX11_allArrivals_12 f11_70 rfl ⟨Nat.le_of_ble_eq_true rfl, Nat.le_of_ble_eq_true rfl⟩ rfl rfl ?_
    refine aw_iload_n dX11_allArrivals_15 rfl ?_
    refine aw_iald_n (j := i) dX11_allArrivals_16 rfl (Nat.le_of_ble_eq_true rfl) (by decide) (by omega) ?_
    refine aw_top (show _ = nI (m 8 (i)) from hM.at 8 (i) (by decide) (by omega)) ?_
    refine aw_iadd_n (a := z_sum (m 8) i) (b := m 8 (i)) dX11_allArrivals_17 ?_
    refine aw_istore_n (ls2 := [_, _, _]) dX11_allArrivals_18 (by decide) rfl rfl ?_
    refine aw_iinc_n (ls2 := [_, _, _]) dX11_allArrivals_19 rfl (by decide) rfl rfl ?_
    refine aw_goto (tgt := 4) dX11_allArrivals_22 (by decide) ?_
    exact ih
theorem aw_loc1 {G : aw_G} {M : aw_MR} {pc : Nat} {st : List Value} {h : aw_H} {q : Nat × Nat} {Q : Option Value → aw_H → Prop} {v w z : Value} {x y : Int32} (e : x = y) (k : aw_W G M pc [v, .int y, w, z] st h q Q) : aw_W G M pc [v, .int x, w, z] st h q Q := e ▸ k
theorem w_busiestNow (G : aw_G) {n c : Nat} {I I0 : Nat → Nat → Int32} {L : Nat → Nat → Int64} {m : Nat → Nat → Nat} (hM : zMod m I0 I) (hB : ∀ j, j < 8 → m 8 j ≤ 100000) : aw_Met G mX11_busiestNow [.ref 81] (zH n I L c) (fun v h2 => v = some (.int (nI (z_most (m 8) 8).1 - 1)) ∧ h2 = zH n I L c) := by
  refine aw_Met.of okX11_busiestNow (Nat.le_of_ble_eq_true rfl) ?_
  show aw_W G mX11_busiestNow 0 [.ref 81, aw_x, aw_x, aw_x] [] (zH n I L c) (0, 0) _
  refine aw_iconst (v := -1) dX11_busiestNow_0 rfl ?_
  refine aw_istore_n (ls2 := [_, _, _, _]) dX11_busiestNow_1 (by decide) rfl rfl ?_
  refine aw_iconst (v := 0) dX11_busiestNow_2 rfl ?_
  refine aw_istore_n (ls2 := [_, _, _, _]) dX11_busiestNow_3 (by decide) rfl rfl ?_
  refine aw_iconst (v := 0) dX11_busiestNow_4 rfl ?_
  refine aw_istore_n (ls2 := [_, _, _, _]) dX11_busiestNow_5 (by decide) rfl rfl ?_
  refine aw_up (X := fun i => aw_W G mX11_busiestNow 6 [.ref 81, .int (nI ((z_most (m 8) i).1) - 1), .int (nI ((z_most (m 8) i).2)), .int (nI i)] [] (zH n I L c) (0, 0) _) (show 0 ≤ 8 by omega) ?_ (fun i _ hi ih => ?_)
  · refine aw_iload_n dX11_busiestNow_6 rfl ?_
    refine aw_bipush (v := 8) dX11_busiestNow_7 (by decide) ?_
    refine aw_ic_ge_n (a := 8) (b := 8) (tgt := 45) dX11_busiestNow_9 (by decide) (by omega) (by omega) (fun c9 => ?_) (fun z => absurd z (by omega))
    refine aw_iload_n dX11_busiestNow_45 rfl ?_
    refine aw_reti dX11_busiestNow_46 rfl rfl ⟨Nat.le_of_ble_eq_true rfl, Nat.le_of_ble_eq_true rfl⟩ ?_
    exact ⟨rfl, rfl⟩
  · have hbb := z_most_le (f := m 8) (i := i) (B := 100000) (fun j hj => hB j (by omega))
    have hbi := hB i (by omega)
    refine aw_iload_n dX11_busiestNow_6 rfl ?_
    refine aw_bipush (v := 8) dX11_busiestNow_7 (by decide) ?_
    refine aw_ic_ge_n (a := i) (b := 8) (tgt := 45) dX11_busiestNow_9 (by decide) (by omega) (by omega) (fun z => absurd z (by omega)) (fun c9 => ?_)
    refine aw_aload_n dX11_busiestNow_12 rfl ?_
    refine aw_getR dX11_busiestNow_13 f11_70 rfl ⟨Nat.le_of_ble_eq_true rfl, Nat.le_of_ble_eq_true rfl⟩ rfl rfl ?_
    refine aw_iload_n dX11_busiestNow_16 rfl ?_
    refine aw_iald_n (j := i) dX11_busiestNow_17 rfl (Nat.le_of_ble_eq_true rfl) (by decide) (by omega) ?_
    refine aw_top (show _ = nI (m 8 (i)) from hM.at 8 (i) (by decide) (by omega)) ?_
    refine aw_iload_n dX11_busiestNow_18 rfl ?_
    refine aw_ic_le_n (a := m 8 (i)) (b := (z_most (m 8) i).2) (tgt := 26) dX11_busiestNow_19 (by decide) (by omega) (by omega) (fun c19 => ?_) (fun c19 => ?_)
    · refine aw_iload_n dX11_busiestNow_26 rfl ?_
      refine aw_istore_n (ls2 := [_, _, _, _]) dX11_busiestNow_27 (by decide) rfl rfl ?_
      refine aw_aload_n dX11_busiestNow_28 rfl ?_
      refine aw_getR dX11_busiestNow_29 f11_70 rfl ⟨Nat.le_of_ble_eq_true rfl, Nat.le_of_ble_eq_true rfl⟩ rfl rfl ?_
      refine aw_iload_n dX11_busiestNow_32 rfl ?_
      refine aw_iald_n (j := i) dX11_busiestNow_33 rfl (Nat.le_of_ble_eq_true rfl) (by decide) (by omega) ?_
      refine aw_top (show _ = nI (m 8 (i)) from hM.at 8 (i) (by decide) (by omega)) ?_
      refine aw_iload_n dX11_busiestNow_34 rfl ?_
      refine aw_S0c (As := [_, _]) dX11_busiestNow_35 k11_229 rfl rfl (Nat.le_of_ble_eq_true rfl) ⟨⟨Nat.le_of_ble_eq_true rfl, Nat.le_of_ble_eq_true rfl⟩, ⟨Nat.le_of_ble_eq_true rfl, Nat.le_of_ble_eq_true rfl⟩⟩ ⟨rfl, rfl⟩ (w_greater G (a := m 8 (i)) (b := (z_most (m 8) i).2) (by omega) (by omega)) (fun v h2 hq => ?_)
      obtain ⟨rfl, rfl⟩ := hq
      refine aw_istore_n (ls2 := [_, _, _, _]) dX11_busiestNow_38 (by decide) rfl rfl ?_
      refine aw_iinc_n (ls2 := [_, _, _, _]) dX11_busiestNow_39 rfl (by decide) rfl rfl ?_
      refine aw_goto (tgt := 6) dX11_busiestNow_42 (by decide) ?_
      have e : z_most (m 8) (i + 1) = z_most (m 8) i := by rw [z_most, if_neg (by omega)]
      rw [e] at ih
      rw [if_neg (by omega)]
      exact ih
    · refine aw_iload_n dX11_busiestNow_22 rfl ?_
      refine aw_goto (tgt := 27) dX11_busiestNow_23 (by decide) ?_
      refine aw_istore_n (ls2 := [_, _, _, _]) dX11_busiestNow_27 (by decide) rfl rfl ?_
      refine aw_aload_n dX11_busiestNow_28 rfl ?_
      refine aw_getR dX11_busiestNow_29 f11_70 rfl ⟨Nat.le_of_ble_eq_true rfl, Nat.le_of_ble_eq_true rfl⟩ rfl rfl ?_
      refine aw_iload_n dX11_busiestNow_32 rfl ?_
      refine aw_iald_n (j := i) dX11_busiestNow_33 rfl (Nat.le_of_ble_eq_true rfl) (by decide) (by omega) ?_
      refine aw_top (show _ = nI (m 8 (i)) from hM.at 8 (i) (by decide) (by omega)) ?_
      refine aw_iload_n dX11_busiestNow_34 rfl ?_
      refine aw_S0c (As := [_, _]) dX11_busiestNow_35 k11_229 rfl rfl (Nat.le_of_ble_eq_true rfl) ⟨⟨Nat.le_of_ble_eq_true rfl, Nat.le_of_ble_eq_true rfl⟩, ⟨Nat.le_of_ble_eq_true rfl, Nat.le_of_ble_eq_true rfl⟩⟩ ⟨rfl, rfl⟩ (w_greater G (a := m 8 (i)) (b := (z_most (m 8) i).2) (by omega) (by omega)) (fun v h2 hq => ?_)
      obtain ⟨rfl, rfl⟩ := hq
      refine aw_istore_n (ls2 := [_, _, _, _]) dX11_busiestNow_38 (by decide) rfl rfl ?_
      refine aw_iinc_n (ls2 := [_, _, _, _]) dX11_busiestNow_39 rfl (by decide) rfl rfl ?_
      refine aw_goto (tgt := 6) dX11_busiestNow_42 (by decide) ?_
      have e : z_most (m 8) (i + 1) = (i + 1, m 8 i) := by rw [z_most, if_pos (by omega)]
      rw [e] at ih
      rw [if_pos (by omega)]
      refine aw_loc1 (nI_pred i).symm ?_
      exact ih
theorem w_farBy (G : aw_G) {n c : Nat} {I : Nat → Nat → Int32} {L : Nat → Nat → Int64} {y : Nat → Nat → Nat} (hY : zYm y I) {p g : Nat} (hp : p < 8) (hg : g < 8) (hyb : ∀ j, j < 64 → y 1 j < 20000) : aw_Met G mX11_farBy [.ref 81, .int (nI p), .int (nI g)] (zH n I L c) (fun v h2 => v = some (.int (nI (if y 1 (8 * p + g) < 9999 then y 1 (8 * p + g) + 1 else 0) - 1)) ∧ h2 = zH n I L c) := by
  have hb0 := hyb (8 * p + g) (by omega)
  refine aw_Met.of okX11_farBy (Nat.le_of_ble_eq_true rfl) ?_
  show aw_W G mX11_farBy 0 [.ref 81, .int (nI p), .int (nI g)] [] (zH n I L c) (0, 0) _
  refine aw_aload_n dX11_farBy_0 rfl ?_
  refine aw_getR dX11_farBy_1 f11_43 rfl ⟨Nat.le_of_ble_eq_true rfl, Nat.le_of_ble_eq_true rfl⟩ rfl rfl ?_
  refine aw_bipush (v := 8) dX11_farBy_4 (by decide) ?_
  refine aw_iload_n dX11_farBy_6 rfl ?_
  refine aw_imul_n (a := 8) (b := p) dX11_farBy_7 ?_
  refine aw_iload_n dX11_farBy_8 rfl ?_
  refine aw_iadd_n (a := 8 * p) (b := g) dX11_farBy_9 ?_
  refine aw_iald_n (j := (8 * p) + g) dX11_farBy_10 rfl (Nat.le_of_ble_eq_true rfl) (by decide) (by omega) ?_
  refine aw_top (hY (8 * p + g) (by omega)).2 ?_
  refine aw_sipush (v := 9999) dX11_farBy_11 (by decide) ?_
  refine aw_ic_ge_n (a := y 1 (8 * p + g)) (b := 9999) (tgt := 31) dX11_farBy_14 (by decide) (by omega) (by omega) (fun c14 => ?_) (fun c14 => ?_)
  · refine aw_iconst (v := -1) dX11_farBy_31 rfl ?_
    refine aw_reti dX11_farBy_32 rfl rfl ⟨Nat.le_of_ble_eq_true rfl, Nat.le_of_ble_eq_true rfl⟩ ?_
    refine ⟨?_, rfl⟩
    first
    | (rw [if_pos (by omega), nI_pred])
    | (rw [if_neg (by omega)]; rfl)
  · refine aw_aload_n dX11_farBy_17 rfl ?_
    refine aw_getR dX11_farBy_18 f11_43 rfl ⟨Nat.le_of_ble_eq_true rfl, Nat.le_of_ble_eq_true rfl⟩ rfl rfl ?_
    refine aw_bipush (v := 8) dX11_farBy_21 (by decide) ?_
    refine aw_iload_n dX11_farBy_23 rfl ?_
    refine aw_imul_n (a := 8) (b := p) dX11_farBy_24 ?_
    refine aw_iload_n dX11_farBy_25 rfl ?_
    refine aw_iadd_n (a := 8 * p) (b := g) dX11_farBy_26 ?_
    refine aw_iald_n (j := (8 * p) + g) dX11_farBy_27 rfl (Nat.le_of_ble_eq_true rfl) (by decide) (by omega) ?_
    refine aw_top (hY (8 * p + g) (by omega)).2 ?_
    refine aw_goto (tgt := 32) dX11_farBy_28 (by decide) ?_
    refine aw_reti dX11_farBy_32 rfl rfl ⟨Nat.le_of_ble_eq_true rfl, Nat.le_of_ble_eq_true rfl⟩ ?_
    refine ⟨?_, rfl⟩
    first
    | (rw [if_pos (by omega), nI_pred])
    | (rw [if_neg (by omega)]; rfl)
theorem w_isCarter (G : aw_G) {n c : Nat} {I : Nat → Nat → Int32} {L : Nat → Nat → Int64} (x : Int32) {k : Nat} (hk : I 81 9 = nI k) (hn : k ≤ 8) : aw_Met G mX11_isCarter [.ref 81, .int x] (zH n I L c) (fun v h2 => v = some (.int (if zok x k then 1 else 0)) ∧ h2 = zH n I L c) := by
  refine aw_Met.of okX11_isCarter (Nat.le_of_ble_eq_true rfl) ?_
  show aw_W G mX11_isCarter 0 [.ref 81, .int x] [] (zH n I L c) (0, 0) _
  refine aw_iload_n dX11_isCarter_0 rfl ?_
  refine aw_i2l dX11_isCarter_1 ?_
  refine aw_lconst (v := 0) dX11_isCarter_2 rfl ?_
  refine aw_aload_n dX11_isCarter_3 rfl ?_
  refine aw_getI dX11_isCarter_4 f11_133 rfl ⟨Nat.le_of_ble_eq_true rfl, Nat.le_of_ble_eq_true rfl⟩ rfl ?_
  refine aw_top hk ?_
  refine aw_iconst (v := 1) dX11_isCarter_7 rfl ?_
  refine aw_isub dX11_isCarter_8 ?_
  refine aw_i2l dX11_isCarter_9 ?_
  refine aw_S0c (As := [_, _, _]) dX11_isCarter_10 k11_81 rfl rfl (Nat.le_of_ble_eq_true rfl) ⟨⟨Nat.le_of_ble_eq_true rfl, Nat.le_of_ble_eq_true rfl⟩, ⟨Nat.le_of_ble_eq_true rfl, Nat.le_of_ble_eq_true rfl⟩⟩ ⟨rfl, rfl⟩ (w_in G x (b := k) rfl (by rw [Int32.toInt_toInt64, zp_toInt (by omega)])) (fun v h2 hq => ?_)
  obtain ⟨rfl, rfl⟩ := hq
  refine aw_reti dX11_isCarter_13 rfl (by split <;> rfl) ⟨Nat.le_of_ble_eq_true rfl, Nat.le_of_ble_eq_true rfl⟩ ?_
  exact ⟨rfl, rfl⟩
theorem w_cIsCarter (G : aw_G) {n c : Nat} {I : Nat → Nat → Int32} {L : Nat → Nat → Int64} (x : Int32) {k : Nat} (hk : I 6 5 = nI k) (hn : k ≤ 8) : aw_Met G mX10_isCarter [.ref 3, .int x] (zH n I L c) (fun v h2 => v = some (.int (if zok x k then 1 else 0)) ∧ h2 = zH n I L c) := by
  refine aw_Met.of okX10_isCarter (Nat.le_of_ble_eq_true rfl) ?_
  show aw_W G mX10_isCarter 0 [.ref 3, .int x] [] (zH n I L c) (0, 0) _
  refine aw_iload_n dX10_isCarter_0 rfl ?_
  refine aw_aload_n dX10_isCarter_1 rfl ?_
  refine aw_getR dX10_isCarter_2 f10_25 rfl ⟨Nat.le_of_ble_eq_true rfl, Nat.le_of_ble_eq_true rfl⟩ rfl rfl ?_
  refine aw_getI dX10_isCarter_5 f10_128 rfl ⟨Nat.le_of_ble_eq_true rfl, Nat.le_of_ble_eq_true rfl⟩ rfl ?_
  refine aw_top hk ?_
  refine aw_S0c (As := [_, _]) dX10_isCarter_8 k10_100 rfl rfl (Nat.le_of_ble_eq_true rfl) ⟨⟨Nat.le_of_ble_eq_true rfl, Nat.le_of_ble_eq_true rfl⟩, ⟨Nat.le_of_ble_eq_true rfl, Nat.le_of_ble_eq_true rfl⟩⟩ ⟨rfl, rfl⟩ (w_within G x (b := k) (by omega)) (fun v h2 hq => ?_)
  obtain ⟨rfl, rfl⟩ := hq
  refine aw_reti dX10_isCarter_11 rfl (by split <;> rfl) ⟨Nat.le_of_ble_eq_true rfl, Nat.le_of_ble_eq_true rfl⟩ ?_
  exact ⟨rfl, rfl⟩
