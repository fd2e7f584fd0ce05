theorem zi_any {f : Nat → Bool} {i : Nat} : (List.range (i + 1)).any f = ((List.range i).any f || f i) := by
  rw [List.range_succ, List.any_append]; simp
theorem zi_bit1 {w a : Nat} (hw : w < 2 ^ 31) (ha : a < 32) : (nI w >>> (nI a &&& 31)) &&& 1 = nI (if w.testBit a = true then 1 else 0) := by
  rw [zi_bit hw ha]
  cases hb : w.testBit a with
  | false => rw [(zi_tb w a).mpr hb]; rfl
  | true =>
    rw [Nat.testBit_eq_decide_div_mod_eq] at hb
    rw [of_decide_eq_true hb]; rfl
theorem w_isIn (G : aw_G) {h : aw_H} {w a : Nat} (hw : w < 2 ^ 31) (ha : a < 32) : aw_Met G mX11_isIn [.int (nI w), .int (nI a)] h (fun v h2 => v = some (.int (if w.testBit a = true then 1 else 0)) ∧ h2 = h) := by
  refine aw_Met.of okX11_isIn (Nat.le_of_ble_eq_true rfl) ?_
  show aw_W G mX11_isIn 0 [.int (nI w), .int (nI a)] [] h (0, 0) _
  refine aw_iload_n dX11_isIn_0 rfl ?_
  refine aw_iload_n dX11_isIn_1 rfl ?_
  refine aw_ishr dX11_isIn_2 ?_
  refine aw_iconst (v := 1) dX11_isIn_3 rfl ?_
  refine aw_iand dX11_isIn_4 ?_
  refine aw_top (zi_bit1 hw ha) ?_
  refine aw_iconst (v := 1) dX11_isIn_5 rfl ?_
  refine aw_ic_ne (tgt := 13) dX11_isIn_6 (by decide) (fun c6 => ?_) (fun c6 => ?_)
  · refine aw_iconst (v := 0) dX11_isIn_13 rfl ?_
    refine aw_reti dX11_isIn_14 rfl rfl ⟨Nat.le_of_ble_eq_true rfl, Nat.le_of_ble_eq_true rfl⟩ ?_
    refine ⟨?_, rfl⟩
    cases hb : w.testBit a with
    | false => first | rfl | (rw [hb] at c6; exact absurd c6 (by decide))
    | true => first | rfl | (rw [hb] at c6; exact absurd rfl c6)
  · refine aw_iconst (v := 1) dX11_isIn_9 rfl ?_
    refine aw_goto (tgt := 14) dX11_isIn_10 (by decide) ?_
    refine aw_reti dX11_isIn_14 rfl rfl ⟨Nat.le_of_ble_eq_true rfl, Nat.le_of_ble_eq_true rfl⟩ ?_
    refine ⟨?_, rfl⟩
    cases hb : w.testBit a with
    | false => first | rfl | (rw [hb] at c6; exact absurd c6 (by decide))
    | true => first | rfl | (rw [hb] at c6; exact absurd rfl c6)
theorem w_isAnswer (G : aw_G) {n c : Nat} {I : Nat → Nat → Int32} {L : Nat → Nat → Int64} {t u : Nat → Nat → Nat} (hC : zCar t I) (hU : zAm u I) {h p : Nat} (hh : h < 100000) (hp : p < 8) (hw : t 6 1 < 2 ^ 31) (hn8 : u 2 0 ≤ 8) (hu : ∀ a, a < 8 → u 0 a < 100000 ∧ u 1 a < 100000) : aw_Met G mX11_isAnswer [.ref 81, .int (nI h), .int (nI p)] (zH n I L c) (fun v h2 => v = some (.int (if p_tells t u h p = true then 1 else 0)) ∧ h2 = zH n I L c) := by
  refine aw_Met.of okX11_isAnswer (Nat.le_of_ble_eq_true rfl) ?_
  show aw_W G mX11_isAnswer 0 [.ref 81, .int (nI h), .int (nI p), aw_x, aw_x] [] (zH n I L c) (0, 0) _
  refine aw_iconst (v := 0) dX11_isAnswer_0 rfl ?_
  refine aw_istore_n (ls2 := [_, _, _, _, _]) dX11_isAnswer_1 (by decide) rfl rfl ?_
  refine aw_iconst (v := 0) dX11_isAnswer_2 rfl ?_
  refine aw_istore (ls2 := [_, _, _, _, _]) dX11_isAnswer_3 (by decide) rfl rfl ?_
  refine aw_up (X := fun i => aw_W G mX11_isAnswer 5 [.ref 81, .int (nI h), .int (nI p), .int (if (List.range i).any (p_hit t u h p) = true then 1 else 0), .int (nI i)] [] (zH n I L c) (0, 0) _) (Nat.zero_le (u 2 0)) ?_ (fun i _ hi ih => ?_)
  · refine aw_iload dX11_isAnswer_5 rfl ?_
    refine aw_aload_n dX11_isAnswer_7 rfl ?_
    refine aw_getI dX11_isAnswer_8 f11_166 rfl ⟨Nat.le_of_ble_eq_true rfl, Nat.le_of_ble_eq_true rfl⟩ rfl ?_
    refine aw_top hU.1 ?_
    refine aw_ic_ge (tgt := 70) dX11_isAnswer_11 (by decide) (fun _ => ?_) (fun z => absurd (nI_le (Nat.le_refl _) (by omega)) z)
    refine aw_iload_n dX11_isAnswer_70 rfl ?_
    refine aw_reti dX11_isAnswer_71 rfl (by split <;> rfl) ⟨Nat.le_of_ble_eq_true rfl, Nat.le_of_ble_eq_true rfl⟩ ?_
    exact ⟨rfl, rfl⟩
  · refine aw_iload dX11_isAnswer_5 rfl ?_
    refine aw_aload_n dX11_isAnswer_7 rfl ?_
    refine aw_getI dX11_isAnswer_8 f11_166 rfl ⟨Nat.le_of_ble_eq_true rfl, Nat.le_of_ble_eq_true rfl⟩ rfl ?_
    refine aw_top hU.1 ?_
    refine aw_ic_ge (tgt := 70) dX11_isAnswer_11 (by decide) (fun z => absurd z (nI_ge hi (by omega))) (fun _ => ?_)
    refine aw_iload_n dX11_isAnswer_14 rfl ?_
    refine aw_if_ne (tgt := 58) dX11_isAnswer_15 (by decide) (fun c15 => ?_) (fun c15 => ?_)
    · have hB : (List.range i).any (p_hit t u h p) = true := by
        cases hb : (List.range i).any (p_hit t u h p) with
        | true => rfl
        | false => rw [hb] at c15; exact absurd rfl c15
      refine aw_iconst (v := 1) dX11_isAnswer_58 rfl ?_
      refine aw_goto (tgt := 63) dX11_isAnswer_59 (by decide) ?_
      refine aw_istore_n (ls2 := [_, _, _, _, _]) dX11_isAnswer_63 (by decide) rfl rfl ?_
      refine aw_iinc_n (ls2 := [_, _, _, _, _]) dX11_isAnswer_64 rfl (by decide) rfl rfl ?_
      refine aw_goto (tgt := 5) dX11_isAnswer_67 (by decide) ?_
      have e : (List.range (i + 1)).any (p_hit t u h p) = true := by
        rw [zi_any, hB]; rfl
      rw [e] at ih
      exact ih
    · refine aw_aload_n dX11_isAnswer_18 rfl ?_
      refine aw_getR dX11_isAnswer_19 f11_37 rfl ⟨Nat.le_of_ble_eq_true rfl, Nat.le_of_ble_eq_true rfl⟩ rfl rfl ?_
      refine aw_iconst (v := 2) dX11_isAnswer_22 rfl ?_
      refine aw_iload dX11_isAnswer_23 rfl ?_
      refine aw_imul dX11_isAnswer_25 ?_
      refine aw_top (zi_2m _) ?_
      refine aw_iald_n dX11_isAnswer_26 rfl (Nat.le_of_ble_eq_true rfl) (by decide) (by omega) ?_
      refine aw_top (hU.2 i (by omega)).1 ?_
      refine aw_iload_n dX11_isAnswer_27 rfl ?_
      refine aw_ic_ne (tgt := 62) dX11_isAnswer_28 (by decide) (fun c28 => ?_) (fun c28 => ?_)
      · have hB : (List.range i).any (p_hit t u h p) = false := by
          cases hb : (List.range i).any (p_hit t u h p) with
          | false => rfl
          | true => rw [hb] at c15; exact absurd c15 (by decide)
        refine aw_iconst (v := 0) dX11_isAnswer_62 rfl ?_
        refine aw_istore_n (ls2 := [_, _, _, _, _]) dX11_isAnswer_63 (by decide) rfl rfl ?_
        refine aw_iinc_n (ls2 := [_, _, _, _, _]) dX11_isAnswer_64 rfl (by decide) rfl rfl ?_
        refine aw_goto (tgt := 5) dX11_isAnswer_67 (by decide) ?_
        have e : (List.range (i + 1)).any (p_hit t u h p) = false := by
          rw [zi_any, hB]; simp [p_hit, show ¬ u 0 i = h from fun z => c28 (by rw [z])]
        rw [e] at ih
        exact ih
      · refine aw_aload_n dX11_isAnswer_31 rfl ?_
        refine aw_getR dX11_isAnswer_32 f11_37 rfl ⟨Nat.le_of_ble_eq_true rfl, Nat.le_of_ble_eq_true rfl⟩ rfl rfl ?_
        refine aw_iconst (v := 2) dX11_isAnswer_35 rfl ?_
        refine aw_iload dX11_isAnswer_36 rfl ?_
        refine aw_imul dX11_isAnswer_38 ?_
        refine aw_top (zi_2m _) ?_
        refine aw_iconst (v := 1) dX11_isAnswer_39 rfl ?_
        refine aw_iadd dX11_isAnswer_40 ?_
        refine aw_top (nI_1 _) ?_
        refine aw_iald_n dX11_isAnswer_41 rfl (Nat.le_of_ble_eq_true rfl) (by decide) (by omega) ?_
        refine aw_top (hU.2 i (by omega)).2 ?_
        refine aw_iload_n dX11_isAnswer_42 rfl ?_
        refine aw_ic_ne (tgt := 62) dX11_isAnswer_43 (by decide) (fun c43 => ?_) (fun c43 => ?_)
        · have hB : (List.range i).any (p_hit t u h p) = false := by
            cases hb : (List.range i).any (p_hit t u h p) with
            | false => rfl
            | true => rw [hb] at c15; exact absurd c15 (by decide)
          refine aw_iconst (v := 0) dX11_isAnswer_62 rfl ?_
          refine aw_istore_n (ls2 := [_, _, _, _, _]) dX11_isAnswer_63 (by decide) rfl rfl ?_
          refine aw_iinc_n (ls2 := [_, _, _, _, _]) dX11_isAnswer_64 rfl (by decide) rfl rfl ?_
          refine aw_goto (tgt := 5) dX11_isAnswer_67 (by decide) ?_
          have e : (List.range (i + 1)).any (p_hit t u h p) = false := by
            rw [zi_any, hB]; simp [p_hit, show ¬ u 1 i = p from fun z => c43 (by rw [z])]
          rw [e] at ih
          exact ih
        · refine aw_aload_n dX11_isAnswer_46 rfl ?_
          refine aw_getI dX11_isAnswer_47 f11_174 rfl ⟨Nat.le_of_ble_eq_true rfl, Nat.le_of_ble_eq_true rfl⟩ rfl ?_
          refine aw_top hC.2.2.2 ?_
          refine aw_iload dX11_isAnswer_50 rfl ?_
          refine aw_S0c (As := [_, _]) dX11_isAnswer_52 k11_177 rfl rfl (Nat.le_of_ble_eq_true rfl) ⟨⟨Nat.le_of_ble_eq_true rfl, Nat.le_of_ble_eq_true rfl⟩, ⟨Nat.le_of_ble_eq_true rfl, Nat.le_of_ble_eq_true rfl⟩⟩ ⟨rfl, rfl⟩ (w_isIn G hw (show i < 32 by omega)) (fun v h2 hq => ?_)
          obtain ⟨rfl, rfl⟩ := hq
          refine aw_if_ne (tgt := 62) dX11_isAnswer_55 (by decide) (fun c55 => ?_) (fun c55 => ?_)
          · have hB : (List.range i).any (p_hit t u h p) = false := by
              cases hb : (List.range i).any (p_hit t u h p) with
              | false => rfl
              | true => rw [hb] at c15; exact absurd c15 (by decide)
            have hbit : (t 6 1).testBit i = true := by
              cases hb : (t 6 1).testBit i with
              | true => rfl
              | false => rw [hb] at c55; exact absurd rfl c55
            refine aw_iconst (v := 0) dX11_isAnswer_62 rfl ?_
            refine aw_istore_n (ls2 := [_, _, _, _, _]) dX11_isAnswer_63 (by decide) rfl rfl ?_
            refine aw_iinc_n (ls2 := [_, _, _, _, _]) dX11_isAnswer_64 rfl (by decide) rfl rfl ?_
            refine aw_goto (tgt := 5) dX11_isAnswer_67 (by decide) ?_
            have e : (List.range (i + 1)).any (p_hit t u h p) = false := by
              rw [zi_any, hB]; simp [p_hit, hbit]
            rw [e] at ih
            exact ih
          · have hB : (List.range i).any (p_hit t u h p) = false := by
              cases hb : (List.range i).any (p_hit t u h p) with
              | false => rfl
              | true => rw [hb] at c15; exact absurd c15 (by decide)
            have e0 : u 0 i = h := (zi_eq (hu i (by omega)).1 hh).mp c28
            have e1 : u 1 i = p := (zi_eq (hu i (by omega)).2 (by omega)).mp c43
            have hbit : (t 6 1).testBit i = false := by
              cases hb : (t 6 1).testBit i with
              | false => rfl
              | true => rw [hb] at c55; exact absurd c55 (by decide)
            refine aw_iconst (v := 1) dX11_isAnswer_58 rfl ?_
            refine aw_goto (tgt := 63) dX11_isAnswer_59 (by decide) ?_
            refine aw_istore_n (ls2 := [_, _, _, _, _]) dX11_isAnswer_63 (by decide) rfl rfl ?_
            refine aw_iinc_n (ls2 := [_, _, _, _, _]) dX11_isAnswer_64 rfl (by decide) rfl rfl ?_
            refine aw_goto (tgt := 5) dX11_isAnswer_67 (by decide) ?_
            have e : (List.range (i + 1)).any (p_hit t u h p) = true := by
              rw [zi_any, hB]; simp [p_hit, e0, e1, hbit]
            rw [e] at ih
            exact ih
theorem w_mTold (G : aw_G) {n c : Nat} {I I0 : Nat → Nat → Int32} {L : Nat → Nat → Int64} {m : Nat → Nat → Nat} (hM : zMod m I0 I) {t u : Nat → Nat → Nat} (hC : zCar t I0) (hU : zAm u I0) {k h p : Nat} (hk : k < t 6 0) (h8 : t 6 0 ≤ 8) (hh : h < 100000) (hp : p < 8) (hso : t 2 k < 100000) (h7 : m 7 p < 100000) (hw : t 6 1 < 2 ^ 31) (hn8 : u 2 0 ≤ 8) (hu : ∀ a, a < 8 → u 0 a < 100000 ∧ u 1 a < 100000) : aw_Met G mX11_isTold [.ref 81, .int (nI k), .int (nI h), .int (nI p)] (zH n I L c) (fun v h2 => v = some (.int (if m_told m t u k h p = true then 1 else 0)) ∧ h2 = zH n I L c) := by
  have e7 : I 101 p = nI (m 7 p) := hM.at 7 p (by decide) (by omega)
  have q2 : (2 ≤ nI (t 2 k)) ↔ 2 ≤ t 2 k := zi_le (a := 2) (by decide) hso
  have q1 : (nI (t 2 k) = 1) ↔ t 2 k = 1 := zi_eq (b := 1) hso (by decide)
  have q3 : (nI (m 7 p) ≤ 1) ↔ m 7 p ≤ 1 := zi_le (b := 1) h7 (by decide)
  refine aw_Met.of okX11_isTold (Nat.le_of_ble_eq_true rfl) ?_
  show aw_W G mX11_isTold 0 [.ref 81, .int (nI k), .int (nI h), .int (nI p), aw_x] [] (zH n I L c) (0, 0) _
  refine aw_aload_n dX11_isTold_0 rfl ?_
  refine aw_getR dX11_isTold_1 f11_31 rfl ⟨Nat.le_of_ble_eq_true rfl, Nat.le_of_ble_eq_true rfl⟩ rfl rfl ?_
  refine aw_iconst (v := 5) dX11_isTold_4 rfl ?_
  refine aw_iload_n dX11_isTold_5 rfl ?_
  refine aw_imul dX11_isTold_6 ?_
  refine aw_iconst (v := 2) dX11_isTold_7 rfl ?_
  refine aw_iadd dX11_isTold_8 ?_
  refine aw_top (zi_5mul k 2) ?_
  refine aw_iald_n dX11_isTold_9 rfl (Nat.le_of_ble_eq_true rfl) (by decide) (by omega) ?_
  refine aw_top ((hC.mv hM).1 2 k (by decide) hk) ?_
  refine aw_istore (ls2 := [_, _, _, _, _]) dX11_isTold_10 (by decide) rfl rfl ?_
  refine aw_iload dX11_isTold_12 rfl ?_
  refine aw_iconst (v := 2) dX11_isTold_14 rfl ?_
  refine aw_ic_ge (tgt := 47) dX11_isTold_15 (by decide) (fun c15 => ?_) (fun c15 => ?_)
  · refine aw_iconst (v := 0) dX11_isTold_47 rfl ?_
    refine aw_reti dX11_isTold_48 rfl rfl ⟨Nat.le_of_ble_eq_true rfl, Nat.le_of_ble_eq_true rfl⟩ ?_
    refine ⟨?_, rfl⟩
    have hmt : m_told m t u k h p = (decide (t 2 k < 2) && (p_tells t u h p || (t 2 k == 1 && decide (1 < m 7 p)))) := rfl
    rw [hmt]
    generalize p_tells t u h p = bb at *
    cases bb <;> simp_all <;> omega
  · refine aw_aload_n dX11_isTold_18 rfl ?_
    refine aw_iload_n dX11_isTold_19 rfl ?_
    refine aw_iload_n dX11_isTold_20 rfl ?_
    refine aw_V0c (As := [_, _]) dX11_isTold_21 k11_181 rfl rfl rfl ⟨Nat.le_of_ble_eq_true rfl, Nat.le_of_ble_eq_true rfl⟩ (Nat.le_of_ble_eq_true rfl) ⟨⟨Nat.le_of_ble_eq_true rfl, Nat.le_of_ble_eq_true rfl⟩, ⟨Nat.le_of_ble_eq_true rfl, Nat.le_of_ble_eq_true rfl⟩⟩ ⟨rfl, rfl⟩ (w_isAnswer G (hC.mv hM) (hU.mv hM) hh hp hw hn8 hu) (fun v h2 hq => ?_)
    obtain ⟨rfl, rfl⟩ := hq
    refine aw_if_ne (tgt := 43) dX11_isTold_24 (by decide) (fun c24 => ?_) (fun c24 => ?_)
    · refine aw_iconst (v := 1) dX11_isTold_43 rfl ?_
      refine aw_goto (tgt := 48) dX11_isTold_44 (by decide) ?_
      refine aw_reti dX11_isTold_48 rfl rfl ⟨Nat.le_of_ble_eq_true rfl, Nat.le_of_ble_eq_true rfl⟩ ?_
      refine ⟨?_, rfl⟩
      have hmt : m_told m t u k h p = (decide (t 2 k < 2) && (p_tells t u h p || (t 2 k == 1 && decide (1 < m 7 p)))) := rfl
      rw [hmt]
      generalize p_tells t u h p = bb at *
      cases bb <;> simp_all <;> omega
    · refine aw_iload dX11_isTold_27 rfl ?_
      refine aw_iconst (v := 1) dX11_isTold_29 rfl ?_
      refine aw_ic_ne (tgt := 47) dX11_isTold_30 (by decide) (fun c30 => ?_) (fun c30 => ?_)
      · refine aw_iconst (v := 0) dX11_isTold_47 rfl ?_
        refine aw_reti dX11_isTold_48 rfl rfl ⟨Nat.le_of_ble_eq_true rfl, Nat.le_of_ble_eq_true rfl⟩ ?_
        refine ⟨?_, rfl⟩
        have hmt : m_told m t u k h p = (decide (t 2 k < 2) && (p_tells t u h p || (t 2 k == 1 && decide (1 < m 7 p)))) := rfl
        rw [hmt]
        generalize p_tells t u h p = bb at *
        cases bb <;> simp_all <;> omega
      · refine aw_aload_n dX11_isTold_33 rfl ?_
        refine aw_getR dX11_isTold_34 f11_67 rfl ⟨Nat.le_of_ble_eq_true rfl, Nat.le_of_ble_eq_true rfl⟩ rfl rfl ?_
        refine aw_iload_n dX11_isTold_37 rfl ?_
        refine aw_iald_n dX11_isTold_38 rfl (Nat.le_of_ble_eq_true rfl) (by decide) hp ?_
        refine aw_top e7 ?_
        refine aw_iconst (v := 1) dX11_isTold_39 rfl ?_
        refine aw_ic_le (tgt := 47) dX11_isTold_40 (by decide) (fun c40 => ?_) (fun c40 => ?_)
        · refine aw_iconst (v := 0) dX11_isTold_47 rfl ?_
          refine aw_reti dX11_isTold_48 rfl rfl ⟨Nat.le_of_ble_eq_true rfl, Nat.le_of_ble_eq_true rfl⟩ ?_
          refine ⟨?_, rfl⟩
          have hmt : m_told m t u k h p = (decide (t 2 k < 2) && (p_tells t u h p || (t 2 k == 1 && decide (1 < m 7 p)))) := rfl
          rw [hmt]
          generalize p_tells t u h p = bb at *
          cases bb <;> simp_all <;> omega
        · refine aw_iconst (v := 1) dX11_isTold_43 rfl ?_
          refine aw_goto (tgt := 48) dX11_isTold_44 (by decide) ?_
          refine aw_reti dX11_isTold_48 rfl rfl ⟨Nat.le_of_ble_eq_true rfl, Nat.le_of_ble_eq_true rfl⟩ ?_
          refine ⟨?_, rfl⟩
          have hmt : m_told m t u k h p = (decide (t 2 k < 2) && (p_tells t u h p || (t 2 k == 1 && decide (1 < m 7 p)))) := rfl
          rw [hmt]
          generalize p_tells t u h p = bb at *
          cases bb <;> simp_all <;> omega
theorem w_stays (G : aw_G) {n c : Nat} {I I0 : Nat → Nat → Int32} {L : Nat → Nat → Int64} {m : Nat → Nat → Nat} (hM : zMod m I0 I) {k h a : Nat} (hk : k < 8) : aw_Met G mX11_stays [.ref 81, .int (nI k), .int (nI h), .int (nI a)] (zH n I L c) (zPm n L c I0 (m_stays m k h a)) := by
  refine aw_Met.of okX11_stays (Nat.le_of_ble_eq_true rfl) ?_
  show aw_W G mX11_stays 0 [.ref 81, .int (nI k), .int (nI h), .int (nI a)] [] (zH n I L c) (0, 0) _
  refine aw_aload_n dX11_stays_0 rfl ?_
  refine aw_getR dX11_stays_1 f11_46 rfl ⟨Nat.le_of_ble_eq_true rfl, Nat.le_of_ble_eq_true rfl⟩ rfl rfl ?_
  refine aw_iload_n dX11_stays_4 rfl ?_
  refine aw_iload_n dX11_stays_5 rfl ?_
  refine aw_iast_n dX11_stays_6 rfl ⟨Nat.le_of_ble_eq_true rfl, Nat.le_of_ble_eq_true rfl⟩ (by decide) hk ?_
  refine aw_aload_n dX11_stays_7 rfl ?_
  refine aw_getR dX11_stays_8 f11_61 rfl ⟨Nat.le_of_ble_eq_true rfl, Nat.le_of_ble_eq_true rfl⟩ rfl rfl ?_
  refine aw_iload_n dX11_stays_11 rfl ?_
  refine aw_iload_n dX11_stays_12 rfl ?_
  refine aw_iast_n dX11_stays_13 rfl ⟨Nat.le_of_ble_eq_true rfl, Nat.le_of_ble_eq_true rfl⟩ (by decide) hk ?_
  refine aw_aload_n dX11_stays_14 rfl ?_
  refine aw_getR dX11_stays_15 f11_55 rfl ⟨Nat.le_of_ble_eq_true rfl, Nat.le_of_ble_eq_true rfl⟩ rfl rfl ?_
  refine aw_iload_n dX11_stays_18 rfl ?_
  refine aw_iconst (v := -1) dX11_stays_19 rfl ?_
  refine aw_top (show (-1 : Int32) = nI 0 - 1 from rfl) ?_
  refine aw_iast_n dX11_stays_20 rfl ⟨Nat.le_of_ble_eq_true rfl, Nat.le_of_ble_eq_true rfl⟩ (by decide) hk ?_
  refine aw_ret0 dX11_stays_21 rfl ⟨Nat.le_of_ble_eq_true rfl, Nat.le_of_ble_eq_true rfl⟩ ?_
  exact ⟨rfl, _, rfl, ((hM.u (i := 0) (by decide)).us (i := 5) (by decide)).u (i := 3) (v := 0) (by decide)⟩
theorem w_next (G : aw_G) {n c : Nat} {I : Nat → Nat → Int32} {L : Nat → Nat → Int64} {y : Nat → Nat → Nat} (hY : zYm y I) {p g : Nat} (hp : p < 8) (hg : g < 8) (hyb : ∀ j, j < 64 → y 0 j < 20000 ∧ y 1 j < 20000) : aw_Met G mX11_next [.ref 81, .int (nI p), .int (nI g)] (zH n I L c) (fun v h2 => v = some (.int (nI (m_next y p g) - 1)) ∧ h2 = zH n I L c) := by
  refine aw_Met.of okX11_next (Nat.le_of_ble_eq_true rfl) ?_
  show aw_W G mX11_next 0 [.ref 81, .int (nI p), .int (nI g), aw_x] [] (zH n I L c) (0, 0) _
  refine aw_iconst (v := 0) dX11_next_0 rfl ?_
  refine aw_istore_n (ls2 := [_, _, _, _]) dX11_next_1 (by decide) rfl rfl ?_
  refine aw_up (X := fun i => m_nx y p g i = 0 → aw_W G mX11_next 2 [.ref 81, .int (nI p), .int (nI g), .int (nI i)] [] (zH n I L c) (0, 0) _) (Nat.zero_le 8) (fun h0 => ?_) (fun i _ hi ih h0 => ?_) rfl
  · refine aw_iload_n dX11_next_2 rfl ?_
    refine aw_bipush (v := 8) dX11_next_3 (by decide) ?_
    refine aw_ic_ge (tgt := 70) dX11_next_5 (by decide) (fun _ => ?_) (fun z => absurd (by decide) z)
    refine aw_iconst (v := -1) dX11_next_70 rfl ?_
    refine aw_reti dX11_next_71 rfl rfl ⟨Nat.le_of_ble_eq_true rfl, Nat.le_of_ble_eq_true rfl⟩ ?_
    exact ⟨by rw [m_next, h0]; rfl, rfl⟩
  · have b1 := hyb (8 * p + i) (by omega)
    have b2 := hyb (8 * i + g) (by omega)
    have b3 := hyb (8 * p + g) (by omega)
    refine aw_iload_n dX11_next_2 rfl ?_
    refine aw_bipush (v := 8) dX11_next_3 (by decide) ?_
    refine aw_ic_ge (tgt := 70) dX11_next_5 (by decide) (fun z => absurd z (nI_ge (b := 8) hi (by decide))) (fun _ => ?_)
    refine aw_aload_n dX11_next_8 rfl ?_
    refine aw_getR dX11_next_9 f11_40 rfl ⟨Nat.le_of_ble_eq_true rfl, Nat.le_of_ble_eq_true rfl⟩ rfl rfl ?_
    refine aw_bipush (v := 8) dX11_next_12 (by decide) ?_
    refine aw_iload_n dX11_next_14 rfl ?_
    refine aw_imul dX11_next_15 ?_
    refine aw_iload_n dX11_next_16 rfl ?_
    refine aw_iadd dX11_next_17 ?_
    refine aw_top (zi_8mul _ _) ?_
    refine aw_iald_n dX11_next_18 rfl (Nat.le_of_ble_eq_true rfl) (by decide) (by omega) ?_
    refine aw_top (hY (8 * p + i) (by omega)).1 ?_
    refine aw_sipush (v := 9999) dX11_next_19 (by decide) ?_
    refine aw_ic_ge (tgt := 64) dX11_next_22 (by decide) (fun c22 => ?_) (fun c22 => ?_)
    · have e1 : ¬ y 0 (8 * p + i) < 9999 := by
        have := (zi_le (a := 9999) (by decide) (by omega)).mp c22
        omega
      refine aw_iinc_n (ls2 := [_, _, _, _]) dX11_next_64 rfl (by decide) rfl rfl ?_
      refine aw_goto (tgt := 2) dX11_next_67 (by decide) ?_
      refine ih ?_
      rw [m_nx, if_neg (fun z => z h0), if_neg (by simp [m_nc, e1])]
    · refine aw_aload_n dX11_next_25 rfl ?_
      refine aw_getR dX11_next_26 f11_40 rfl ⟨Nat.le_of_ble_eq_true rfl, Nat.le_of_ble_eq_true rfl⟩ rfl rfl ?_
      refine aw_bipush (v := 8) dX11_next_29 (by decide) ?_
      refine aw_iload_n dX11_next_31 rfl ?_
      refine aw_imul dX11_next_32 ?_
      refine aw_iload_n dX11_next_33 rfl ?_
      refine aw_iadd dX11_next_34 ?_
      refine aw_top (zi_8mul _ _) ?_
      refine aw_iald_n dX11_next_35 rfl (Nat.le_of_ble_eq_true rfl) (by decide) (by omega) ?_
      refine aw_top (hY (8 * p + i) (by omega)).1 ?_
      refine aw_aload_n dX11_next_36 rfl ?_
      refine aw_getR dX11_next_37 f11_43 rfl ⟨Nat.le_of_ble_eq_true rfl, Nat.le_of_ble_eq_true rfl⟩ rfl rfl ?_
      refine aw_bipush (v := 8) dX11_next_40 (by decide) ?_
      refine aw_iload_n dX11_next_42 rfl ?_
      refine aw_imul dX11_next_43 ?_
      refine aw_iload_n dX11_next_44 rfl ?_
      refine aw_iadd dX11_next_45 ?_
      refine aw_top (zi_8mul _ _) ?_
      refine aw_iald_n dX11_next_46 rfl (Nat.le_of_ble_eq_true rfl) (by decide) (by omega) ?_
      refine aw_top (hY (8 * i + g) (by omega)).2 ?_
      refine aw_iadd dX11_next_47 ?_
      refine aw_top (nI_add _ _) ?_
      refine aw_aload_n dX11_next_48 rfl ?_
      refine aw_getR dX11_next_49 f11_43 rfl ⟨Nat.le_of_ble_eq_true rfl, Nat.le_of_ble_eq_true rfl⟩ rfl rfl ?_
      refine aw_bipush (v := 8) dX11_next_52 (by decide) ?_
      refine aw_iload_n dX11_next_54 rfl ?_
      refine aw_imul dX11_next_55 ?_
      refine aw_iload_n dX11_next_56 rfl ?_
      refine aw_iadd dX11_next_57 ?_
      refine aw_top (zi_8mul _ _) ?_
      refine aw_iald_n dX11_next_58 rfl (Nat.le_of_ble_eq_true rfl) (by decide) (by omega) ?_
      refine aw_top (hY (8 * p + g) (by omega)).2 ?_
      refine aw_ic_ne (tgt := 64) dX11_next_59 (by decide) (fun c59 => ?_) (fun c59 => ?_)
      · have e1 : ¬ y 0 (8 * p + i) + y 1 (8 * i + g) = y 1 (8 * p + g) := fun z => c59 (by rw [z])
        refine aw_iinc_n (ls2 := [_, _, _, _]) dX11_next_64 rfl (by decide) rfl rfl ?_
        refine aw_goto (tgt := 2) dX11_next_67 (by decide) ?_
        refine ih ?_
        rw [m_nx, if_neg (fun z => z h0), if_neg (by simp [m_nc, e1])]
      · refine aw_iload_n dX11_next_62 rfl ?_
        refine aw_reti dX11_next_63 rfl rfl ⟨Nat.le_of_ble_eq_true rfl, Nat.le_of_ble_eq_true rfl⟩ ?_
        refine ⟨?_, rfl⟩
        have e1 : y 0 (8 * p + i) < 9999 := by
          have : ¬ 9999 ≤ y 0 (8 * p + i) := fun z => c22 ((zi_le (a := 9999) (by decide) (by omega)).mpr z)
          omega
        have e2 : y 0 (8 * p + i) + y 1 (8 * i + g) = y 1 (8 * p + g) := (zi_eq (by omega) (by omega)).mp c59
        have e3 : m_nx y p g (i + 1) = i + 1 := by rw [m_nx, if_neg (fun z => z h0), if_pos (by simp [m_nc, e1, e2])]
        have e4 := m_nx_stop (y := y) (p := p) (g := g) (i := i + 1) (by rw [e3]; omega) (8 - (i + 1))
        rw [show i + 1 + (8 - (i + 1)) = 8 by omega, e3] at e4
        rw [m_next, e4, nI_pred]
theorem w_goesOn (G : aw_G) {n c : Nat} {I I0 : Nat → Nat → Int32} {L : Nat → Nat → Int64} {m : Nat → Nat → Nat} (hM : zMod m I0 I) {t u y : Nat → Nat → Nat} (hC : zCar t I0) (hU : zAm u I0) (hY : zYm y I0) {k h : Nat} (hk : k < t 6 0) (h8 : t 6 0 ≤ 8) (hh : h < 1000) (hp0 : m 1 k ≠ 0) (hp8 : m 1 k ≤ 8) (hg : t 1 k < 8) (hso : t 2 k < 100000) (hld : t 4 k < 1000) (hst : m 2 k < 10000) (h7 : m 7 (m 1 k - 1) < 100000) (hyb : ∀ j, j < 64 → y 0 j < 20000 ∧ y 1 j < 20000) (hnx : m 1 k - 1 ≠ t 1 k → y 1 (8 * (m 1 k - 1) + t 1 k) < 9999 → m_next y (m 1 k - 1) (t 1 k) ≠ 0) (hw : t 6 1 < 2 ^ 31) (hn8 : u 2 0 ≤ 8) (hu : ∀ a, a < 8 → u 0 a < 100000 ∧ u 1 a < 100000) : aw_Met G mX11_goesOn [.ref 81, .int (nI k), .int (nI h)] (zH n I L c) (zPm n L c I0 (m_goes m t u y k h)) := by
  have hk8 : k < 8 := by omega
  have e1 : I 95 k = nI (m 1 k) - 1 := hM.at 1 k (by decide) (by omega)
  rw [zi_pred hp0] at e1
  have e2 : I 96 k = nI (m 2 k) := hM.at 2 k (by decide) (by omega)
  have hC1 := hC.mv hM
  have hY1 := hY.mv hM
  obtain ⟨p, hpe⟩ : ∃ p, p = m 1 k - 1 := ⟨_, rfl⟩
  rw [← hpe] at e1 h7 hnx
  have hp : p < 8 := by omega
  have g1 : I 89 (5 * k + 1) = nI (t 1 k) := hC1.1 1 k (by decide) hk
  have g4 : I 89 (5 * k + 4) = nI (t 4 k) := hC1.1 4 k (by decide) hk
  have b3 := hyb (8 * p + t 1 k) (by omega)
  refine aw_Met.of okX11_goesOn (Nat.le_of_ble_eq_true rfl) ?_
  show aw_W G mX11_goesOn 0 [.ref 81, .int (nI k), .int (nI h), aw_x, aw_x, aw_x, aw_x] [] (zH n I L c) (0, 0) _
  refine aw_aload_n dX11_goesOn_0 rfl ?_
  refine aw_getR dX11_goesOn_1 f11_49 rfl ⟨Nat.le_of_ble_eq_true rfl, Nat.le_of_ble_eq_true rfl⟩ rfl rfl ?_
  refine aw_iload_n dX11_goesOn_4 rfl ?_
  refine aw_iald_n dX11_goesOn_5 rfl (Nat.le_of_ble_eq_true rfl) (by decide) hk8 ?_
  refine aw_top e1 ?_
  refine aw_istore_n (ls2 := [_, _, _, _, _, _, _]) dX11_goesOn_6 (by decide) rfl rfl ?_
  refine aw_aload_n dX11_goesOn_7 rfl ?_
  refine aw_getR dX11_goesOn_8 f11_31 rfl ⟨Nat.le_of_ble_eq_true rfl, Nat.le_of_ble_eq_true rfl⟩ rfl rfl ?_
  refine aw_iconst (v := 5) dX11_goesOn_11 rfl ?_
  refine aw_iload_n dX11_goesOn_12 rfl ?_
  refine aw_imul dX11_goesOn_13 ?_
  refine aw_iconst (v := 1) dX11_goesOn_14 rfl ?_
  refine aw_iadd dX11_goesOn_15 ?_
  refine aw_top (zi_5mul k 1) ?_
  refine aw_iald_n dX11_goesOn_16 rfl (Nat.le_of_ble_eq_true rfl) (by decide) (by omega) ?_
  refine aw_top g1 ?_
  refine aw_istore (ls2 := [_, _, _, _, _, _, _]) dX11_goesOn_17 (by decide) rfl rfl ?_
  refine aw_iload_n dX11_goesOn_19 rfl ?_
  refine aw_iload dX11_goesOn_20 rfl ?_
  refine aw_ic_ne (tgt := 35) dX11_goesOn_22 (by decide) (fun c22 => ?_) (fun c22 => ?_)
  · refine aw_aload_n dX11_goesOn_35 rfl ?_
    refine aw_iload_n dX11_goesOn_36 rfl ?_
    refine aw_iload_n dX11_goesOn_37 rfl ?_
    refine aw_iload_n dX11_goesOn_38 rfl ?_
    refine aw_V0c (As := [_, _, _]) dX11_goesOn_39 k11_188 rfl rfl rfl ⟨Nat.le_of_ble_eq_true rfl, Nat.le_of_ble_eq_true rfl⟩ (Nat.le_of_ble_eq_true rfl) ⟨⟨Nat.le_of_ble_eq_true rfl, Nat.le_of_ble_eq_true rfl⟩, ⟨Nat.le_of_ble_eq_true rfl, Nat.le_of_ble_eq_true rfl⟩⟩ ⟨rfl, rfl⟩ (w_mTold G hM hC hU hk h8 (by omega) hp hso h7 hw hn8 hu) (fun v h2 hq => ?_)
    obtain ⟨rfl, rfl⟩ := hq
    refine aw_if_eq (tgt := 55) dX11_goesOn_42 (by decide) (fun c42 => ?_) (fun c42 => ?_)
    · refine aw_aload_n dX11_goesOn_55 rfl ?_
      refine aw_getR dX11_goesOn_56 f11_43 rfl ⟨Nat.le_of_ble_eq_true rfl, Nat.le_of_ble_eq_true rfl⟩ rfl rfl ?_
      refine aw_bipush (v := 8) dX11_goesOn_59 (by decide) ?_
      refine aw_iload_n dX11_goesOn_61 rfl ?_
      refine aw_imul dX11_goesOn_62 ?_
      refine aw_iload dX11_goesOn_63 rfl ?_
      refine aw_iadd dX11_goesOn_65 ?_
      refine aw_top (zi_8mul _ _) ?_
      refine aw_iald_n dX11_goesOn_66 rfl (Nat.le_of_ble_eq_true rfl) (by decide) (by omega) ?_
      refine aw_top (hY1 _ (by omega)).2 ?_
      refine aw_sipush (v := 9999) dX11_goesOn_67 (by decide) ?_
      refine aw_ic_lt (tgt := 83) dX11_goesOn_70 (by decide) (fun c70 => ?_) (fun c70 => ?_)
      · have n1 : ¬ p = t 1 k := fun z => c22 (by rw [z])
        have n2 : ¬ m_told m t u k h p = true := fun z => by rw [z] at c42; exact absurd c42 (by decide)
        have n3 : ¬ 9999 ≤ y 1 (8 * p + t 1 k) := by
          have := (zi_lt (b := 9999) (by omega) (by decide)).mp c70
          omega
        have hnz := hnx n1 (by omega)
        have hn8 : m_next y p (t 1 k) ≤ 8 := m_nx_le
        have b0 := hyb (8 * p + (m_next y p (t 1 k) - 1)) (by omega)
        refine aw_aload_n dX11_goesOn_83 rfl ?_
        refine aw_iload_n dX11_goesOn_84 rfl ?_
        refine aw_iload dX11_goesOn_85 rfl ?_
        refine aw_V0c (As := [_, _]) dX11_goesOn_87 k11_192 rfl rfl rfl ⟨Nat.le_of_ble_eq_true rfl, Nat.le_of_ble_eq_true rfl⟩ (Nat.le_of_ble_eq_true rfl) ⟨⟨Nat.le_of_ble_eq_true rfl, Nat.le_of_ble_eq_true rfl⟩, ⟨Nat.le_of_ble_eq_true rfl, Nat.le_of_ble_eq_true rfl⟩⟩ ⟨rfl, rfl⟩ (w_next G hY1 hp hg hyb) (fun v h2 hq => ?_)
        obtain ⟨rfl, rfl⟩ := hq
        refine aw_top (zi_pred hnz) ?_
        refine aw_istore (ls2 := [_, _, _, _, _, _, _]) dX11_goesOn_90 (by decide) rfl rfl ?_
        refine aw_aload_n dX11_goesOn_92 rfl ?_
        refine aw_getR dX11_goesOn_93 f11_40 rfl ⟨Nat.le_of_ble_eq_true rfl, Nat.le_of_ble_eq_true rfl⟩ rfl rfl ?_
        refine aw_bipush (v := 8) dX11_goesOn_96 (by decide) ?_
        refine aw_iload_n dX11_goesOn_98 rfl ?_
        refine aw_imul dX11_goesOn_99 ?_
        refine aw_iload dX11_goesOn_100 rfl ?_
        refine aw_iadd dX11_goesOn_102 ?_
        refine aw_top (zi_8mul _ _) ?_
        refine aw_iald_n dX11_goesOn_103 rfl (Nat.le_of_ble_eq_true rfl) (by decide) (by omega) ?_
        refine aw_top (hY1 _ (by omega)).1 ?_
        refine aw_aload_n dX11_goesOn_104 rfl ?_
        refine aw_getR dX11_goesOn_105 f11_31 rfl ⟨Nat.le_of_ble_eq_true rfl, Nat.le_of_ble_eq_true rfl⟩ rfl rfl ?_
        refine aw_iconst (v := 5) dX11_goesOn_108 rfl ?_
        refine aw_iload_n dX11_goesOn_109 rfl ?_
        refine aw_imul dX11_goesOn_110 ?_
        refine aw_iconst (v := 4) dX11_goesOn_111 rfl ?_
        refine aw_iadd dX11_goesOn_112 ?_
        refine aw_top (zi_5mul k 4) ?_
        refine aw_iald_n dX11_goesOn_113 rfl (Nat.le_of_ble_eq_true rfl) (by decide) (by omega) ?_
        refine aw_top g4 ?_
        refine aw_iadd dX11_goesOn_114 ?_
        refine aw_top (nI_add _ _) ?_
        refine aw_istore (ls2 := [_, _, _, _, _, _, _]) dX11_goesOn_115 (by decide) rfl rfl ?_
        refine aw_aload_n dX11_goesOn_117 rfl ?_
        refine aw_getR dX11_goesOn_118 f11_52 rfl ⟨Nat.le_of_ble_eq_true rfl, Nat.le_of_ble_eq_true rfl⟩ rfl rfl ?_
        refine aw_iload_n dX11_goesOn_121 rfl ?_
        refine aw_iald_n dX11_goesOn_122 rfl (Nat.le_of_ble_eq_true rfl) (by decide) hk8 ?_
        refine aw_top e2 ?_
        refine aw_iload dX11_goesOn_123 rfl ?_
        refine aw_ic_ge (tgt := 138) dX11_goesOn_125 (by decide) (fun c125 => ?_) (fun c125 => ?_)
        · have hge : y 0 (8 * p + (m_next y p (t 1 k) - 1)) + t 4 k ≤ m 2 k := (zi_le (by omega) (by omega)).mp c125
          refine aw_aload_n dX11_goesOn_138 rfl ?_
          refine aw_getR dX11_goesOn_139 f11_52 rfl ⟨Nat.le_of_ble_eq_true rfl, Nat.le_of_ble_eq_true rfl⟩ rfl rfl ?_
          refine aw_iload_n dX11_goesOn_142 rfl ?_
          refine aw_dup2 dX11_goesOn_143 rfl rfl ?_
          refine aw_iald_n dX11_goesOn_144 rfl (Nat.le_of_ble_eq_true rfl) (by decide) hk8 ?_
          refine aw_top e2 ?_
          refine aw_iload dX11_goesOn_145 rfl ?_
          refine aw_isub dX11_goesOn_147 ?_
          refine aw_top (pk_sub hge) ?_
          refine aw_iast_n dX11_goesOn_148 rfl ⟨Nat.le_of_ble_eq_true rfl, Nat.le_of_ble_eq_true rfl⟩ (by decide) hk8 ?_
          refine aw_aload_n dX11_goesOn_149 rfl ?_
          refine aw_getR dX11_goesOn_150 f11_46 rfl ⟨Nat.le_of_ble_eq_true rfl, Nat.le_of_ble_eq_true rfl⟩ rfl rfl ?_
          refine aw_iload_n dX11_goesOn_153 rfl ?_
          refine aw_iconst (v := 1) dX11_goesOn_154 rfl ?_
          refine aw_iast_n dX11_goesOn_155 rfl ⟨Nat.le_of_ble_eq_true rfl, Nat.le_of_ble_eq_true rfl⟩ (by decide) hk8 ?_
          refine aw_aload_n dX11_goesOn_156 rfl ?_
          refine aw_getR dX11_goesOn_157 f11_49 rfl ⟨Nat.le_of_ble_eq_true rfl, Nat.le_of_ble_eq_true rfl⟩ rfl rfl ?_
          refine aw_iload_n dX11_goesOn_160 rfl ?_
          refine aw_iconst (v := -1) dX11_goesOn_161 rfl ?_
          refine aw_top (show (-1 : Int32) = nI 0 - 1 from rfl) ?_
          refine aw_iast_n dX11_goesOn_162 rfl ⟨Nat.le_of_ble_eq_true rfl, Nat.le_of_ble_eq_true rfl⟩ (by decide) hk8 ?_
          refine aw_aload_n dX11_goesOn_163 rfl ?_
          refine aw_getR dX11_goesOn_164 f11_55 rfl ⟨Nat.le_of_ble_eq_true rfl, Nat.le_of_ble_eq_true rfl⟩ rfl rfl ?_
          refine aw_iload_n dX11_goesOn_167 rfl ?_
          refine aw_iload dX11_goesOn_168 rfl ?_
          refine aw_iast_n dX11_goesOn_170 rfl ⟨Nat.le_of_ble_eq_true rfl, Nat.le_of_ble_eq_true rfl⟩ (by decide) hk8 ?_
          refine aw_aload_n dX11_goesOn_171 rfl ?_
          refine aw_getR dX11_goesOn_172 f11_58 rfl ⟨Nat.le_of_ble_eq_true rfl, Nat.le_of_ble_eq_true rfl⟩ rfl rfl ?_
          refine aw_iload_n dX11_goesOn_175 rfl ?_
          refine aw_iload_n dX11_goesOn_176 rfl ?_
          refine aw_aload_n dX11_goesOn_177 rfl ?_
          refine aw_getR dX11_goesOn_178 f11_40 rfl ⟨Nat.le_of_ble_eq_true rfl, Nat.le_of_ble_eq_true rfl⟩ rfl rfl ?_
          refine aw_bipush (v := 8) dX11_goesOn_181 (by decide) ?_
          refine aw_iload_n dX11_goesOn_183 rfl ?_
          refine aw_imul dX11_goesOn_184 ?_
          refine aw_iload dX11_goesOn_185 rfl ?_
          refine aw_iadd dX11_goesOn_187 ?_
          refine aw_top (zi_8mul _ _) ?_
          refine aw_iald_n dX11_goesOn_188 rfl (Nat.le_of_ble_eq_true rfl) (by decide) (by omega) ?_
          refine aw_top (hY1 (8 * p + (m_next y p (t 1 k) - 1)) (by omega)).1 ?_
          refine aw_iadd dX11_goesOn_189 ?_
          refine aw_top (nI_add _ _) ?_
          refine aw_iast_n dX11_goesOn_190 rfl ⟨Nat.le_of_ble_eq_true rfl, Nat.le_of_ble_eq_true rfl⟩ (by decide) hk8 ?_
          refine aw_ret0 dX11_goesOn_191 rfl ⟨Nat.le_of_ble_eq_true rfl, Nat.le_of_ble_eq_true rfl⟩ ?_
          refine ⟨rfl, _, rfl, ?_⟩
          rw [m_goes, ← hpe, if_neg n1, if_neg n2, if_neg n3, if_neg (by omega)]
          have hz := ((((hM.u (i := 2) (j := k) (v := m 2 k - (y 0 (8 * p + (m_next y p (t 1 k) - 1)) + t 4 k)) (by decide)).u (i := 0) (j := k) (v := 1) (by decide)).u (i := 1) (j := k) (v := 0) (by decide)).us (i := 3) (j := k) (v := m_next y p (t 1 k) - 1) (by decide)).u (i := 4) (j := k) (v := h + y 0 (8 * p + (m_next y p (t 1 k) - 1))) (by decide)
          rw [show m_next y p (t 1 k) - 1 + 1 = m_next y p (t 1 k) by omega] at hz
          exact hz
        · have hlt : m 2 k < y 0 (8 * p + (m_next y p (t 1 k) - 1)) + t 4 k := by
            have : ¬ y 0 (8 * p + (m_next y p (t 1 k) - 1)) + t 4 k ≤ m 2 k := fun z => c125 ((zi_le (by omega) (by omega)).mpr z)
            omega
          refine aw_aload_n dX11_goesOn_128 rfl ?_
          refine aw_iload_n dX11_goesOn_129 rfl ?_
          refine aw_iload_n dX11_goesOn_130 rfl ?_
          refine aw_iconst (v := 4) dX11_goesOn_131 rfl ?_
          refine aw_V0c (As := [_, _, _]) dX11_goesOn_132 k11_184 rfl rfl rfl ⟨Nat.le_of_ble_eq_true rfl, Nat.le_of_ble_eq_true rfl⟩ (Nat.le_of_ble_eq_true rfl) ⟨⟨Nat.le_of_ble_eq_true rfl, Nat.le_of_ble_eq_true rfl⟩, ⟨Nat.le_of_ble_eq_true rfl, Nat.le_of_ble_eq_true rfl⟩⟩ ⟨rfl, rfl⟩ (w_stays G hM (k := k) (h := h) (a := 4) (by omega)) (fun v h2 hq => ?_)
          obtain ⟨rfl, I2, rfl, hR2⟩ := hq
          refine aw_goto (tgt := 191) dX11_goesOn_135 (by decide) ?_
          refine aw_ret0 dX11_goesOn_191 rfl ⟨Nat.le_of_ble_eq_true rfl, Nat.le_of_ble_eq_true rfl⟩ ?_
          exact ⟨rfl, I2, rfl, by rw [m_goes, ← hpe, if_neg n1, if_neg n2, if_neg n3, if_pos hlt]; exact hR2⟩
      · refine aw_aload_n dX11_goesOn_73 rfl ?_
        refine aw_iload_n dX11_goesOn_74 rfl ?_
        refine aw_iload_n dX11_goesOn_75 rfl ?_
        refine aw_iconst (v := 5) dX11_goesOn_76 rfl ?_
        refine aw_V0c (As := [_, _, _]) dX11_goesOn_77 k11_184 rfl rfl rfl ⟨Nat.le_of_ble_eq_true rfl, Nat.le_of_ble_eq_true rfl⟩ (Nat.le_of_ble_eq_true rfl) ⟨⟨Nat.le_of_ble_eq_true rfl, Nat.le_of_ble_eq_true rfl⟩, ⟨Nat.le_of_ble_eq_true rfl, Nat.le_of_ble_eq_true rfl⟩⟩ ⟨rfl, rfl⟩ (w_stays G hM (k := k) (h := h) (a := 5) (by omega)) (fun v h2 hq => ?_)
        obtain ⟨rfl, I2, rfl, hR2⟩ := hq
        refine aw_goto (tgt := 191) dX11_goesOn_80 (by decide) ?_
        refine aw_ret0 dX11_goesOn_191 rfl ⟨Nat.le_of_ble_eq_true rfl, Nat.le_of_ble_eq_true rfl⟩ ?_
        have n1 : ¬ p = t 1 k := fun z => c22 (by rw [z])
        have n2 : ¬ m_told m t u k h p = true := fun z => by rw [z] at c42; exact absurd c42 (by decide)
        have n3 : 9999 ≤ y 1 (8 * p + t 1 k) := by
          have : ¬ y 1 (8 * p + t 1 k) < 9999 := fun z => c70 ((zi_lt (b := 9999) (by omega) (by decide)).mpr z)
          omega
        exact ⟨rfl, I2, rfl, by rw [m_goes, ← hpe, if_neg n1, if_neg n2, if_pos n3]; exact hR2⟩
    · refine aw_aload_n dX11_goesOn_45 rfl ?_
      refine aw_iload_n dX11_goesOn_46 rfl ?_
      refine aw_iload_n dX11_goesOn_47 rfl ?_
      refine aw_iconst (v := 3) dX11_goesOn_48 rfl ?_
      refine aw_V0c (As := [_, _, _]) dX11_goesOn_49 k11_184 rfl rfl rfl ⟨Nat.le_of_ble_eq_true rfl, Nat.le_of_ble_eq_true rfl⟩ (Nat.le_of_ble_eq_true rfl) ⟨⟨Nat.le_of_ble_eq_true rfl, Nat.le_of_ble_eq_true rfl⟩, ⟨Nat.le_of_ble_eq_true rfl, Nat.le_of_ble_eq_true rfl⟩⟩ ⟨rfl, rfl⟩ (w_stays G hM (k := k) (h := h) (a := 3) (by omega)) (fun v h2 hq => ?_)
      obtain ⟨rfl, I2, rfl, hR2⟩ := hq
      refine aw_goto (tgt := 191) dX11_goesOn_52 (by decide) ?_
      refine aw_ret0 dX11_goesOn_191 rfl ⟨Nat.le_of_ble_eq_true rfl, Nat.le_of_ble_eq_true rfl⟩ ?_
      have n1 : ¬ p = t 1 k := fun z => c22 (by rw [z])
      have n2 : m_told m t u k h p = true := by
        cases hb : m_told m t u k h p with
        | true => rfl
        | false => rw [hb] at c42; exact absurd rfl c42
      exact ⟨rfl, I2, rfl, by rw [m_goes, ← hpe, if_neg n1, if_pos n2]; exact hR2⟩
  · refine aw_aload_n dX11_goesOn_25 rfl ?_
    refine aw_iload_n dX11_goesOn_26 rfl ?_
    refine aw_iload_n dX11_goesOn_27 rfl ?_
    refine aw_iconst (v := 2) dX11_goesOn_28 rfl ?_
    refine aw_V0c (As := [_, _, _]) dX11_goesOn_29 k11_184 rfl rfl rfl ⟨Nat.le_of_ble_eq_true rfl, Nat.le_of_ble_eq_true rfl⟩ (Nat.le_of_ble_eq_true rfl) ⟨⟨Nat.le_of_ble_eq_true rfl, Nat.le_of_ble_eq_true rfl⟩, ⟨Nat.le_of_ble_eq_true rfl, Nat.le_of_ble_eq_true rfl⟩⟩ ⟨rfl, rfl⟩ (w_stays G hM (k := k) (h := h) (a := 2) (by omega)) (fun v h2 hq => ?_)
    obtain ⟨rfl, I2, rfl, hR2⟩ := hq
    refine aw_goto (tgt := 191) dX11_goesOn_32 (by decide) ?_
    refine aw_ret0 dX11_goesOn_191 rfl ⟨Nat.le_of_ble_eq_true rfl, Nat.le_of_ble_eq_true rfl⟩ ?_
    exact ⟨rfl, I2, rfl, by rw [m_goes, ← hpe, if_pos ((zi_eq (by omega) (by omega)).mp c22)]; exact hR2⟩
