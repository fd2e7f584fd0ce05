theorem w_playA (G : aw_G) {n c : Nat} {I I0 : Nat → Nat → Int32} {L : Nat → Nat → Int64} {s t u x : Nat → Nat → Nat} (hR : zRun s 22 I0 I) (hT : zSet t 11 16 I0) (hX : zCh x 12 I0) (hU : zAn u I0) (hTo : zTok t) (hXo : zXok x) (hUo : zUok u) (hO : zOld s 8) : aw_Met G mX6_play [.ref 22, .ref 11] (zH n I L c) (zPost n L c 22 I0 (p_play s t u x)) := by
  refine aw_Met.of okX6_play (Nat.le_of_ble_eq_true rfl) ?_
  show aw_W G mX6_play 0 [.ref 22, .ref 11, aw_x, aw_x, aw_x] [] (zH n I L c) (0, 0) _
  refine aw_aload_n dX6_play_0 rfl ?_
  refine aw_aload_n dX6_play_1 rfl ?_
  refine aw_V0c (As := [_]) dX6_play_2 k6_53 rfl rfl rfl ⟨Nat.le_of_ble_eq_true rfl, Nat.le_of_ble_eq_true rfl⟩ (Nat.le_of_ble_eq_true rfl) ⟨⟨Nat.le_of_ble_eq_true rfl, Nat.le_of_ble_eq_true rfl⟩, ⟨Nat.le_of_ble_eq_true rfl, Nat.le_of_ble_eq_true rfl⟩⟩ ⟨rfl, rfl⟩ (w_begin22 G (c := c) hR hT hTo.1) (fun v h2 hq => ?_)
  obtain ⟨rfl, I2, rfl, hR2⟩ := hq
  rw [p_play]
  obtain ⟨z, hzd⟩ : ∃ z, z = p_begin s t := ⟨_, rfl⟩
  have hz : zWf z t 8 := by rw [hzd]; exact zWf.begin hTo hO
  rw [← hzd] at hR2 ⊢
  have hz6 : z 0 0 = t 6 0 := hz.1
  have hz8 : z 0 0 ≤ 8 := by rw [hz.1]; exact hTo.1
  refine aw_aload_n dX6_play_5 rfl ?_
  refine aw_V0c (As := []) dX6_play_6 k6_57 rfl rfl rfl ⟨Nat.le_of_ble_eq_true rfl, Nat.le_of_ble_eq_true rfl⟩ (Nat.le_of_ble_eq_true rfl) ⟨⟨Nat.le_of_ble_eq_true rfl, Nat.le_of_ble_eq_true rfl⟩, ⟨Nat.le_of_ble_eq_true rfl, Nat.le_of_ble_eq_true rfl⟩⟩ ⟨rfl, rfl⟩ (w_soonest22 G (c := c) hR2 hz8 (fun j hj => by have := (hz.2.2.2.1 j hj).1; omega)) (fun v h2 hq => ?_)
  obtain ⟨rfl, rfl⟩ := hq
  refine aw_istore_n (ls2 := [_, _, _, _, _]) dX6_play_9 (by decide) rfl rfl ?_
  refine aw_iconst (v := 0) dX6_play_10 rfl ?_
  refine aw_istore_n (ls2 := [_, _, _, _, _]) dX6_play_11 (by decide) rfl rfl ?_
  refine aw_up (X := fun i => ∀ I, zRun (p_ev z t u x i) 22 I0 I → aw_W G mX6_play 12 [.ref 22, .ref 11, .int (nI (p_min (p_ev z t u x i 1) (z 0 0))), .int (nI i), aw_x] [] (zH n I L c) (0, 0) _) (Nat.zero_le 40) (fun I hR => ?_) (fun i _ hi ih I hR => ?_) _ hR2
  · refine aw_iload_n dX6_play_12 rfl ?_
    refine aw_bipush (v := 40) dX6_play_13 (by decide) ?_
    refine aw_ic_ge (tgt := 77) dX6_play_15 (by decide) (fun _ => ?_) (fun z => absurd (by decide) z)
    refine aw_ret0 dX6_play_77 rfl ⟨Nat.le_of_ble_eq_true rfl, Nat.le_of_ble_eq_true rfl⟩ ?_
    exact ⟨rfl, _, rfl, hR⟩
  · obtain ⟨S, hS⟩ : ∃ S, S = p_ev z t u x i := ⟨_, rfl⟩
    have hSw : zWf S t (8 + 8 * i) := by rw [hS]; exact hz.ev hXo hTo
    rw [← hS] at hR ⊢
    obtain ⟨h, hhd⟩ : ∃ h, h = p_min (S 1) (z 0 0) := ⟨_, rfl⟩
    rw [← hhd]
    have hb : h ≤ 1000 := by rw [hhd]; exact p_min_le
    refine aw_iload_n dX6_play_12 rfl ?_
    refine aw_bipush (v := 40) dX6_play_13 (by decide) ?_
    refine aw_ic_ge (tgt := 77) dX6_play_15 (by decide) (fun z => absurd z (nI_ge (b := 40) hi (by decide))) (fun _ => ?_)
    refine aw_iload_n dX6_play_18 rfl ?_
    refine aw_bipush (v := 40) dX6_play_19 (by decide) ?_
    refine aw_ic_ge (tgt := 77) dX6_play_21 (by decide) (fun c21 => ?_) (fun c21 => ?_)
    · have hn : ¬ h < 40 := by
        have := (zi_le (a := 40) (by decide) (by omega)).mp c21
        omega
      have e : p_ev z t u x 40 = S := by
        have := p_ev_stop (s := z) (t := t) (u := u) (x := x) (i := i) (by rw [← hS, ← hhd]; exact hn) (40 - i)
        rw [show i + (40 - i) = 40 by omega, ← hS] at this
        exact this
      rw [e]
      refine aw_ret0 dX6_play_77 rfl ⟨Nat.le_of_ble_eq_true rfl, Nat.le_of_ble_eq_true rfl⟩ ?_
      exact ⟨rfl, _, rfl, hR⟩
    · have hh : h < 40 := by
        have : ¬ 40 ≤ h := fun z => c21 ((zi_le (a := 40) (by decide) (by omega)).mpr z)
        omega
      have hw2 := (hSw.gather (h := h) (by omega)).sw (u := u) hXo hTo (h := h) (i := z 0 0) (by omega) (by rw [hz.1]; exact Nat.le_refl _)
      have hpr : ∀ j, p_sw (p_gather S h) t u x h j 3 = p_gather S h 3 := fun j => by
        induction j with
        | zero => rfl
        | succ j ih =>
          rw [p_sw]
          split
          · rw [p_settle_03 (Or.inr rfl), ih]
          · exact ih
      have hpr3 : ∀ p, p < 8 → p_gather S h 3 p ≤ 8 := fun p hp => by
        rw [p_gather, p_g3_row (by decide)]
        exact Nat.le_trans (p_g2_le (fun p hp => p_g1_lt hp) hp) (by rw [hSw.1]; exact hTo.1)
      refine aw_aload_n dX6_play_24 rfl ?_
      refine aw_iload_n dX6_play_25 rfl ?_
      refine aw_V0c (As := [_]) dX6_play_26 k6_61 rfl rfl rfl ⟨Nat.le_of_ble_eq_true rfl, Nat.le_of_ble_eq_true rfl⟩ (Nat.le_of_ble_eq_true rfl) ⟨⟨Nat.le_of_ble_eq_true rfl, Nat.le_of_ble_eq_true rfl⟩, ⟨Nat.le_of_ble_eq_true rfl, Nat.le_of_ble_eq_true rfl⟩⟩ ⟨rfl, rfl⟩ (w_gather22 G (c := c) hR (by rw [hSw.1]; exact hTo.1) (show h < 900 by omega) hSw.2.1 (fun j hj => by have := hSw.2.2.2.1 j hj; omega)) (fun v h2 hq => ?_)
      obtain ⟨rfl, I2, rfl, hR2⟩ := hq
      refine aw_iconst (v := 0) dX6_play_29 rfl ?_
      refine aw_istore (ls2 := [_, _, _, _, _]) dX6_play_30 (by decide) rfl rfl ?_
      refine aw_up (X := fun j => ∀ I, zRun (p_sw (p_gather S h) t u x h j) 22 I0 I → aw_W G mX6_play 32 [.ref 22, .ref 11, .int (nI h), .int (nI i), .int (nI j)] [] (zH n I L c) (0, 0) _) (Nat.zero_le (z 0 0)) (fun I hR => ?_) (fun j _ hj jh I hR => ?_) _ hR2
      · refine aw_iload dX6_play_32 rfl ?_
        refine aw_aload_n dX6_play_34 rfl ?_
        refine aw_getI dX6_play_35 f6_9 rfl ⟨Nat.le_of_ble_eq_true rfl, Nat.le_of_ble_eq_true rfl⟩ rfl ?_
        have e0 : _ = nI (p_sw (p_gather S h) t u x h (z 0 0) 0 0) := hR.at0 0 (Or.inl rfl)
        rw [hw2.1, ← hz.1] at e0
        refine aw_top e0 ?_
        refine aw_ic_ge (tgt := 66) dX6_play_38 (by decide) (fun _ => ?_) (fun z => absurd (nI_le (Nat.le_refl _) (by omega)) z)
        refine aw_aload_n dX6_play_66 rfl ?_
        refine aw_V0c (As := []) dX6_play_67 k6_57 rfl rfl rfl ⟨Nat.le_of_ble_eq_true rfl, Nat.le_of_ble_eq_true rfl⟩ (Nat.le_of_ble_eq_true rfl) ⟨⟨Nat.le_of_ble_eq_true rfl, Nat.le_of_ble_eq_true rfl⟩, ⟨Nat.le_of_ble_eq_true rfl, Nat.le_of_ble_eq_true rfl⟩⟩ ⟨rfl, rfl⟩ (w_soonest22 G (c := c) hR (by rw [hw2.1]; omega) (fun j hj => by have := (hw2.2.2.2.1 j hj).1; omega)) (fun v h2 hq => ?_)
        obtain ⟨rfl, rfl⟩ := hq
        rw [hw2.1, ← hz.1]
        refine aw_istore_n (ls2 := [_, _, _, _, _]) dX6_play_70 (by decide) rfl rfl ?_
        refine aw_iinc_n (ls2 := [_, _, _, _, _]) dX6_play_71 rfl (by decide) rfl rfl ?_
        refine aw_goto (tgt := 12) dX6_play_74 (by decide) ?_
        refine aw_kill (j := 4) (ls2 := [_, _, _, _, aw_x]) rfl ?_
        have e : p_ev z t u x (i + 1) = p_sw (p_gather S h) t u x h (z 0 0) := by
          rw [p_ev, ← hS, ← hhd, if_pos hh, p_hour, hSw.1, hz.1]
        have h3 := ih I (by rw [e]; exact hR)
        rw [e] at h3
        exact h3
      · have hwj := (hSw.gather (h := h) (by omega)).sw (u := u) hXo hTo (h := h) (i := j) (by omega) (by omega)
        have hj8 : j < 8 := by omega
        refine aw_iload dX6_play_32 rfl ?_
        refine aw_aload_n dX6_play_34 rfl ?_
        refine aw_getI dX6_play_35 f6_9 rfl ⟨Nat.le_of_ble_eq_true rfl, Nat.le_of_ble_eq_true rfl⟩ rfl ?_
        have e0 : _ = nI (p_sw (p_gather S h) t u x h j 0 0) := hR.at0 0 (Or.inl rfl)
        rw [hwj.1, ← hz.1] at e0
        refine aw_top e0 ?_
        refine aw_ic_ge (tgt := 66) dX6_play_38 (by decide) (fun z => absurd z (nI_ge hj (by omega))) (fun _ => ?_)
        refine aw_aload_n dX6_play_41 rfl ?_
        refine aw_getR dX6_play_42 f6_15 rfl ⟨Nat.le_of_ble_eq_true rfl, Nat.le_of_ble_eq_true rfl⟩ rfl rfl ?_
        refine aw_iload dX6_play_45 rfl ?_
        refine aw_iald_n dX6_play_47 rfl (Nat.le_of_ble_eq_true rfl) (by decide) hj8 ?_
        have e1 := hR.at 1 j (by decide) (by decide) (by decide) (by omega)
        refine aw_top e1 ?_
        have hb1 := (hwj.2.2.2.1 j hj8).1
        refine aw_iload_n dX6_play_48 rfl ?_
        refine aw_ic_ne (tgt := 60) dX6_play_49 (by decide) (fun c49 => ?_) (fun c49 => ?_)
        · refine aw_iinc_n (ls2 := [_, _, _, _, _]) dX6_play_60 rfl (by decide) rfl rfl ?_
          refine aw_goto (tgt := 32) dX6_play_63 (by decide) ?_
          refine jh I ?_
          have n1 : ¬ p_sw (p_gather S h) t u x h j 1 j = h := fun z => c49 (by rw [z]; rfl)
          rw [p_sw, if_neg n1]
          exact hR
        · have he : p_sw (p_gather S h) t u x h j 1 j = h := (zi_eq (by omega) (by omega)).mp c49
          have hst := (hwj.2.2.1 j (by omega)).1 (by omega)
          refine aw_aload_n dX6_play_52 rfl ?_
          refine aw_aload_n dX6_play_53 rfl ?_
          refine aw_iload dX6_play_54 rfl ?_
          refine aw_iload_n dX6_play_56 rfl ?_
          refine aw_V0c (As := [_, _, _]) dX6_play_57 k6_65 rfl rfl rfl ⟨Nat.le_of_ble_eq_true rfl, Nat.le_of_ble_eq_true rfl⟩ (Nat.le_of_ble_eq_true rfl) ⟨⟨Nat.le_of_ble_eq_true rfl, Nat.le_of_ble_eq_true rfl⟩, ⟨Nat.le_of_ble_eq_true rfl, Nat.le_of_ble_eq_true rfl⟩⟩ ⟨rfl, rfl⟩ (w_settleA G hR hT hX hU hj8 (show h < 1000 by omega) hst (by have := (hwj.2.2.2.1 j hj8).2.2.2; omega) (hwj.2.2.2.1 j hj8).2.2.1 (hTo.2.2 j hj8).2.1 (fun j hj => (hXo j hj).2) (fun j hj => (hXo j hj).1) (hTo.2.2 j hj8).2.2.2.2.1 (hwj.2.2.1 j (by omega)).2 (hTo.2.2 j hj8).2.2.2.1 (by have := hwj.2.2.2.2 (p_sw (p_gather S h) t u x h j 5 j); omega) (by rw [hpr j]; have := hpr3 _ (hwj.2.2.2.1 j hj8).2.2.1; omega) (Nat.lt_trans (hTo.2.2 j hj8).2.2.1 (by decide)) hTo.2.1 hUo.1 hUo.2) (fun v h2 hq => ?_)
          obtain ⟨rfl, I2, rfl, hR2⟩ := hq
          refine aw_iinc_n (ls2 := [_, _, _, _, _]) dX6_play_60 rfl (by decide) rfl rfl ?_
          refine aw_goto (tgt := 32) dX6_play_63 (by decide) ?_
          refine jh I2 ?_
          rw [p_sw, if_pos he]
          exact hR2
theorem w_playB (G : aw_G) {n : Nat} {I I0 : Nat → Nat → Int32} {L : Nat → Nat → Int64} {s t u x : Nat → Nat → Nat} (hR : zRun s 44 I0 I) (hT : zSet t 37 38 I0) (hX : zCh x 12 I0) (hU : zAn u I0) (hTo : zTok t) (hXo : zXok x) (hUo : zUok u) (hO : zOld s 8) : aw_Met G mX6_play [.ref 44, .ref 37] (zH n I L 12) (zPost n L 12 44 I0 (p_play s t u x)) := by
  refine aw_Met.of okX6_play (Nat.le_of_ble_eq_true rfl) ?_
  show aw_W G mX6_play 0 [.ref 44, .ref 37, aw_x, aw_x, aw_x] [] (zH n I L 12) (0, 0) _
  refine aw_aload_n dX6_play_0 rfl ?_
  refine aw_aload_n dX6_play_1 rfl ?_
  refine aw_V0c (As := [_]) dX6_play_2 k6_53 rfl rfl rfl ⟨Nat.le_of_ble_eq_true rfl, Nat.le_of_ble_eq_true rfl⟩ (Nat.le_of_ble_eq_true rfl) ⟨⟨Nat.le_of_ble_eq_true rfl, Nat.le_of_ble_eq_true rfl⟩, ⟨Nat.le_of_ble_eq_true rfl, Nat.le_of_ble_eq_true rfl⟩⟩ ⟨rfl, rfl⟩ (w_begin44 G (c := 12) hR hT hTo.1) (fun v h2 hq => ?_)
  obtain ⟨rfl, I2, rfl, hR2⟩ := hq
  rw [p_play]
  obtain ⟨z, hzd⟩ : ∃ z, z = p_begin s t := ⟨_, rfl⟩
  have hz : zWf z t 8 := by rw [hzd]; exact zWf.begin hTo hO
  rw [← hzd] at hR2 ⊢
  have hz6 : z 0 0 = t 6 0 := hz.1
  have hz8 : z 0 0 ≤ 8 := by rw [hz.1]; exact hTo.1
  refine aw_aload_n dX6_play_5 rfl ?_
  refine aw_V0c (As := []) dX6_play_6 k6_57 rfl rfl rfl ⟨Nat.le_of_ble_eq_true rfl, Nat.le_of_ble_eq_true rfl⟩ (Nat.le_of_ble_eq_true rfl) ⟨⟨Nat.le_of_ble_eq_true rfl, Nat.le_of_ble_eq_true rfl⟩, ⟨Nat.le_of_ble_eq_true rfl, Nat.le_of_ble_eq_true rfl⟩⟩ ⟨rfl, rfl⟩ (w_soonest44 G (c := 12) hR2 hz8 (fun j hj => by have := (hz.2.2.2.1 j hj).1; omega)) (fun v h2 hq => ?_)
  obtain ⟨rfl, rfl⟩ := hq
  refine aw_istore_n (ls2 := [_, _, _, _, _]) dX6_play_9 (by decide) rfl rfl ?_
  refine aw_iconst (v := 0) dX6_play_10 rfl ?_
  refine aw_istore_n (ls2 := [_, _, _, _, _]) dX6_play_11 (by decide) rfl rfl ?_
  refine aw_up (X := fun i => ∀ I, zRun (p_ev z t u x i) 44 I0 I → aw_W G mX6_play 12 [.ref 44, .ref 37, .int (nI (p_min (p_ev z t u x i 1) (z 0 0))), .int (nI i), aw_x] [] (zH n I L 12) (0, 0) _) (Nat.zero_le 40) (fun I hR => ?_) (fun i _ hi ih I hR => ?_) _ hR2
  · refine aw_iload_n dX6_play_12 rfl ?_
    refine aw_bipush (v := 40) dX6_play_13 (by decide) ?_
    refine aw_ic_ge (tgt := 77) dX6_play_15 (by decide) (fun _ => ?_) (fun z => absurd (by decide) z)
    refine aw_ret0 dX6_play_77 rfl ⟨Nat.le_of_ble_eq_true rfl, Nat.le_of_ble_eq_true rfl⟩ ?_
    exact ⟨rfl, _, rfl, hR⟩
  · obtain ⟨S, hS⟩ : ∃ S, S = p_ev z t u x i := ⟨_, rfl⟩
    have hSw : zWf S t (8 + 8 * i) := by rw [hS]; exact hz.ev hXo hTo
    rw [← hS] at hR ⊢
    obtain ⟨h, hhd⟩ : ∃ h, h = p_min (S 1) (z 0 0) := ⟨_, rfl⟩
    rw [← hhd]
    have hb : h ≤ 1000 := by rw [hhd]; exact p_min_le
    refine aw_iload_n dX6_play_12 rfl ?_
    refine aw_bipush (v := 40) dX6_play_13 (by decide) ?_
    refine aw_ic_ge (tgt := 77) dX6_play_15 (by decide) (fun z => absurd z (nI_ge (b := 40) hi (by decide))) (fun _ => ?_)
    refine aw_iload_n dX6_play_18 rfl ?_
    refine aw_bipush (v := 40) dX6_play_19 (by decide) ?_
    refine aw_ic_ge (tgt := 77) dX6_play_21 (by decide) (fun c21 => ?_) (fun c21 => ?_)
    · have hn : ¬ h < 40 := by
        have := (zi_le (a := 40) (by decide) (by omega)).mp c21
        omega
      have e : p_ev z t u x 40 = S := by
        have := p_ev_stop (s := z) (t := t) (u := u) (x := x) (i := i) (by rw [← hS, ← hhd]; exact hn) (40 - i)
        rw [show i + (40 - i) = 40 by omega, ← hS] at this
        exact this
      rw [e]
      refine aw_ret0 dX6_play_77 rfl ⟨Nat.le_of_ble_eq_true rfl, Nat.le_of_ble_eq_true rfl⟩ ?_
      exact ⟨rfl, _, rfl, hR⟩
    · have hh : h < 40 := by
        have : ¬ 40 ≤ h := fun z => c21 ((zi_le (a := 40) (by decide) (by omega)).mpr z)
        omega
      have hw2 := (hSw.gather (h := h) (by omega)).sw (u := u) hXo hTo (h := h) (i := z 0 0) (by omega) (by rw [hz.1]; exact Nat.le_refl _)
      have hpr : ∀ j, p_sw (p_gather S h) t u x h j 3 = p_gather S h 3 := fun j => by
        induction j with
        | zero => rfl
        | succ j ih =>
          rw [p_sw]
          split
          · rw [p_settle_03 (Or.inr rfl), ih]
          · exact ih
      have hpr3 : ∀ p, p < 8 → p_gather S h 3 p ≤ 8 := fun p hp => by
        rw [p_gather, p_g3_row (by decide)]
        exact Nat.le_trans (p_g2_le (fun p hp => p_g1_lt hp) hp) (by rw [hSw.1]; exact hTo.1)
      refine aw_aload_n dX6_play_24 rfl ?_
      refine aw_iload_n dX6_play_25 rfl ?_
      refine aw_V0c (As := [_]) dX6_play_26 k6_61 rfl rfl rfl ⟨Nat.le_of_ble_eq_true rfl, Nat.le_of_ble_eq_true rfl⟩ (Nat.le_of_ble_eq_true rfl) ⟨⟨Nat.le_of_ble_eq_true rfl, Nat.le_of_ble_eq_true rfl⟩, ⟨Nat.le_of_ble_eq_true rfl, Nat.le_of_ble_eq_true rfl⟩⟩ ⟨rfl, rfl⟩ (w_gather44 G (c := 12) hR (by rw [hSw.1]; exact hTo.1) (show h < 900 by omega) hSw.2.1 (fun j hj => by have := hSw.2.2.2.1 j hj; omega)) (fun v h2 hq => ?_)
      obtain ⟨rfl, I2, rfl, hR2⟩ := hq
      refine aw_iconst (v := 0) dX6_play_29 rfl ?_
      refine aw_istore (ls2 := [_, _, _, _, _]) dX6_play_30 (by decide) rfl rfl ?_
      refine aw_up (X := fun j => ∀ I, zRun (p_sw (p_gather S h) t u x h j) 44 I0 I → aw_W G mX6_play 32 [.ref 44, .ref 37, .int (nI h), .int (nI i), .int (nI j)] [] (zH n I L 12) (0, 0) _) (Nat.zero_le (z 0 0)) (fun I hR => ?_) (fun j _ hj jh I hR => ?_) _ hR2
      · refine aw_iload dX6_play_32 rfl ?_
        refine aw_aload_n dX6_play_34 rfl ?_
        refine aw_getI dX6_play_35 f6_9 rfl ⟨Nat.le_of_ble_eq_true rfl, Nat.le_of_ble_eq_true rfl⟩ rfl ?_
        have e0 : _ = nI (p_sw (p_gather S h) t u x h (z 0 0) 0 0) := hR.at0 0 (Or.inl rfl)
        rw [hw2.1, ← hz.1] at e0
        refine aw_top e0 ?_
        refine aw_ic_ge (tgt := 66) dX6_play_38 (by decide) (fun _ => ?_) (fun z => absurd (nI_le (Nat.le_refl _) (by omega)) z)
        refine aw_aload_n dX6_play_66 rfl ?_
        refine aw_V0c (As := []) dX6_play_67 k6_57 rfl rfl rfl ⟨Nat.le_of_ble_eq_true rfl, Nat.le_of_ble_eq_true rfl⟩ (Nat.le_of_ble_eq_true rfl) ⟨⟨Nat.le_of_ble_eq_true rfl, Nat.le_of_ble_eq_true rfl⟩, ⟨Nat.le_of_ble_eq_true rfl, Nat.le_of_ble_eq_true rfl⟩⟩ ⟨rfl, rfl⟩ (w_soonest44 G (c := 12) hR (by rw [hw2.1]; omega) (fun j hj => by have := (hw2.2.2.2.1 j hj).1; omega)) (fun v h2 hq => ?_)
        obtain ⟨rfl, rfl⟩ := hq
        rw [hw2.1, ← hz.1]
        refine aw_istore_n (ls2 := [_, _, _, _, _]) dX6_play_70 (by decide) rfl rfl ?_
        refine aw_iinc_n (ls2 := [_, _, _, _, _]) dX6_play_71 rfl (by decide) rfl rfl ?_
        refine aw_goto (tgt := 12) dX6_play_74 (by decide) ?_
        refine aw_kill (j := 4) (ls2 := [_, _, _, _, aw_x]) rfl ?_
        have e : p_ev z t u x (i + 1) = p_sw (p_gather S h) t u x h (z 0 0) := by
          rw [p_ev, ← hS, ← hhd, if_pos hh, p_hour, hSw.1, hz.1]
        have h3 := ih I (by rw [e]; exact hR)
        rw [e] at h3
        exact h3
      · have hwj := (hSw.gather (h := h) (by omega)).sw (u := u) hXo hTo (h := h) (i := j) (by omega) (by omega)
        have hj8 : j < 8 := by omega
        refine aw_iload dX6_play_32 rfl ?_
        refine aw_aload_n dX6_play_34 rfl ?_
        refine aw_getI dX6_play_35 f6_9 rfl ⟨Nat.le_of_ble_eq_true rfl, Nat.le_of_ble_eq_true rfl⟩ rfl ?_
        have e0 : _ = nI (p_sw (p_gather S h) t u x h j 0 0) := hR.at0 0 (Or.inl rfl)
        rw [hwj.1, ← hz.1] at e0
        refine aw_top e0 ?_
        refine aw_ic_ge (tgt := 66) dX6_play_38 (by decide) (fun z => absurd z (nI_ge hj (by omega))) (fun _ => ?_)
        refine aw_aload_n dX6_play_41 rfl ?_
        refine aw_getR dX6_play_42 f6_15 rfl ⟨Nat.le_of_ble_eq_true rfl, Nat.le_of_ble_eq_true rfl⟩ rfl rfl ?_
        refine aw_iload dX6_play_45 rfl ?_
        refine aw_iald_n dX6_play_47 rfl (Nat.le_of_ble_eq_true rfl) (by decide) hj8 ?_
        have e1 := hR.at 1 j (by decide) (by decide) (by decide) (by omega)
        refine aw_top e1 ?_
        have hb1 := (hwj.2.2.2.1 j hj8).1
        refine aw_iload_n dX6_play_48 rfl ?_
        refine aw_ic_ne (tgt := 60) dX6_play_49 (by decide) (fun c49 => ?_) (fun c49 => ?_)
        · refine aw_iinc_n (ls2 := [_, _, _, _, _]) dX6_play_60 rfl (by decide) rfl rfl ?_
          refine aw_goto (tgt := 32) dX6_play_63 (by decide) ?_
          refine jh I ?_
          have n1 : ¬ p_sw (p_gather S h) t u x h j 1 j = h := fun z => c49 (by rw [z]; rfl)
          rw [p_sw, if_neg n1]
          exact hR
        · have he : p_sw (p_gather S h) t u x h j 1 j = h := (zi_eq (by omega) (by omega)).mp c49
          have hst := (hwj.2.2.1 j (by omega)).1 (by omega)
          refine aw_aload_n dX6_play_52 rfl ?_
          refine aw_aload_n dX6_play_53 rfl ?_
          refine aw_iload dX6_play_54 rfl ?_
          refine aw_iload_n dX6_play_56 rfl ?_
          refine aw_V0c (As := [_, _, _]) dX6_play_57 k6_65 rfl rfl rfl ⟨Nat.le_of_ble_eq_true rfl, Nat.le_of_ble_eq_true rfl⟩ (Nat.le_of_ble_eq_true rfl) ⟨⟨Nat.le_of_ble_eq_true rfl, Nat.le_of_ble_eq_true rfl⟩, ⟨Nat.le_of_ble_eq_true rfl, Nat.le_of_ble_eq_true rfl⟩⟩ ⟨rfl, rfl⟩ (w_settleB G hR hT hX hU hj8 (show h < 1000 by omega) hst (by have := (hwj.2.2.2.1 j hj8).2.2.2; omega) (hwj.2.2.2.1 j hj8).2.2.1 (hTo.2.2 j hj8).2.1 (fun j hj => (hXo j hj).2) (fun j hj => (hXo j hj).1) (hTo.2.2 j hj8).2.2.2.2.1 (hwj.2.2.1 j (by omega)).2 (hTo.2.2 j hj8).2.2.2.1 (by have := hwj.2.2.2.2 (p_sw (p_gather S h) t u x h j 5 j); omega) (by rw [hpr j]; have := hpr3 _ (hwj.2.2.2.1 j hj8).2.2.1; omega) (Nat.lt_trans (hTo.2.2 j hj8).2.2.1 (by decide)) hTo.2.1 hUo.1 hUo.2) (fun v h2 hq => ?_)
          obtain ⟨rfl, I2, rfl, hR2⟩ := hq
          refine aw_iinc_n (ls2 := [_, _, _, _, _]) dX6_play_60 rfl (by decide) rfl rfl ?_
          refine aw_goto (tgt := 32) dX6_play_63 (by decide) ?_
          refine jh I2 ?_
          rw [p_sw, if_pos he]
          exact hR2
theorem w_playC (G : aw_G) {n : Nat} {I I0 : Nat → Nat → Int32} {L : Nat → Nat → Int64} {s t u x : Nat → Nat → Nat} (hR : zRun s 44 I0 I) (hT : zSet t 37 38 I0) (hX : zCh x 60 I0) (hU : zAn u I0) (hTo : zTok t) (hXo : zXok x) (hUo : zUok u) (hO : zOld s 8) : aw_Met G mX6_play [.ref 44, .ref 37] (zH n I L 60) (zPost n L 60 44 I0 (p_play s t u x)) := by
  refine aw_Met.of okX6_play (Nat.le_of_ble_eq_true rfl) ?_
  show aw_W G mX6_play 0 [.ref 44, .ref 37, aw_x, aw_x, aw_x] [] (zH n I L 60) (0, 0) _
  refine aw_aload_n dX6_play_0 rfl ?_
  refine aw_aload_n dX6_play_1 rfl ?_
  refine aw_V0c (As := [_]) dX6_play_2 k6_53 rfl rfl rfl ⟨Nat.le_of_ble_eq_true rfl, Nat.le_of_ble_eq_true rfl⟩ (Nat.le_of_ble_eq_true rfl) ⟨⟨Nat.le_of_ble_eq_true rfl, Nat.le_of_ble_eq_true rfl⟩, ⟨Nat.le_of_ble_eq_true rfl, Nat.le_of_ble_eq_true rfl⟩⟩ ⟨rfl, rfl⟩ (w_begin44 G (c := 60) hR hT hTo.1) (fun v h2 hq => ?_)
  obtain ⟨rfl, I2, rfl, hR2⟩ := hq
  rw [p_play]
  obtain ⟨z, hzd⟩ : ∃ z, z = p_begin s t := ⟨_, rfl⟩
  have hz : zWf z t 8 := by rw [hzd]; exact zWf.begin hTo hO
  rw [← hzd] at hR2 ⊢
  have hz6 : z 0 0 = t 6 0 := hz.1
  have hz8 : z 0 0 ≤ 8 := by rw [hz.1]; exact hTo.1
  refine aw_aload_n dX6_play_5 rfl ?_
  refine aw_V0c (As := []) dX6_play_6 k6_57 rfl rfl rfl ⟨Nat.le_of_ble_eq_true rfl, Nat.le_of_ble_eq_true rfl⟩ (Nat.le_of_ble_eq_true rfl) ⟨⟨Nat.le_of_ble_eq_true rfl, Nat.le_of_ble_eq_true rfl⟩, ⟨Nat.le_of_ble_eq_true rfl, Nat.le_of_ble_eq_true rfl⟩⟩ ⟨rfl, rfl⟩ (w_soonest44 G (c := 60) hR2 hz8 (fun j hj => by have := (hz.2.2.2.1 j hj).1; omega)) (fun v h2 hq => ?_)
  obtain ⟨rfl, rfl⟩ := hq
  refine aw_istore_n (ls2 := [_, _, _, _, _]) dX6_play_9 (by decide) rfl rfl ?_
  refine aw_iconst (v := 0) dX6_play_10 rfl ?_
  refine aw_istore_n (ls2 := [_, _, _, _, _]) dX6_play_11 (by decide) rfl rfl ?_
  refine aw_up (X := fun i => ∀ I, zRun (p_ev z t u x i) 44 I0 I → aw_W G mX6_play 12 [.ref 44, .ref 37, .int (nI (p_min (p_ev z t u x i 1) (z 0 0))), .int (nI i), aw_x] [] (zH n I L 60) (0, 0) _) (Nat.zero_le 40) (fun I hR => ?_) (fun i _ hi ih I hR => ?_) _ hR2
  · refine aw_iload_n dX6_play_12 rfl ?_
    refine aw_bipush (v := 40) dX6_play_13 (by decide) ?_
    refine aw_ic_ge (tgt := 77) dX6_play_15 (by decide) (fun _ => ?_) (fun z => absurd (by decide) z)
    refine aw_ret0 dX6_play_77 rfl ⟨Nat.le_of_ble_eq_true rfl, Nat.le_of_ble_eq_true rfl⟩ ?_
    exact ⟨rfl, _, rfl, hR⟩
  · obtain ⟨S, hS⟩ : ∃ S, S = p_ev z t u x i := ⟨_, rfl⟩
    have hSw : zWf S t (8 + 8 * i) := by rw [hS]; exact hz.ev hXo hTo
    rw [← hS] at hR ⊢
    obtain ⟨h, hhd⟩ : ∃ h, h = p_min (S 1) (z 0 0) := ⟨_, rfl⟩
    rw [← hhd]
    have hb : h ≤ 1000 := by rw [hhd]; exact p_min_le
    refine aw_iload_n dX6_play_12 rfl ?_
    refine aw_bipush (v := 40) dX6_play_13 (by decide) ?_
    refine aw_ic_ge (tgt := 77) dX6_play_15 (by decide) (fun z => absurd z (nI_ge (b := 40) hi (by decide))) (fun _ => ?_)
    refine aw_iload_n dX6_play_18 rfl ?_
    refine aw_bipush (v := 40) dX6_play_19 (by decide) ?_
    refine aw_ic_ge (tgt := 77) dX6_play_21 (by decide) (fun c21 => ?_) (fun c21 => ?_)
    · have hn : ¬ h < 40 := by
        have := (zi_le (a := 40) (by decide) (by omega)).mp c21
        omega
      have e : p_ev z t u x 40 = S := by
        have := p_ev_stop (s := z) (t := t) (u := u) (x := x) (i := i) (by rw [← hS, ← hhd]; exact hn) (40 - i)
        rw [show i + (40 - i) = 40 by omega, ← hS] at this
        exact this
      rw [e]
      refine aw_ret0 dX6_play_77 rfl ⟨Nat.le_of_ble_eq_true rfl, Nat.le_of_ble_eq_true rfl⟩ ?_
      exact ⟨rfl, _, rfl, hR⟩
    · have hh : h < 40 := by
        have : ¬ 40 ≤ h := fun z => c21 ((zi_le (a := 40) (by decide) (by omega)).mpr z)
        omega
      have hw2 := (hSw.gather (h := h) (by omega)).sw (u := u) hXo hTo (h := h) (i := z 0 0) (by omega) (by rw [hz.1]; exact Nat.le_refl _)
      have hpr : ∀ j, p_sw (p_gather S h) t u x h j 3 = p_gather S h 3 := fun j => by
        induction j with
        | zero => rfl
        | succ j ih =>
          rw [p_sw]
          split
          · rw [p_settle_03 (Or.inr rfl), ih]
          · exact ih
      have hpr3 : ∀ p, p < 8 → p_gather S h 3 p ≤ 8 := fun p hp => by
        rw [p_gather, p_g3_row (by decide)]
        exact Nat.le_trans (p_g2_le (fun p hp => p_g1_lt hp) hp) (by rw [hSw.1]; exact hTo.1)
      refine aw_aload_n dX6_play_24 rfl ?_
      refine aw_iload_n dX6_play_25 rfl ?_
      refine aw_V0c (As := [_]) dX6_play_26 k6_61 rfl rfl rfl ⟨Nat.le_of_ble_eq_true rfl, Nat.le_of_ble_eq_true rfl⟩ (Nat.le_of_ble_eq_true rfl) ⟨⟨Nat.le_of_ble_eq_true rfl, Nat.le_of_ble_eq_true rfl⟩, ⟨Nat.le_of_ble_eq_true rfl, Nat.le_of_ble_eq_true rfl⟩⟩ ⟨rfl, rfl⟩ (w_gather44 G (c := 60) hR (by rw [hSw.1]; exact hTo.1) (show h < 900 by omega) hSw.2.1 (fun j hj => by have := hSw.2.2.2.1 j hj; omega)) (fun v h2 hq => ?_)
      obtain ⟨rfl, I2, rfl, hR2⟩ := hq
      refine aw_iconst (v := 0) dX6_play_29 rfl ?_
      refine aw_istore (ls2 := [_, _, _, _, _]) dX6_play_30 (by decide) rfl rfl ?_
      refine aw_up (X := fun j => ∀ I, zRun (p_sw (p_gather S h) t u x h j) 44 I0 I → aw_W G mX6_play 32 [.ref 44, .ref 37, .int (nI h), .int (nI i), .int (nI j)] [] (zH n I L 60) (0, 0) _) (Nat.zero_le (z 0 0)) (fun I hR => ?_) (fun j _ hj jh I hR => ?_) _ hR2
      · refine aw_iload dX6_play_32 rfl ?_
        refine aw_aload_n dX6_play_34 rfl ?_
        refine aw_getI dX6_play_35 f6_9 rfl ⟨Nat.le_of_ble_eq_true rfl, Nat.le_of_ble_eq_true rfl⟩ rfl ?_
        have e0 : _ = nI (p_sw (p_gather S h) t u x h (z 0 0) 0 0) := hR.at0 0 (Or.inl rfl)
        rw [hw2.1, ← hz.1] at e0
        refine aw_top e0 ?_
        refine aw_ic_ge (tgt := 66) dX6_play_38 (by decide) (fun _ => ?_) (fun z => absurd (nI_le (Nat.le_refl _) (by omega)) z)
        refine aw_aload_n dX6_play_66 rfl ?_
        refine aw_V0c (As := []) dX6_play_67 k6_57 rfl rfl rfl ⟨Nat.le_of_ble_eq_true rfl, Nat.le_of_ble_eq_true rfl⟩ (Nat.le_of_ble_eq_true rfl) ⟨⟨Nat.le_of_ble_eq_true rfl, Nat.le_of_ble_eq_true rfl⟩, ⟨Nat.le_of_ble_eq_true rfl, Nat.le_of_ble_eq_true rfl⟩⟩ ⟨rfl, rfl⟩ (w_soonest44 G (c := 60) hR (by rw [hw2.1]; omega) (fun j hj => by have := (hw2.2.2.2.1 j hj).1; omega)) (fun v h2 hq => ?_)
        obtain ⟨rfl, rfl⟩ := hq
        rw [hw2.1, ← hz.1]
        refine aw_istore_n (ls2 := [_, _, _, _, _]) dX6_play_70 (by decide) rfl rfl ?_
        refine aw_iinc_n (ls2 := [_, _, _, _, _]) dX6_play_71 rfl (by decide) rfl rfl ?_
        refine aw_goto (tgt := 12) dX6_play_74 (by decide) ?_
        refine aw_kill (j := 4) (ls2 := [_, _, _, _, aw_x]) rfl ?_
        have e : p_ev z t u x (i + 1) = p_sw (p_gather S h) t u x h (z 0 0) := by
          rw [p_ev, ← hS, ← hhd, if_pos hh, p_hour, hSw.1, hz.1]
        have h3 := ih I (by rw [e]; exact hR)
        rw [e] at h3
        exact h3
      · have hwj := (hSw.gather (h := h) (by omega)).sw (u := u) hXo hTo (h := h) (i := j) (by omega) (by omega)
        have hj8 : j < 8 := by omega
        refine aw_iload dX6_play_32 rfl ?_
        refine aw_aload_n dX6_play_34 rfl ?_
        refine aw_getI dX6_play_35 f6_9 rfl ⟨Nat.le_of_ble_eq_true rfl, Nat.le_of_ble_eq_true rfl⟩ rfl ?_
        have e0 : _ = nI (p_sw (p_gather S h) t u x h j 0 0) := hR.at0 0 (Or.inl rfl)
        rw [hwj.1, ← hz.1] at e0
        refine aw_top e0 ?_
        refine aw_ic_ge (tgt := 66) dX6_play_38 (by decide) (fun z => absurd z (nI_ge hj (by omega))) (fun _ => ?_)
        refine aw_aload_n dX6_play_41 rfl ?_
        refine aw_getR dX6_play_42 f6_15 rfl ⟨Nat.le_of_ble_eq_true rfl, Nat.le_of_ble_eq_true rfl⟩ rfl rfl ?_
        refine aw_iload dX6_play_45 rfl ?_
        refine aw_iald_n dX6_play_47 rfl (Nat.le_of_ble_eq_true rfl) (by decide) hj8 ?_
        have e1 := hR.at 1 j (by decide) (by decide) (by decide) (by omega)
        refine aw_top e1 ?_
        have hb1 := (hwj.2.2.2.1 j hj8).1
        refine aw_iload_n dX6_play_48 rfl ?_
        refine aw_ic_ne (tgt := 60) dX6_play_49 (by decide) (fun c49 => ?_) (fun c49 => ?_)
        · refine aw_iinc_n (ls2 := [_, _, _, _, _]) dX6_play_60 rfl (by decide) rfl rfl ?_
          refine aw_goto (tgt := 32) dX6_play_63 (by decide) ?_
          refine jh I ?_
          have n1 : ¬ p_sw (p_gather S h) t u x h j 1 j = h := fun z => c49 (by rw [z]; rfl)
          rw [p_sw, if_neg n1]
          exact hR
        · have he : p_sw (p_gather S h) t u x h j 1 j = h := (zi_eq (by omega) (by omega)).mp c49
          have hst := (hwj.2.2.1 j (by omega)).1 (by omega)
          refine aw_aload_n dX6_play_52 rfl ?_
          refine aw_aload_n dX6_play_53 rfl ?_
          refine aw_iload dX6_play_54 rfl ?_
          refine aw_iload_n dX6_play_56 rfl ?_
          refine aw_V0c (As := [_, _, _]) dX6_play_57 k6_65 rfl rfl rfl ⟨Nat.le_of_ble_eq_true rfl, Nat.le_of_ble_eq_true rfl⟩ (Nat.le_of_ble_eq_true rfl) ⟨⟨Nat.le_of_ble_eq_true rfl, Nat.le_of_ble_eq_true rfl⟩, ⟨Nat.le_of_ble_eq_true rfl, Nat.le_of_ble_eq_true rfl⟩⟩ ⟨rfl, rfl⟩ (w_settleC G hR hT hX hU hj8 (show h < 1000 by omega) hst (by have := (hwj.2.2.2.1 j hj8).2.2.2; omega) (hwj.2.2.2.1 j hj8).2.2.1 (hTo.2.2 j hj8).2.1 (fun j hj => (hXo j hj).2) (fun j hj => (hXo j hj).1) (hTo.2.2 j hj8).2.2.2.2.1 (hwj.2.2.1 j (by omega)).2 (hTo.2.2 j hj8).2.2.2.1 (by have := hwj.2.2.2.2 (p_sw (p_gather S h) t u x h j 5 j); omega) (by rw [hpr j]; have := hpr3 _ (hwj.2.2.2.1 j hj8).2.2.1; omega) (Nat.lt_trans (hTo.2.2 j hj8).2.2.1 (by decide)) hTo.2.1 hUo.1 hUo.2) (fun v h2 hq => ?_)
          obtain ⟨rfl, I2, rfl, hR2⟩ := hq
          refine aw_iinc_n (ls2 := [_, _, _, _, _]) dX6_play_60 rfl (by decide) rfl rfl ?_
          refine aw_goto (tgt := 32) dX6_play_63 (by decide) ?_
          refine jh I2 ?_
          rw [p_sw, if_pos he]
          exact hR2
