theorem zi_minI {a b : Nat} (ha : a < 100000) (hb : b < 100000) : (if nI a < nI b then nI a else nI b) = nI (if a < b then a else b) := by
  by_cases h : a < b
  · rw [if_pos h, if_pos ((zi_lt ha hb).mpr h)]
  · rw [if_neg h, if_neg (fun z => h ((zi_lt ha hb).mp z))]
theorem w_soonest22 (G : aw_G) {n c : Nat} {I I0 : Nat → Nat → Int32} {L : Nat → Nat → Int64} {s : Nat → Nat → Nat} (hR : zRun s 22 I0 I) (hk : s 0 0 ≤ 8) (hb : ∀ j, j < 8 → s 1 j < 100000) : aw_Met G mX6_soonest [.ref 22] (zH n I L c) (fun v h2 => v = some (.int (nI (p_min (s 1) (s 0 0)))) ∧ h2 = zH n I L c) := by
  have e0 : I 22 0 = nI (s 0 0) := hR.at0 0 (Or.inl rfl)
  refine aw_Met.of okX6_soonest (Nat.le_of_ble_eq_true rfl) ?_
  show aw_W G mX6_soonest 0 [.ref 22, aw_x, aw_x] [] (zH n I L c) (0, 0) _
  refine aw_sipush (v := 1000) dX6_soonest_0 (by decide) ?_
  refine aw_istore_n (ls2 := [_, _, _]) dX6_soonest_3 (by decide) rfl rfl ?_
  refine aw_iconst (v := 0) dX6_soonest_4 rfl ?_
  refine aw_istore_n (ls2 := [_, _, _]) dX6_soonest_5 (by decide) rfl rfl ?_
  refine aw_up (X := fun i => aw_W G mX6_soonest 6 [.ref 22, .int (nI (p_min (s 1) i)), .int (nI i)] [] (zH n I L c) (0, 0) _) (Nat.zero_le (s 0 0)) ?_ (fun i _ hi ih => ?_)
  · refine aw_iload_n dX6_soonest_6 rfl ?_
    refine aw_aload_n dX6_soonest_7 rfl ?_
    refine aw_getI dX6_soonest_8 f6_9 rfl ⟨Nat.le_of_ble_eq_true rfl, Nat.le_of_ble_eq_true rfl⟩ rfl ?_
    refine aw_top e0 ?_
    refine aw_ic_ge (tgt := 31) dX6_soonest_11 (by decide) (fun _ => ?_) (fun z => absurd (nI_le (Nat.le_refl _) (by omega)) z)
    refine aw_iload_n dX6_soonest_31 rfl ?_
    refine aw_reti dX6_soonest_32 rfl rfl ⟨Nat.le_of_ble_eq_true rfl, Nat.le_of_ble_eq_true rfl⟩ ?_
    exact ⟨rfl, rfl⟩
  · refine aw_iload_n dX6_soonest_6 rfl ?_
    refine aw_aload_n dX6_soonest_7 rfl ?_
    refine aw_getI dX6_soonest_8 f6_9 rfl ⟨Nat.le_of_ble_eq_true rfl, Nat.le_of_ble_eq_true rfl⟩ rfl ?_
    refine aw_top e0 ?_
    refine aw_ic_ge (tgt := 31) dX6_soonest_11 (by decide) (fun z => absurd z (nI_ge hi (by omega))) (fun _ => ?_)
    refine aw_iload_n dX6_soonest_14 rfl ?_
    refine aw_aload_n dX6_soonest_15 rfl ?_
    refine aw_getR dX6_soonest_16 f6_15 rfl ⟨Nat.le_of_ble_eq_true rfl, Nat.le_of_ble_eq_true rfl⟩ rfl rfl ?_
    refine aw_iload_n dX6_soonest_19 rfl ?_
    refine aw_iald_n dX6_soonest_20 rfl (Nat.le_of_ble_eq_true rfl) (by decide) (by omega) ?_
    refine aw_top (hR.at 1 i (by decide) (by decide) (by decide) (by omega)) ?_
    refine aw_min dX6_soonest_21 mm6_84 ⟨Nat.le_of_ble_eq_true rfl, Nat.le_of_ble_eq_true rfl⟩ ⟨Nat.le_of_ble_eq_true rfl, Nat.le_of_ble_eq_true rfl⟩ ?_
    refine aw_top (y := nI (p_min (s 1) (i + 1))) (by rw [p_min]; exact zi_minI (hb i (by omega)) (Nat.lt_of_le_of_lt p_min_le (by decide))) ?_
    refine aw_istore_n (ls2 := [_, _, _]) dX6_soonest_24 (by decide) rfl rfl ?_
    refine aw_iinc_n (ls2 := [_, _, _]) dX6_soonest_25 rfl (by decide) rfl rfl ?_
    refine aw_goto (tgt := 6) dX6_soonest_28 (by decide) ?_
    exact ih
theorem w_gather22 (G : aw_G) {n c : Nat} {I I0 : Nat → Nat → Int32} {L : Nat → Nat → Int64} {s : Nat → Nat → Nat} (hR : zRun s 22 I0 I) {h : Nat} (hk : s 0 0 ≤ 8) (hh : h < 900) (h10 : s 0 10 < 1000) (hb : ∀ j, j < 8 → s 1 j < 100000 ∧ s 7 j < 100000 ∧ s 5 j < 8) : aw_Met G mX6_gather [.ref 22, .int (nI h)] (zH n I L c) (zPost n L c 22 I0 (p_gather s h)) := by
  refine aw_Met.of okX6_gather (Nat.le_of_ble_eq_true rfl) ?_
  show aw_W G mX6_gather 0 [.ref 22, .int (nI h), aw_x] [] (zH n I L c) (0, 0) _
  refine aw_iconst (v := 0) dX6_gather_0 rfl ?_
  refine aw_istore_n (ls2 := [_, _, _]) dX6_gather_1 (by decide) rfl rfl ?_
  refine aw_up (X := fun i => ∀ I, zRun (p_g1 s i) 22 I0 I → aw_W G mX6_gather 2 [.ref 22, .int (nI h), .int (nI i)] [] (zH n I L c) (0, 0) _) (Nat.zero_le 8) (fun I hR => ?_) (fun i _ hi ih I hR => ?_) _ hR
  · refine aw_iload_n dX6_gather_2 rfl ?_
    refine aw_bipush (v := 8) dX6_gather_3 (by decide) ?_
    refine aw_ic_ge (tgt := 21) dX6_gather_5 (by decide) (fun _ => ?_) (fun z => absurd (by decide) z)
    refine aw_iconst (v := 0) dX6_gather_21 rfl ?_
    refine aw_istore_n (ls2 := [_, _, _]) dX6_gather_22 (by decide) rfl rfl ?_
    refine aw_up (X := fun i => ∀ I, zRun (p_g2 (p_g1 s 8) h i) 22 I0 I → aw_W G mX6_gather 23 [.ref 22, .int (nI h), .int (nI i)] [] (zH n I L c) (0, 0) _) (Nat.zero_le (s 0 0)) (fun I hR => ?_) (fun i _ hi ih I hR => ?_) _ hR
    · refine aw_iload_n dX6_gather_23 rfl ?_
      refine aw_aload_n dX6_gather_24 rfl ?_
      refine aw_getI dX6_gather_25 f6_9 rfl ⟨Nat.le_of_ble_eq_true rfl, Nat.le_of_ble_eq_true rfl⟩ rfl ?_
      have e0 : _ = nI (p_g2 (p_g1 s 8) h (s 0 0) 0 0) := hR.at0 0 (Or.inl rfl)
      rw [p_g2_row (by decide), p_g1_row (by decide)] at e0
      refine aw_top e0 ?_
      refine aw_ic_ge (tgt := 72) dX6_gather_28 (by decide) (fun _ => ?_) (fun z => absurd (nI_le (Nat.le_refl _) (by omega)) z)
      refine aw_iconst (v := 0) dX6_gather_72 rfl ?_
      refine aw_istore_n (ls2 := [_, _, _]) dX6_gather_73 (by decide) rfl rfl ?_
      obtain ⟨z2, hz2⟩ : ∃ z, z = p_g2 (p_g1 s 8) h (s 0 0) := ⟨_, rfl⟩
      have hz10 : z2 0 10 < 1000 := by rw [hz2, p_g2_row (by decide), p_g1_row (by decide)]; exact h10
      have hz3 : ∀ p, p < 8 → z2 3 p ≤ 8 := fun p hp => by rw [hz2]; exact Nat.le_trans (p_g2_le (fun p hp => p_g1_lt hp) hp) hk
      rw [p_gather, ← hz2]
      rw [← hz2] at hR
      refine aw_up (X := fun i => ∀ I, zRun (p_g3 z2 h i) 22 I0 I → aw_W G mX6_gather 74 [.ref 22, .int (nI h), .int (nI i)] [] (zH n I L c) (0, 0) _) (Nat.zero_le 8) (fun I hR => ?_) (fun i _ hi ih I hR => ?_) _ hR
      · refine aw_iload_n dX6_gather_74 rfl ?_
        refine aw_bipush (v := 8) dX6_gather_75 (by decide) ?_
        refine aw_ic_ge (tgt := 114) dX6_gather_77 (by decide) (fun _ => ?_) (fun z => absurd (by decide) z)
        refine aw_ret0 dX6_gather_114 rfl ⟨Nat.le_of_ble_eq_true rfl, Nat.le_of_ble_eq_true rfl⟩ ?_
        exact ⟨rfl, _, rfl, hR⟩
      · have h10 : p_g3 z2 h i 0 10 < 1000 := p_g3_10 hz10 hh
        have hlt : p_g3 z2 h i 3 i < 100000 := by rw [p_g3_row (by decide)]; exact Nat.lt_of_le_of_lt (hz3 i hi) (by decide)
        refine aw_iload_n dX6_gather_74 rfl ?_
        refine aw_bipush (v := 8) dX6_gather_75 (by decide) ?_
        refine aw_ic_ge (tgt := 114) dX6_gather_77 (by decide) (fun z => absurd z (nI_ge (b := 8) hi (by decide))) (fun _ => ?_)
        refine aw_aload_n dX6_gather_80 rfl ?_
        refine aw_getI dX6_gather_81 f6_47 rfl ⟨Nat.le_of_ble_eq_true rfl, Nat.le_of_ble_eq_true rfl⟩ rfl ?_
        have e10 := hR.at0 10 (by decide)
        refine aw_top e10 ?_
        refine aw_iconst (v := -1) dX6_gather_84 rfl ?_
        refine aw_ic_ne (tgt := 114) dX6_gather_85 (by decide) (fun c85 => ?_) (fun c85 => ?_)
        · have hne : p_g3 z2 h i 0 10 ≠ 0 := fun z => c85 ((zi_none (by omega)).mpr z)
          have e8 : p_g3 z2 h 8 = p_g3 z2 h i := by
            have := p_g3_stop hne (8 - i)
            rw [show i + (8 - i) = 8 by omega] at this; exact this
          refine aw_ret0 dX6_gather_114 rfl ⟨Nat.le_of_ble_eq_true rfl, Nat.le_of_ble_eq_true rfl⟩ ?_
          exact ⟨rfl, _, rfl, by rw [e8]; exact hR⟩
        · have h0 : p_g3 z2 h i 0 10 = 0 := (zi_none (by omega)).mp c85
          refine aw_aload_n dX6_gather_88 rfl ?_
          refine aw_getR dX6_gather_89 f6_22 rfl ⟨Nat.le_of_ble_eq_true rfl, Nat.le_of_ble_eq_true rfl⟩ rfl rfl ?_
          refine aw_iload_n dX6_gather_92 rfl ?_
          refine aw_iald_n dX6_gather_93 rfl (Nat.le_of_ble_eq_true rfl) (by decide) hi ?_
          have e3 := hR.at 3 i (by decide) (by decide) (by decide) (by omega)
          refine aw_top e3 ?_
          refine aw_iconst (v := 1) dX6_gather_94 rfl ?_
          refine aw_ic_le (tgt := 108) dX6_gather_95 (by decide) (fun c95 => ?_) (fun c95 => ?_)
          · refine aw_iinc_n (ls2 := [_, _, _]) dX6_gather_108 rfl (by decide) rfl rfl ?_
            refine aw_goto (tgt := 74) dX6_gather_111 (by decide) ?_
            refine ih _ ?_
            have c95 := (zi_le (b := 1) hlt (by decide)).mp c95
            rw [p_g3, if_neg (by omega)]
            exact hR
          · refine aw_aload_n dX6_gather_98 rfl ?_
            refine aw_iload_n dX6_gather_99 rfl ?_
            refine aw_putI dX6_gather_100 f6_47 rfl ⟨Nat.le_of_ble_eq_true rfl, Nat.le_of_ble_eq_true rfl⟩ (Or.inl rfl) rfl ?_
            refine aw_aload_n dX6_gather_103 rfl ?_
            refine aw_iload_n dX6_gather_104 rfl ?_
            refine aw_putI dX6_gather_105 f6_50 rfl ⟨Nat.le_of_ble_eq_true rfl, Nat.le_of_ble_eq_true rfl⟩ (Or.inl rfl) rfl ?_
            refine aw_iinc_n (ls2 := [_, _, _]) dX6_gather_108 rfl (by decide) rfl rfl ?_
            refine aw_goto (tgt := 74) dX6_gather_111 (by decide) ?_
            refine ih _ ?_
            have c95 : ¬ p_g3 z2 h i 3 i ≤ 1 := fun z => c95 ((zi_le (b := 1) hlt (by decide)).mpr z)
            rw [p_g3, if_pos ⟨h0, by omega⟩]
            exact (hR.uM (j := 10) (v := h) (by decide)).uM (j := 11) (v := i) (by decide)
    · have hi8 : i < 8 := by omega
      have e1 := hR.at 1 i (by decide) (by decide) (by decide) (by omega)
      have e7 := hR.at 7 i (by decide) (by decide) (by decide) (by omega)
      have e5 := hR.at 5 i (by decide) (by decide) (by decide) (by omega)
      have h1 : p_g2 (p_g1 s 8) h i 1 i < 100000 := by rw [p_g2_row (by decide), p_g1_row (by decide)]; exact (hb i hi8).1
      have h7 : p_g2 (p_g1 s 8) h i 7 i < 100000 := by rw [p_g2_row (by decide), p_g1_row (by decide)]; exact (hb i hi8).2.1
      have h5 : p_g2 (p_g1 s 8) h i 5 i < 8 := by rw [p_g2_row (by decide), p_g1_row (by decide)]; exact (hb i hi8).2.2
      refine aw_iload_n dX6_gather_23 rfl ?_
      refine aw_aload_n dX6_gather_24 rfl ?_
      refine aw_getI dX6_gather_25 f6_9 rfl ⟨Nat.le_of_ble_eq_true rfl, Nat.le_of_ble_eq_true rfl⟩ rfl ?_
      have e0 : _ = nI (p_g2 (p_g1 s 8) h i 0 0) := hR.at0 0 (Or.inl rfl)
      rw [p_g2_row (by decide), p_g1_row (by decide)] at e0
      refine aw_top e0 ?_
      refine aw_ic_ge (tgt := 72) dX6_gather_28 (by decide) (fun z => absurd z (nI_ge hi (by omega))) (fun _ => ?_)
      refine aw_aload_n dX6_gather_31 rfl ?_
      refine aw_getR dX6_gather_32 f6_15 rfl ⟨Nat.le_of_ble_eq_true rfl, Nat.le_of_ble_eq_true rfl⟩ rfl rfl ?_
      refine aw_iload_n dX6_gather_35 rfl ?_
      refine aw_iald_n dX6_gather_36 rfl (Nat.le_of_ble_eq_true rfl) (by decide) (by omega) ?_
      refine aw_top e1 ?_
      refine aw_iload_n dX6_gather_37 rfl ?_
      refine aw_ic_eq (tgt := 51) dX6_gather_38 (by decide) (fun c38 => ?_) (fun c38 => ?_)
      · refine aw_aload_n dX6_gather_51 rfl ?_
        refine aw_getR dX6_gather_52 f6_22 rfl ⟨Nat.le_of_ble_eq_true rfl, Nat.le_of_ble_eq_true rfl⟩ rfl rfl ?_
        refine aw_aload_n dX6_gather_55 rfl ?_
        refine aw_getR dX6_gather_56 f6_28 rfl ⟨Nat.le_of_ble_eq_true rfl, Nat.le_of_ble_eq_true rfl⟩ rfl rfl ?_
        refine aw_iload_n dX6_gather_59 rfl ?_
        refine aw_iald_n dX6_gather_60 rfl (Nat.le_of_ble_eq_true rfl) (by decide) (by omega) ?_
        refine aw_top e5 ?_
        refine aw_dup2 dX6_gather_61 rfl rfl ?_
        refine aw_iald_n dX6_gather_62 rfl (Nat.le_of_ble_eq_true rfl) (by decide) h5 ?_
        refine aw_top (hR.at 3 _ (by decide) (by decide) (by decide) (by omega)) ?_
        refine aw_iconst (v := 1) dX6_gather_63 rfl ?_
        refine aw_iadd dX6_gather_64 ?_
        refine aw_top (nI_1 _) ?_
        refine aw_iast_n dX6_gather_65 rfl ⟨Nat.le_of_ble_eq_true rfl, Nat.le_of_ble_eq_true rfl⟩ (by decide) h5 ?_
        refine aw_iinc_n (ls2 := [_, _, _]) dX6_gather_66 rfl (by decide) rfl rfl ?_
        refine aw_goto (tgt := 23) dX6_gather_69 (by decide) ?_
        refine ih _ ?_
        rw [p_g2, if_pos (Or.inl ((zi_eq (by omega) (by omega)).mp c38))]
        exact hR.u (i := 3) (by decide)
      · refine aw_aload_n dX6_gather_41 rfl ?_
        refine aw_getR dX6_gather_42 f6_34 rfl ⟨Nat.le_of_ble_eq_true rfl, Nat.le_of_ble_eq_true rfl⟩ rfl rfl ?_
        refine aw_iload_n dX6_gather_45 rfl ?_
        refine aw_iald_n dX6_gather_46 rfl (Nat.le_of_ble_eq_true rfl) (by decide) (by omega) ?_
        refine aw_top e7 ?_
        refine aw_iconst (v := -1) dX6_gather_47 rfl ?_
        refine aw_ic_eq (tgt := 66) dX6_gather_48 (by decide) (fun c48 => ?_) (fun c48 => ?_)
        · refine aw_iinc_n (ls2 := [_, _, _]) dX6_gather_66 rfl (by decide) rfl rfl ?_
          refine aw_goto (tgt := 23) dX6_gather_69 (by decide) ?_
          refine ih _ ?_
          have n1 : ¬ p_g2 (p_g1 s 8) h i 1 i = h := fun z => c38 (by rw [z]; rfl)
          have n7 : p_g2 (p_g1 s 8) h i 7 i = 0 := (zi_none (by omega)).mp c48
          rw [p_g2, if_neg (fun z => z.elim n1 (fun y => y n7))]
          exact hR
        · refine aw_aload_n dX6_gather_51 rfl ?_
          refine aw_getR dX6_gather_52 f6_22 rfl ⟨Nat.le_of_ble_eq_true rfl, Nat.le_of_ble_eq_true rfl⟩ rfl rfl ?_
          refine aw_aload_n dX6_gather_55 rfl ?_
          refine aw_getR dX6_gather_56 f6_28 rfl ⟨Nat.le_of_ble_eq_true rfl, Nat.le_of_ble_eq_true rfl⟩ rfl rfl ?_
          refine aw_iload_n dX6_gather_59 rfl ?_
          refine aw_iald_n dX6_gather_60 rfl (Nat.le_of_ble_eq_true rfl) (by decide) (by omega) ?_
          refine aw_top e5 ?_
          refine aw_dup2 dX6_gather_61 rfl rfl ?_
          refine aw_iald_n dX6_gather_62 rfl (Nat.le_of_ble_eq_true rfl) (by decide) h5 ?_
          refine aw_top (hR.at 3 _ (by decide) (by decide) (by decide) (by omega)) ?_
          refine aw_iconst (v := 1) dX6_gather_63 rfl ?_
          refine aw_iadd dX6_gather_64 ?_
          refine aw_top (nI_1 _) ?_
          refine aw_iast_n dX6_gather_65 rfl ⟨Nat.le_of_ble_eq_true rfl, Nat.le_of_ble_eq_true rfl⟩ (by decide) h5 ?_
          refine aw_iinc_n (ls2 := [_, _, _]) dX6_gather_66 rfl (by decide) rfl rfl ?_
          refine aw_goto (tgt := 23) dX6_gather_69 (by decide) ?_
          refine ih _ ?_
          rw [p_g2, if_pos (Or.inr (fun z => c48 ((zi_none (by omega)).mpr z)))]
          exact hR.u (i := 3) (by decide)
  · refine aw_iload_n dX6_gather_2 rfl ?_
    refine aw_bipush (v := 8) dX6_gather_3 (by decide) ?_
    refine aw_ic_ge (tgt := 21) dX6_gather_5 (by decide) (fun z => absurd z (nI_ge (b := 8) hi (by decide))) (fun _ => ?_)
    refine aw_aload_n dX6_gather_8 rfl ?_
    refine aw_getR dX6_gather_9 f6_22 rfl ⟨Nat.le_of_ble_eq_true rfl, Nat.le_of_ble_eq_true rfl⟩ rfl rfl ?_
    refine aw_iload_n dX6_gather_12 rfl ?_
    refine aw_iconst (v := 0) dX6_gather_13 rfl ?_
    refine aw_iast_n dX6_gather_14 rfl ⟨Nat.le_of_ble_eq_true rfl, Nat.le_of_ble_eq_true rfl⟩ (by decide) hi ?_
    refine aw_iinc_n (ls2 := [_, _, _]) dX6_gather_15 rfl (by decide) rfl rfl ?_
    refine aw_goto (tgt := 2) dX6_gather_18 (by decide) ?_
    exact ih _ (hR.u (i := 3) (v := 0) (by decide))
theorem w_begin22 (G : aw_G) {n c : Nat} {I I0 : Nat → Nat → Int32} {L : Nat → Nat → Int64} {s : Nat → Nat → Nat} (hR : zRun s 22 I0 I) {t : Nat → Nat → Nat} (hT : zSet t 11 16 I0) (hk : t 6 0 ≤ 8) : aw_Met G mX6_begin [.ref 22, .ref 11] (zH n I L c) (zPost n L c 22 I0 (p_begin s t)) := by
  refine aw_Met.of okX6_begin (Nat.le_of_ble_eq_true rfl) ?_
  show aw_W G mX6_begin 0 [.ref 22, .ref 11, aw_x] [] (zH n I L c) (0, 0) _
  refine aw_aload_n dX6_begin_0 rfl ?_
  refine aw_aload_n dX6_begin_1 rfl ?_
  refine aw_getI dX6_begin_2 f6_69 rfl ⟨Nat.le_of_ble_eq_true rfl, Nat.le_of_ble_eq_true rfl⟩ rfl ?_
  refine aw_top (hT.mv hR (by decide) (by decide)).2.1 ?_
  refine aw_putI dX6_begin_5 f6_9 rfl ⟨Nat.le_of_ble_eq_true rfl, Nat.le_of_ble_eq_true rfl⟩ (Or.inl rfl) rfl ?_
  refine aw_aload_n dX6_begin_8 rfl ?_
  refine aw_iconst (v := -1) dX6_begin_9 rfl ?_
  refine aw_top (show (-1 : Int32) = nI 0 - 1 from rfl) ?_
  refine aw_putI dX6_begin_10 f6_47 rfl ⟨Nat.le_of_ble_eq_true rfl, Nat.le_of_ble_eq_true rfl⟩ (Or.inl rfl) rfl ?_
  refine aw_aload_n dX6_begin_13 rfl ?_
  refine aw_iconst (v := -1) dX6_begin_14 rfl ?_
  refine aw_top (show (-1 : Int32) = nI 0 - 1 from rfl) ?_
  refine aw_putI dX6_begin_15 f6_50 rfl ⟨Nat.le_of_ble_eq_true rfl, Nat.le_of_ble_eq_true rfl⟩ (Or.inl rfl) rfl ?_
  refine aw_iconst (v := 0) dX6_begin_18 rfl ?_
  refine aw_istore_n (ls2 := [_, _, _]) dX6_begin_19 (by decide) rfl rfl ?_
  refine aw_up (X := fun i => ∀ I, zRun (p_b1 (aw_u (aw_u (aw_u s 0 0 (t 6 0)) 0 10 0) 0 11 0) i) 22 I0 I → aw_W G mX6_begin 20 [.ref 22, .ref 11, .int (nI i)] [] (zH n I L c) (0, 0) _) (Nat.zero_le 8) (fun I hR => ?_) (fun i _ hi ih I hR => ?_) _ (((hR.u (i := 0) (j := 0) (v := t 6 0) (by decide)).u (i := 0) (j := 10) (v := 0) (by decide)).u (i := 0) (j := 11) (v := 0) (by decide))
  · refine aw_iload_n dX6_begin_20 rfl ?_
    refine aw_bipush (v := 8) dX6_begin_21 (by decide) ?_
    refine aw_ic_ge (tgt := 39) dX6_begin_23 (by decide) (fun _ => ?_) (fun z => absurd (by decide) z)
    refine aw_iconst (v := 0) dX6_begin_39 rfl ?_
    refine aw_istore_n (ls2 := [_, _, _]) dX6_begin_40 (by decide) rfl rfl ?_
    refine aw_up (X := fun i => ∀ I, zRun (p_b2 (p_b1 (aw_u (aw_u (aw_u s 0 0 (t 6 0)) 0 10 0) 0 11 0) 8) t i) 22 I0 I → aw_W G mX6_begin 41 [.ref 22, .ref 11, .int (nI i)] [] (zH n I L c) (0, 0) _) (Nat.zero_le (t 6 0)) (fun I hR => ?_) (fun i _ hi ih I hR => ?_) _ hR
    · refine aw_iload_n dX6_begin_41 rfl ?_
      refine aw_aload_n dX6_begin_42 rfl ?_
      refine aw_getI dX6_begin_43 f6_9 rfl ⟨Nat.le_of_ble_eq_true rfl, Nat.le_of_ble_eq_true rfl⟩ rfl ?_
      have e0 : _ = nI (p_b2 (p_b1 (aw_u (aw_u (aw_u s 0 0 (t 6 0)) 0 10 0) 0 11 0) 8) t (t 6 0) 0 0) := hR.at0 0 (Or.inl rfl)
      rw [p_b2_0, p_b1_row (by decide), aw_u_nj (by decide), aw_u_nj (by decide), aw_u_eq] at e0
      refine aw_top e0 ?_
      refine aw_ic_ge (tgt := 121) dX6_begin_46 (by decide) (fun _ => ?_) (fun z => absurd (nI_le (Nat.le_refl _) (by omega)) z)
      refine aw_ret0 dX6_begin_121 rfl ⟨Nat.le_of_ble_eq_true rfl, Nat.le_of_ble_eq_true rfl⟩ ?_
      exact ⟨rfl, _, rfl, hR⟩
    · have hT1 := hT.mv hR (by decide) (by decide)
      refine aw_iload_n dX6_begin_41 rfl ?_
      refine aw_aload_n dX6_begin_42 rfl ?_
      refine aw_getI dX6_begin_43 f6_9 rfl ⟨Nat.le_of_ble_eq_true rfl, Nat.le_of_ble_eq_true rfl⟩ rfl ?_
      have e0 : _ = nI (p_b2 (p_b1 (aw_u (aw_u (aw_u s 0 0 (t 6 0)) 0 10 0) 0 11 0) 8) t i 0 0) := hR.at0 0 (Or.inl rfl)
      rw [p_b2_0, p_b1_row (by decide), aw_u_nj (by decide), aw_u_nj (by decide), aw_u_eq] at e0
      refine aw_top e0 ?_
      refine aw_ic_ge (tgt := 121) dX6_begin_46 (by decide) (fun z => absurd z (nI_ge hi (by omega))) (fun _ => ?_)
      refine aw_aload_n dX6_begin_49 rfl ?_
      refine aw_getR dX6_begin_50 f6_15 rfl ⟨Nat.le_of_ble_eq_true rfl, Nat.le_of_ble_eq_true rfl⟩ rfl rfl ?_
      refine aw_iload_n dX6_begin_53 rfl ?_
      refine aw_aload_n dX6_begin_54 rfl ?_
      refine aw_getR dX6_begin_55 f6_72 rfl ⟨Nat.le_of_ble_eq_true rfl, Nat.le_of_ble_eq_true rfl⟩ rfl rfl ?_
      refine aw_iload_n dX6_begin_58 rfl ?_
      refine aw_iald_n dX6_begin_59 rfl (Nat.le_of_ble_eq_true rfl) (by decide) (by omega) ?_
      refine aw_top (hT1.1 5 i (by decide) (by omega)) ?_
      refine aw_iast_n dX6_begin_60 rfl ⟨Nat.le_of_ble_eq_true rfl, Nat.le_of_ble_eq_true rfl⟩ (by decide) (by omega) ?_
      refine aw_aload_n dX6_begin_61 rfl ?_
      refine aw_getR dX6_begin_62 f6_28 rfl ⟨Nat.le_of_ble_eq_true rfl, Nat.le_of_ble_eq_true rfl⟩ rfl rfl ?_
      refine aw_iload_n dX6_begin_65 rfl ?_
      refine aw_aload_n dX6_begin_66 rfl ?_
      refine aw_getR dX6_begin_67 f6_75 rfl ⟨Nat.le_of_ble_eq_true rfl, Nat.le_of_ble_eq_true rfl⟩ rfl rfl ?_
      refine aw_iload_n dX6_begin_70 rfl ?_
      refine aw_iald_n dX6_begin_71 rfl (Nat.le_of_ble_eq_true rfl) (by decide) (by omega) ?_
      refine aw_top (hT1.1 0 i (by decide) (by omega)) ?_
      refine aw_iast_n dX6_begin_72 rfl ⟨Nat.le_of_ble_eq_true rfl, Nat.le_of_ble_eq_true rfl⟩ (by decide) (by omega) ?_
      refine aw_aload_n dX6_begin_73 rfl ?_
      refine aw_getR dX6_begin_74 f6_19 rfl ⟨Nat.le_of_ble_eq_true rfl, Nat.le_of_ble_eq_true rfl⟩ rfl rfl ?_
      refine aw_iload_n dX6_begin_77 rfl ?_
      refine aw_aload_n dX6_begin_78 rfl ?_
      refine aw_getR dX6_begin_79 f6_78 rfl ⟨Nat.le_of_ble_eq_true rfl, Nat.le_of_ble_eq_true rfl⟩ rfl rfl ?_
      refine aw_iload_n dX6_begin_82 rfl ?_
      refine aw_iald_n dX6_begin_83 rfl (Nat.le_of_ble_eq_true rfl) (by decide) (by omega) ?_
      refine aw_top (hT1.1 3 i (by decide) (by omega)) ?_
      refine aw_iast_n dX6_begin_84 rfl ⟨Nat.le_of_ble_eq_true rfl, Nat.le_of_ble_eq_true rfl⟩ (by decide) (by omega) ?_
      refine aw_aload_n dX6_begin_85 rfl ?_
      refine aw_getR dX6_begin_86 f6_31 rfl ⟨Nat.le_of_ble_eq_true rfl, Nat.le_of_ble_eq_true rfl⟩ rfl rfl ?_
      refine aw_iload_n dX6_begin_89 rfl ?_
      refine aw_iconst (v := 1) dX6_begin_90 rfl ?_
      refine aw_iast_n dX6_begin_91 rfl ⟨Nat.le_of_ble_eq_true rfl, Nat.le_of_ble_eq_true rfl⟩ (by decide) (by omega) ?_
      refine aw_aload_n dX6_begin_92 rfl ?_
      refine aw_getR dX6_begin_93 f6_34 rfl ⟨Nat.le_of_ble_eq_true rfl, Nat.le_of_ble_eq_true rfl⟩ rfl rfl ?_
      refine aw_iload_n dX6_begin_96 rfl ?_
      refine aw_iconst (v := -1) dX6_begin_97 rfl ?_
      refine aw_top (show (-1 : Int32) = nI 0 - 1 from rfl) ?_
      refine aw_iast_n dX6_begin_98 rfl ⟨Nat.le_of_ble_eq_true rfl, Nat.le_of_ble_eq_true rfl⟩ (by decide) (by omega) ?_
      refine aw_aload_n dX6_begin_99 rfl ?_
      refine aw_getR dX6_begin_100 f6_37 rfl ⟨Nat.le_of_ble_eq_true rfl, Nat.le_of_ble_eq_true rfl⟩ rfl rfl ?_
      refine aw_iload_n dX6_begin_103 rfl ?_
      refine aw_bipush (v := 100) dX6_begin_104 (by decide) ?_
      refine aw_iast_n dX6_begin_106 rfl ⟨Nat.le_of_ble_eq_true rfl, Nat.le_of_ble_eq_true rfl⟩ (by decide) (by omega) ?_
      refine aw_aload_n dX6_begin_107 rfl ?_
      refine aw_getR dX6_begin_108 f6_43 rfl ⟨Nat.le_of_ble_eq_true rfl, Nat.le_of_ble_eq_true rfl⟩ rfl rfl ?_
      refine aw_iload_n dX6_begin_111 rfl ?_
      refine aw_V0c (As := [_]) dX6_begin_112 k6_81 rfl rfl rfl ⟨Nat.le_of_ble_eq_true rfl, Nat.le_of_ble_eq_true rfl⟩ (Nat.le_of_ble_eq_true rfl) ⟨⟨Nat.le_of_ble_eq_true rfl, Nat.le_of_ble_eq_true rfl⟩, ⟨Nat.le_of_ble_eq_true rfl, Nat.le_of_ble_eq_true rfl⟩⟩ ⟨rfl, rfl⟩ (w_clear22 G ((((((hR.u (i := 1) (j := i) (v := t 5 i) (by decide)).u (i := 5) (j := i) (v := t 0 i) (by decide)).u (i := 2) (j := i) (v := t 3 i) (by decide)).u (i := 6) (j := i) (v := 1) (by decide)).u (i := 7) (j := i) (v := 0) (by decide)).u (i := 8) (j := i) (v := 100) (by decide)) (show i < 8 by omega)) (fun v h2 hq => ?_)
      obtain ⟨rfl, I2, rfl, hR2⟩ := hq
      refine aw_iinc_n (ls2 := [_, _, _]) dX6_begin_115 rfl (by decide) rfl rfl ?_
      refine aw_goto (tgt := 41) dX6_begin_118 (by decide) ?_
      exact ih I2 hR2
  · refine aw_iload_n dX6_begin_20 rfl ?_
    refine aw_bipush (v := 8) dX6_begin_21 (by decide) ?_
    refine aw_ic_ge (tgt := 39) dX6_begin_23 (by decide) (fun z => absurd z (nI_ge (b := 8) hi (by decide))) (fun _ => ?_)
    refine aw_aload_n dX6_begin_26 rfl ?_
    refine aw_getR dX6_begin_27 f6_25 rfl ⟨Nat.le_of_ble_eq_true rfl, Nat.le_of_ble_eq_true rfl⟩ rfl rfl ?_
    refine aw_iload_n dX6_begin_30 rfl ?_
    refine aw_iconst (v := 0) dX6_begin_31 rfl ?_
    refine aw_iast_n dX6_begin_32 rfl ⟨Nat.le_of_ble_eq_true rfl, Nat.le_of_ble_eq_true rfl⟩ (by decide) hi ?_
    refine aw_iinc_n (ls2 := [_, _, _]) dX6_begin_33 rfl (by decide) rfl rfl ?_
    refine aw_goto (tgt := 20) dX6_begin_36 (by decide) ?_
    exact ih _ (hR.u (i := 4) (v := 0) (by decide))
theorem w_soonest44 (G : aw_G) {n c : Nat} {I I0 : Nat → Nat → Int32} {L : Nat → Nat → Int64} {s : Nat → Nat → Nat} (hR : zRun s 44 I0 I) (hk : s 0 0 ≤ 8) (hb : ∀ j, j < 8 → s 1 j < 100000) : aw_Met G mX6_soonest [.ref 44] (zH n I L c) (fun v h2 => v = some (.int (nI (p_min (s 1) (s 0 0)))) ∧ h2 = zH n I L c) := by
  have e0 : I 44 0 = nI (s 0 0) := hR.at0 0 (Or.inl rfl)
  refine aw_Met.of okX6_soonest (Nat.le_of_ble_eq_true rfl) ?_
  show aw_W G mX6_soonest 0 [.ref 44, aw_x, aw_x] [] (zH n I L c) (0, 0) _
  refine aw_sipush (v := 1000) dX6_soonest_0 (by decide) ?_
  refine aw_istore_n (ls2 := [_, _, _]) dX6_soonest_3 (by decide) rfl rfl ?_
  refine aw_iconst (v := 0) dX6_soonest_4 rfl ?_
  refine aw_istore_n (ls2 := [_, _, _]) dX6_soonest_5 (by decide) rfl rfl ?_
  refine aw_up (X := fun i => aw_W G mX6_soonest 6 [.ref 44, .int (nI (p_min (s 1) i)), .int (nI i)] [] (zH n I L c) (0, 0) _) (Nat.zero_le (s 0 0)) ?_ (fun i _ hi ih => ?_)
  · refine aw_iload_n dX6_soonest_6 rfl ?_
    refine aw_aload_n dX6_soonest_7 rfl ?_
    refine aw_getI dX6_soonest_8 f6_9 rfl ⟨Nat.le_of_ble_eq_true rfl, Nat.le_of_ble_eq_true rfl⟩ rfl ?_
    refine aw_top e0 ?_
    refine aw_ic_ge (tgt := 31) dX6_soonest_11 (by decide) (fun _ => ?_) (fun z => absurd (nI_le (Nat.le_refl _) (by omega)) z)
    refine aw_iload_n dX6_soonest_31 rfl ?_
    refine aw_reti dX6_soonest_32 rfl rfl ⟨Nat.le_of_ble_eq_true rfl, Nat.le_of_ble_eq_true rfl⟩ ?_
    exact ⟨rfl, rfl⟩
  · refine aw_iload_n dX6_soonest_6 rfl ?_
    refine aw_aload_n dX6_soonest_7 rfl ?_
    refine aw_getI dX6_soonest_8 f6_9 rfl ⟨Nat.le_of_ble_eq_true rfl, Nat.le_of_ble_eq_true rfl⟩ rfl ?_
    refine aw_top e0 ?_
    refine aw_ic_ge (tgt := 31) dX6_soonest_11 (by decide) (fun z => absurd z (nI_ge hi (by omega))) (fun _ => ?_)
    refine aw_iload_n dX6_soonest_14 rfl ?_
    refine aw_aload_n dX6_soonest_15 rfl ?_
    refine aw_getR dX6_soonest_16 f6_15 rfl ⟨Nat.le_of_ble_eq_true rfl, Nat.le_of_ble_eq_true rfl⟩ rfl rfl ?_
    refine aw_iload_n dX6_soonest_19 rfl ?_
    refine aw_iald_n dX6_soonest_20 rfl (Nat.le_of_ble_eq_true rfl) (by decide) (by omega) ?_
    refine aw_top (hR.at 1 i (by decide) (by decide) (by decide) (by omega)) ?_
    refine aw_min dX6_soonest_21 mm6_84 ⟨Nat.le_of_ble_eq_true rfl, Nat.le_of_ble_eq_true rfl⟩ ⟨Nat.le_of_ble_eq_true rfl, Nat.le_of_ble_eq_true rfl⟩ ?_
    refine aw_top (y := nI (p_min (s 1) (i + 1))) (by rw [p_min]; exact zi_minI (hb i (by omega)) (Nat.lt_of_le_of_lt p_min_le (by decide))) ?_
    refine aw_istore_n (ls2 := [_, _, _]) dX6_soonest_24 (by decide) rfl rfl ?_
    refine aw_iinc_n (ls2 := [_, _, _]) dX6_soonest_25 rfl (by decide) rfl rfl ?_
    refine aw_goto (tgt := 6) dX6_soonest_28 (by decide) ?_
    exact ih
theorem w_gather44 (G : aw_G) {n c : Nat} {I I0 : Nat → Nat → Int32} {L : Nat → Nat → Int64} {s : Nat → Nat → Nat} (hR : zRun s 44 I0 I) {h : Nat} (hk : s 0 0 ≤ 8) (hh : h < 900) (h10 : s 0 10 < 1000) (hb : ∀ j, j < 8 → s 1 j < 100000 ∧ s 7 j < 100000 ∧ s 5 j < 8) : aw_Met G mX6_gather [.ref 44, .int (nI h)] (zH n I L c) (zPost n L c 44 I0 (p_gather s h)) := by
  refine aw_Met.of okX6_gather (Nat.le_of_ble_eq_true rfl) ?_
  show aw_W G mX6_gather 0 [.ref 44, .int (nI h), aw_x] [] (zH n I L c) (0, 0) _
  refine aw_iconst (v := 0) dX6_gather_0 rfl ?_
  refine aw_istore_n (ls2 := [_, _, _]) dX6_gather_1 (by decide) rfl rfl ?_
  refine aw_up (X := fun i => ∀ I, zRun (p_g1 s i) 44 I0 I → aw_W G mX6_gather 2 [.ref 44, .int (nI h), .int (nI i)] [] (zH n I L c) (0, 0) _) (Nat.zero_le 8) (fun I hR => ?_) (fun i _ hi ih I hR => ?_) _ hR
  · refine aw_iload_n dX6_gather_2 rfl ?_
    refine aw_bipush (v := 8) dX6_gather_3 (by decide) ?_
    refine aw_ic_ge (tgt := 21) dX6_gather_5 (by decide) (fun _ => ?_) (fun z => absurd (by decide) z)
    refine aw_iconst (v := 0) dX6_gather_21 rfl ?_
    refine aw_istore_n (ls2 := [_, _, _]) dX6_gather_22 (by decide) rfl rfl ?_
    refine aw_up (X := fun i => ∀ I, zRun (p_g2 (p_g1 s 8) h i) 44 I0 I → aw_W G mX6_gather 23 [.ref 44, .int (nI h), .int (nI i)] [] (zH n I L c) (0, 0) _) (Nat.zero_le (s 0 0)) (fun I hR => ?_) (fun i _ hi ih I hR => ?_) _ hR
    · refine aw_iload_n dX6_gather_23 rfl ?_
      refine aw_aload_n dX6_gather_24 rfl ?_
      refine aw_getI dX6_gather_25 f6_9 rfl ⟨Nat.le_of_ble_eq_true rfl, Nat.le_of_ble_eq_true rfl⟩ rfl ?_
      have e0 : _ = nI (p_g2 (p_g1 s 8) h (s 0 0) 0 0) := hR.at0 0 (Or.inl rfl)
      rw [p_g2_row (by decide), p_g1_row (by decide)] at e0
      refine aw_top e0 ?_
      refine aw_ic_ge (tgt := 72) dX6_gather_28 (by decide) (fun _ => ?_) (fun z => absurd (nI_le (Nat.le_refl _) (by omega)) z)
      refine aw_iconst (v := 0) dX6_gather_72 rfl ?_
      refine aw_istore_n (ls2 := [_, _, _]) dX6_gather_73 (by decide) rfl rfl ?_
      obtain ⟨z2, hz2⟩ : ∃ z, z = p_g2 (p_g1 s 8) h (s 0 0) := ⟨_, rfl⟩
      have hz10 : z2 0 10 < 1000 := by rw [hz2, p_g2_row (by decide), p_g1_row (by decide)]; exact h10
      have hz3 : ∀ p, p < 8 → z2 3 p ≤ 8 := fun p hp => by rw [hz2]; exact Nat.le_trans (p_g2_le (fun p hp => p_g1_lt hp) hp) hk
      rw [p_gather, ← hz2]
      rw [← hz2] at hR
      refine aw_up (X := fun i => ∀ I, zRun (p_g3 z2 h i) 44 I0 I → aw_W G mX6_gather 74 [.ref 44, .int (nI h), .int (nI i)] [] (zH n I L c) (0, 0) _) (Nat.zero_le 8) (fun I hR => ?_) (fun i _ hi ih I hR => ?_) _ hR
      · refine aw_iload_n dX6_gather_74 rfl ?_
        refine aw_bipush (v := 8) dX6_gather_75 (by decide) ?_
        refine aw_ic_ge (tgt := 114) dX6_gather_77 (by decide) (fun _ => ?_) (fun z => absurd (by decide) z)
        refine aw_ret0 dX6_gather_114 rfl ⟨Nat.le_of_ble_eq_true rfl, Nat.le_of_ble_eq_true rfl⟩ ?_
        exact ⟨rfl, _, rfl, hR⟩
      · have h10 : p_g3 z2 h i 0 10 < 1000 := p_g3_10 hz10 hh
        have hlt : p_g3 z2 h i 3 i < 100000 := by rw [p_g3_row (by decide)]; exact Nat.lt_of_le_of_lt (hz3 i hi) (by decide)
        refine aw_iload_n dX6_gather_74 rfl ?_
        refine aw_bipush (v := 8) dX6_gather_75 (by decide) ?_
        refine aw_ic_ge (tgt := 114) dX6_gather_77 (by decide) (fun z => absurd z (nI_ge (b := 8) hi (by decide))) (fun _ => ?_)
        refine aw_aload_n dX6_gather_80 rfl ?_
        refine aw_getI dX6_gather_81 f6_47 rfl ⟨Nat.le_of_ble_eq_true rfl, Nat.le_of_ble_eq_true rfl⟩ rfl ?_
        have e10 := hR.at0 10 (by decide)
        refine aw_top e10 ?_
        refine aw_iconst (v := -1) dX6_gather_84 rfl ?_
        refine aw_ic_ne (tgt := 114) dX6_gather_85 (by decide) (fun c85 => ?_) (fun c85 => ?_)
        · have hne : p_g3 z2 h i 0 10 ≠ 0 := fun z => c85 ((zi_none (by omega)).mpr z)
          have e8 : p_g3 z2 h 8 = p_g3 z2 h i := by
            have := p_g3_stop hne (8 - i)
            rw [show i + (8 - i) = 8 by omega] at this; exact this
          refine aw_ret0 dX6_gather_114 rfl ⟨Nat.le_of_ble_eq_true rfl, Nat.le_of_ble_eq_true rfl⟩ ?_
          exact ⟨rfl, _, rfl, by rw [e8]; exact hR⟩
        · have h0 : p_g3 z2 h i 0 10 = 0 := (zi_none (by omega)).mp c85
          refine aw_aload_n dX6_gather_88 rfl ?_
          refine aw_getR dX6_gather_89 f6_22 rfl ⟨Nat.le_of_ble_eq_true rfl, Nat.le_of_ble_eq_true rfl⟩ rfl rfl ?_
          refine aw_iload_n dX6_gather_92 rfl ?_
          refine aw_iald_n dX6_gather_93 rfl (Nat.le_of_ble_eq_true rfl) (by decide) hi ?_
          have e3 := hR.at 3 i (by decide) (by decide) (by decide) (by omega)
          refine aw_top e3 ?_
          refine aw_iconst (v := 1) dX6_gather_94 rfl ?_
          refine aw_ic_le (tgt := 108) dX6_gather_95 (by decide) (fun c95 => ?_) (fun c95 => ?_)
          · refine aw_iinc_n (ls2 := [_, _, _]) dX6_gather_108 rfl (by decide) rfl rfl ?_
            refine aw_goto (tgt := 74) dX6_gather_111 (by decide) ?_
            refine ih _ ?_
            have c95 := (zi_le (b := 1) hlt (by decide)).mp c95
            rw [p_g3, if_neg (by omega)]
            exact hR
          · refine aw_aload_n dX6_gather_98 rfl ?_
            refine aw_iload_n dX6_gather_99 rfl ?_
            refine aw_putI dX6_gather_100 f6_47 rfl ⟨Nat.le_of_ble_eq_true rfl, Nat.le_of_ble_eq_true rfl⟩ (Or.inl rfl) rfl ?_
            refine aw_aload_n dX6_gather_103 rfl ?_
            refine aw_iload_n dX6_gather_104 rfl ?_
            refine aw_putI dX6_gather_105 f6_50 rfl ⟨Nat.le_of_ble_eq_true rfl, Nat.le_of_ble_eq_true rfl⟩ (Or.inl rfl) rfl ?_
            refine aw_iinc_n (ls2 := [_, _, _]) dX6_gather_108 rfl (by decide) rfl rfl ?_
            refine aw_goto (tgt := 74) dX6_gather_111 (by decide) ?_
            refine ih _ ?_
            have c95 : ¬ p_g3 z2 h i 3 i ≤ 1 := fun z => c95 ((zi_le (b := 1) hlt (by decide)).mpr z)
            rw [p_g3, if_pos ⟨h0, by omega⟩]
            exact (hR.uM (j := 10) (v := h) (by decide)).uM (j := 11) (v := i) (by decide)
    · have hi8 : i < 8 := by omega
      have e1 := hR.at 1 i (by decide) (by decide) (by decide) (by omega)
      have e7 := hR.at 7 i (by decide) (by decide) (by decide) (by omega)
      have e5 := hR.at 5 i (by decide) (by decide) (by decide) (by omega)
      have h1 : p_g2 (p_g1 s 8) h i 1 i < 100000 := by rw [p_g2_row (by decide), p_g1_row (by decide)]; exact (hb i hi8).1
      have h7 : p_g2 (p_g1 s 8) h i 7 i < 100000 := by rw [p_g2_row (by decide), p_g1_row (by decide)]; exact (hb i hi8).2.1
      have h5 : p_g2 (p_g1 s 8) h i 5 i < 8 := by rw [p_g2_row (by decide), p_g1_row (by decide)]; exact (hb i hi8).2.2
      refine aw_iload_n dX6_gather_23 rfl ?_
      refine aw_aload_n dX6_gather_24 rfl ?_
      refine aw_getI dX6_gather_25 f6_9 rfl ⟨Nat.le_of_ble_eq_true rfl, Nat.le_of_ble_eq_true rfl⟩ rfl ?_
      have e0 : _ = nI (p_g2 (p_g1 s 8) h i 0 0) := hR.at0 0 (Or.inl rfl)
      rw [p_g2_row (by decide), p_g1_row (by decide)] at e0
      refine aw_top e0 ?_
      refine aw_ic_ge (tgt := 72) dX6_gather_28 (by decide) (fun z => absurd z (nI_ge hi (by omega))) (fun _ => ?_)
      refine aw_aload_n dX6_gather_31 rfl ?_
      refine aw_getR dX6_gather_32 f6_15 rfl ⟨Nat.le_of_ble_eq_true rfl, Nat.le_of_ble_eq_true rfl⟩ rfl rfl ?_
      refine aw_iload_n dX6_gather_35 rfl ?_
      refine aw_iald_n dX6_gather_36 rfl (Nat.le_of_ble_eq_true rfl) (by decide) (by omega) ?_
      refine aw_top e1 ?_
      refine aw_iload_n dX6_gather_37 rfl ?_
      refine aw_ic_eq (tgt := 51) dX6_gather_38 (by decide) (fun c38 => ?_) (fun c38 => ?_)
      · refine aw_aload_n dX6_gather_51 rfl ?_
        refine aw_getR dX6_gather_52 f6_22 rfl ⟨Nat.le_of_ble_eq_true rfl, Nat.le_of_ble_eq_true rfl⟩ rfl rfl ?_
        refine aw_aload_n dX6_gather_55 rfl ?_
        refine aw_getR dX6_gather_56 f6_28 rfl ⟨Nat.le_of_ble_eq_true rfl, Nat.le_of_ble_eq_true rfl⟩ rfl rfl ?_
        refine aw_iload_n dX6_gather_59 rfl ?_
        refine aw_iald_n dX6_gather_60 rfl (Nat.le_of_ble_eq_true rfl) (by decide) (by omega) ?_
        refine aw_top e5 ?_
        refine aw_dup2 dX6_gather_61 rfl rfl ?_
        refine aw_iald_n dX6_gather_62 rfl (Nat.le_of_ble_eq_true rfl) (by decide) h5 ?_
        refine aw_top (hR.at 3 _ (by decide) (by decide) (by decide) (by omega)) ?_
        refine aw_iconst (v := 1) dX6_gather_63 rfl ?_
        refine aw_iadd dX6_gather_64 ?_
        refine aw_top (nI_1 _) ?_
        refine aw_iast_n dX6_gather_65 rfl ⟨Nat.le_of_ble_eq_true rfl, Nat.le_of_ble_eq_true rfl⟩ (by decide) h5 ?_
        refine aw_iinc_n (ls2 := [_, _, _]) dX6_gather_66 rfl (by decide) rfl rfl ?_
        refine aw_goto (tgt := 23) dX6_gather_69 (by decide) ?_
        refine ih _ ?_
        rw [p_g2, if_pos (Or.inl ((zi_eq (by omega) (by omega)).mp c38))]
        exact hR.u (i := 3) (by decide)
      · refine aw_aload_n dX6_gather_41 rfl ?_
        refine aw_getR dX6_gather_42 f6_34 rfl ⟨Nat.le_of_ble_eq_true rfl, Nat.le_of_ble_eq_true rfl⟩ rfl rfl ?_
        refine aw_iload_n dX6_gather_45 rfl ?_
        refine aw_iald_n dX6_gather_46 rfl (Nat.le_of_ble_eq_true rfl) (by decide) (by omega) ?_
        refine aw_top e7 ?_
        refine aw_iconst (v := -1) dX6_gather_47 rfl ?_
        refine aw_ic_eq (tgt := 66) dX6_gather_48 (by decide) (fun c48 => ?_) (fun c48 => ?_)
        · refine aw_iinc_n (ls2 := [_, _, _]) dX6_gather_66 rfl (by decide) rfl rfl ?_
          refine aw_goto (tgt := 23) dX6_gather_69 (by decide) ?_
          refine ih _ ?_
          have n1 : ¬ p_g2 (p_g1 s 8) h i 1 i = h := fun z => c38 (by rw [z]; rfl)
          have n7 : p_g2 (p_g1 s 8) h i 7 i = 0 := (zi_none (by omega)).mp c48
          rw [p_g2, if_neg (fun z => z.elim n1 (fun y => y n7))]
          exact hR
        · refine aw_aload_n dX6_gather_51 rfl ?_
          refine aw_getR dX6_gather_52 f6_22 rfl ⟨Nat.le_of_ble_eq_true rfl, Nat.le_of_ble_eq_true rfl⟩ rfl rfl ?_
          refine aw_aload_n dX6_gather_55 rfl ?_
          refine aw_getR dX6_gather_56 f6_28 rfl ⟨Nat.le_of_ble_eq_true rfl, Nat.le_of_ble_eq_true rfl⟩ rfl rfl ?_
          refine aw_iload_n dX6_gather_59 rfl ?_
          refine aw_iald_n dX6_gather_60 rfl (Nat.le_of_ble_eq_true rfl) (by decide) (by omega) ?_
          refine aw_top e5 ?_
          refine aw_dup2 dX6_gather_61 rfl rfl ?_
          refine aw_iald_n dX6_gather_62 rfl (Nat.le_of_ble_eq_true rfl) (by decide) h5 ?_
          refine aw_top (hR.at 3 _ (by decide) (by decide) (by decide) (by omega)) ?_
          refine aw_iconst (v := 1) dX6_gather_63 rfl ?_
          refine aw_iadd dX6_gather_64 ?_
          refine aw_top (nI_1 _) ?_
          refine aw_iast_n dX6_gather_65 rfl ⟨Nat.le_of_ble_eq_true rfl, Nat.le_of_ble_eq_true rfl⟩ (by decide) h5 ?_
          refine aw_iinc_n (ls2 := [_, _, _]) dX6_gather_66 rfl (by decide) rfl rfl ?_
          refine aw_goto (tgt := 23) dX6_gather_69 (by decide) ?_
          refine ih _ ?_
          rw [p_g2, if_pos (Or.inr (fun z => c48 ((zi_none (by omega)).mpr z)))]
          exact hR.u (i := 3) (by decide)
  · refine aw_iload_n dX6_gather_2 rfl ?_
    refine aw_bipush (v := 8) dX6_gather_3 (by decide) ?_
    refine aw_ic_ge (tgt := 21) dX6_gather_5 (by decide) (fun z => absurd z (nI_ge (b := 8) hi (by decide))) (fun _ => ?_)
    refine aw_aload_n dX6_gather_8 rfl ?_
    refine aw_getR dX6_gather_9 f6_22 rfl ⟨Nat.le_of_ble_eq_true rfl, Nat.le_of_ble_eq_true rfl⟩ rfl rfl ?_
    refine aw_iload_n dX6_gather_12 rfl ?_
    refine aw_iconst (v := 0) dX6_gather_13 rfl ?_
    refine aw_iast_n dX6_gather_14 rfl ⟨Nat.le_of_ble_eq_true rfl, Nat.le_of_ble_eq_true rfl⟩ (by decide) hi ?_
    refine aw_iinc_n (ls2 := [_, _, _]) dX6_gather_15 rfl (by decide) rfl rfl ?_
    refine aw_goto (tgt := 2) dX6_gather_18 (by decide) ?_
    exact ih _ (hR.u (i := 3) (v := 0) (by decide))
theorem w_begin44 (G : aw_G) {n c : Nat} {I I0 : Nat → Nat → Int32} {L : Nat → Nat → Int64} {s : Nat → Nat → Nat} (hR : zRun s 44 I0 I) {t : Nat → Nat → Nat} (hT : zSet t 37 38 I0) (hk : t 6 0 ≤ 8) : aw_Met G mX6_begin [.ref 44, .ref 37] (zH n I L c) (zPost n L c 44 I0 (p_begin s t)) := by
  refine aw_Met.of okX6_begin (Nat.le_of_ble_eq_true rfl) ?_
  show aw_W G mX6_begin 0 [.ref 44, .ref 37, aw_x] [] (zH n I L c) (0, 0) _
  refine aw_aload_n dX6_begin_0 rfl ?_
  refine aw_aload_n dX6_begin_1 rfl ?_
  refine aw_getI dX6_begin_2 f6_69 rfl ⟨Nat.le_of_ble_eq_true rfl, Nat.le_of_ble_eq_true rfl⟩ rfl ?_
  refine aw_top (hT.mv hR (by decide) (by decide)).2.1 ?_
  refine aw_putI dX6_begin_5 f6_9 rfl ⟨Nat.le_of_ble_eq_true rfl, Nat.le_of_ble_eq_true rfl⟩ (Or.inl rfl) rfl ?_
  refine aw_aload_n dX6_begin_8 rfl ?_
  refine aw_iconst (v := -1) dX6_begin_9 rfl ?_
  refine aw_top (show (-1 : Int32) = nI 0 - 1 from rfl) ?_
  refine aw_putI dX6_begin_10 f6_47 rfl ⟨Nat.le_of_ble_eq_true rfl, Nat.le_of_ble_eq_true rfl⟩ (Or.inl rfl) rfl ?_
  refine aw_aload_n dX6_begin_13 rfl ?_
  refine aw_iconst (v := -1) dX6_begin_14 rfl ?_
  refine aw_top (show (-1 : Int32) = nI 0 - 1 from rfl) ?_
  refine aw_putI dX6_begin_15 f6_50 rfl ⟨Nat.le_of_ble_eq_true rfl, Nat.le_of_ble_eq_true rfl⟩ (Or.inl rfl) rfl ?_
  refine aw_iconst (v := 0) dX6_begin_18 rfl ?_
  refine aw_istore_n (ls2 := [_, _, _]) dX6_begin_19 (by decide) rfl rfl ?_
  refine aw_up (X := fun i => ∀ I, zRun (p_b1 (aw_u (aw_u (aw_u s 0 0 (t 6 0)) 0 10 0) 0 11 0) i) 44 I0 I → aw_W G mX6_begin 20 [.ref 44, .ref 37, .int (nI i)] [] (zH n I L c) (0, 0) _) (Nat.zero_le 8) (fun I hR => ?_) (fun i _ hi ih I hR => ?_) _ (((hR.u (i := 0) (j := 0) (v := t 6 0) (by decide)).u (i := 0) (j := 10) (v := 0) (by decide)).u (i := 0) (j := 11) (v := 0) (by decide))
  · refine aw_iload_n dX6_begin_20 rfl ?_
    refine aw_bipush (v := 8) dX6_begin_21 (by decide) ?_
    refine aw_ic_ge (tgt := 39) dX6_begin_23 (by decide) (fun _ => ?_) (fun z => absurd (by decide) z)
    refine aw_iconst (v := 0) dX6_begin_39 rfl ?_
    refine aw_istore_n (ls2 := [_, _, _]) dX6_begin_40 (by decide) rfl rfl ?_
    refine aw_up (X := fun i => ∀ I, zRun (p_b2 (p_b1 (aw_u (aw_u (aw_u s 0 0 (t 6 0)) 0 10 0) 0 11 0) 8) t i) 44 I0 I → aw_W G mX6_begin 41 [.ref 44, .ref 37, .int (nI i)] [] (zH n I L c) (0, 0) _) (Nat.zero_le (t 6 0)) (fun I hR => ?_) (fun i _ hi ih I hR => ?_) _ hR
    · refine aw_iload_n dX6_begin_41 rfl ?_
      refine aw_aload_n dX6_begin_42 rfl ?_
      refine aw_getI dX6_begin_43 f6_9 rfl ⟨Nat.le_of_ble_eq_true rfl, Nat.le_of_ble_eq_true rfl⟩ rfl ?_
      have e0 : _ = nI (p_b2 (p_b1 (aw_u (aw_u (aw_u s 0 0 (t 6 0)) 0 10 0) 0 11 0) 8) t (t 6 0) 0 0) := hR.at0 0 (Or.inl rfl)
      rw [p_b2_0, p_b1_row (by decide), aw_u_nj (by decide), aw_u_nj (by decide), aw_u_eq] at e0
      refine aw_top e0 ?_
      refine aw_ic_ge (tgt := 121) dX6_begin_46 (by decide) (fun _ => ?_) (fun z => absurd (nI_le (Nat.le_refl _) (by omega)) z)
      refine aw_ret0 dX6_begin_121 rfl ⟨Nat.le_of_ble_eq_true rfl, Nat.le_of_ble_eq_true rfl⟩ ?_
      exact ⟨rfl, _, rfl, hR⟩
    · have hT1 := hT.mv hR (by decide) (by decide)
      refine aw_iload_n dX6_begin_41 rfl ?_
      refine aw_aload_n dX6_begin_42 rfl ?_
      refine aw_getI dX6_begin_43 f6_9 rfl ⟨Nat.le_of_ble_eq_true rfl, Nat.le_of_ble_eq_true rfl⟩ rfl ?_
      have e0 : _ = nI (p_b2 (p_b1 (aw_u (aw_u (aw_u s 0 0 (t 6 0)) 0 10 0) 0 11 0) 8) t i 0 0) := hR.at0 0 (Or.inl rfl)
      rw [p_b2_0, p_b1_row (by decide), aw_u_nj (by decide), aw_u_nj (by decide), aw_u_eq] at e0
      refine aw_top e0 ?_
      refine aw_ic_ge (tgt := 121) dX6_begin_46 (by decide) (fun z => absurd z (nI_ge hi (by omega))) (fun _ => ?_)
      refine aw_aload_n dX6_begin_49 rfl ?_
      refine aw_getR dX6_begin_50 f6_15 rfl ⟨Nat.le_of_ble_eq_true rfl, Nat.le_of_ble_eq_true rfl⟩ rfl rfl ?_
      refine aw_iload_n dX6_begin_53 rfl ?_
      refine aw_aload_n dX6_begin_54 rfl ?_
      refine aw_getR dX6_begin_55 f6_72 rfl ⟨Nat.le_of_ble_eq_true rfl, Nat.le_of_ble_eq_true rfl⟩ rfl rfl ?_
      refine aw_iload_n dX6_begin_58 rfl ?_
      refine aw_iald_n dX6_begin_59 rfl (Nat.le_of_ble_eq_true rfl) (by decide) (by omega) ?_
      refine aw_top (hT1.1 5 i (by decide) (by omega)) ?_
      refine aw_iast_n dX6_begin_60 rfl ⟨Nat.le_of_ble_eq_true rfl, Nat.le_of_ble_eq_true rfl⟩ (by decide) (by omega) ?_
      refine aw_aload_n dX6_begin_61 rfl ?_
      refine aw_getR dX6_begin_62 f6_28 rfl ⟨Nat.le_of_ble_eq_true rfl, Nat.le_of_ble_eq_true rfl⟩ rfl rfl ?_
      refine aw_iload_n dX6_begin_65 rfl ?_
      refine aw_aload_n dX6_begin_66 rfl ?_
      refine aw_getR dX6_begin_67 f6_75 rfl ⟨Nat.le_of_ble_eq_true rfl, Nat.le_of_ble_eq_true rfl⟩ rfl rfl ?_
      refine aw_iload_n dX6_begin_70 rfl ?_
      refine aw_iald_n dX6_begin_71 rfl (Nat.le_of_ble_eq_true rfl) (by decide) (by omega) ?_
      refine aw_top (hT1.1 0 i (by decide) (by omega)) ?_
      refine aw_iast_n dX6_begin_72 rfl ⟨Nat.le_of_ble_eq_true rfl, Nat.le_of_ble_eq_true rfl⟩ (by decide) (by omega) ?_
      refine aw_aload_n dX6_begin_73 rfl ?_
      refine aw_getR dX6_begin_74 f6_19 rfl ⟨Nat.le_of_ble_eq_true rfl, Nat.le_of_ble_eq_true rfl⟩ rfl rfl ?_
      refine aw_iload_n dX6_begin_77 rfl ?_
      refine aw_aload_n dX6_begin_78 rfl ?_
      refine aw_getR dX6_begin_79 f6_78 rfl ⟨Nat.le_of_ble_eq_true rfl, Nat.le_of_ble_eq_true rfl⟩ rfl rfl ?_
      refine aw_iload_n dX6_begin_82 rfl ?_
      refine aw_iald_n dX6_begin_83 rfl (Nat.le_of_ble_eq_true rfl) (by decide) (by omega) ?_
      refine aw_top (hT1.1 3 i (by decide) (by omega)) ?_
      refine aw_iast_n dX6_begin_84 rfl ⟨Nat.le_of_ble_eq_true rfl, Nat.le_of_ble_eq_true rfl⟩ (by decide) (by omega) ?_
      refine aw_aload_n dX6_begin_85 rfl ?_
      refine aw_getR dX6_begin_86 f6_31 rfl ⟨Nat.le_of_ble_eq_true rfl, Nat.le_of_ble_eq_true rfl⟩ rfl rfl ?_
      refine aw_iload_n dX6_begin_89 rfl ?_
      refine aw_iconst (v := 1) dX6_begin_90 rfl ?_
      refine aw_iast_n dX6_begin_91 rfl ⟨Nat.le_of_ble_eq_true rfl, Nat.le_of_ble_eq_true rfl⟩ (by decide) (by omega) ?_
      refine aw_aload_n dX6_begin_92 rfl ?_
      refine aw_getR dX6_begin_93 f6_34 rfl ⟨Nat.le_of_ble_eq_true rfl, Nat.le_of_ble_eq_true rfl⟩ rfl rfl ?_
      refine aw_iload_n dX6_begin_96 rfl ?_
      refine aw_iconst (v := -1) dX6_begin_97 rfl ?_
      refine aw_top (show (-1 : Int32) = nI 0 - 1 from rfl) ?_
      refine aw_iast_n dX6_begin_98 rfl ⟨Nat.le_of_ble_eq_true rfl, Nat.le_of_ble_eq_true rfl⟩ (by decide) (by omega) ?_
      refine aw_aload_n dX6_begin_99 rfl ?_
      refine aw_getR dX6_begin_100 f6_37 rfl ⟨Nat.le_of_ble_eq_true rfl, Nat.le_of_ble_eq_true rfl⟩ rfl rfl ?_
      refine aw_iload_n dX6_begin_103 rfl ?_
      refine aw_bipush (v := 100) dX6_begin_104 (by decide) ?_
      refine aw_iast_n dX6_begin_106 rfl ⟨Nat.le_of_ble_eq_true rfl, Nat.le_of_ble_eq_true rfl⟩ (by decide) (by omega) ?_
      refine aw_aload_n dX6_begin_107 rfl ?_
      refine aw_getR dX6_begin_108 f6_43 rfl ⟨Nat.le_of_ble_eq_true rfl, Nat.le_of_ble_eq_true rfl⟩ rfl rfl ?_
      refine aw_iload_n dX6_begin_111 rfl ?_
      refine aw_V0c (As := [_]) dX6_begin_112 k6_81 rfl rfl rfl ⟨Nat.le_of_ble_eq_true rfl, Nat.le_of_ble_eq_true rfl⟩ (Nat.le_of_ble_eq_true rfl) ⟨⟨Nat.le_of_ble_eq_true rfl, Nat.le_of_ble_eq_true rfl⟩, ⟨Nat.le_of_ble_eq_true rfl, Nat.le_of_ble_eq_true rfl⟩⟩ ⟨rfl, rfl⟩ (w_clear44 G ((((((hR.u (i := 1) (j := i) (v := t 5 i) (by decide)).u (i := 5) (j := i) (v := t 0 i) (by decide)).u (i := 2) (j := i) (v := t 3 i) (by decide)).u (i := 6) (j := i) (v := 1) (by decide)).u (i := 7) (j := i) (v := 0) (by decide)).u (i := 8) (j := i) (v := 100) (by decide)) (show i < 8 by omega)) (fun v h2 hq => ?_)
      obtain ⟨rfl, I2, rfl, hR2⟩ := hq
      refine aw_iinc_n (ls2 := [_, _, _]) dX6_begin_115 rfl (by decide) rfl rfl ?_
      refine aw_goto (tgt := 41) dX6_begin_118 (by decide) ?_
      exact ih I2 hR2
  · refine aw_iload_n dX6_begin_20 rfl ?_
    refine aw_bipush (v := 8) dX6_begin_21 (by decide) ?_
    refine aw_ic_ge (tgt := 39) dX6_begin_23 (by decide) (fun z => absurd z (nI_ge (b := 8) hi (by decide))) (fun _ => ?_)
    refine aw_aload_n dX6_begin_26 rfl ?_
    refine aw_getR dX6_begin_27 f6_25 rfl ⟨Nat.le_of_ble_eq_true rfl, Nat.le_of_ble_eq_true rfl⟩ rfl rfl ?_
    refine aw_iload_n dX6_begin_30 rfl ?_
    refine aw_iconst (v := 0) dX6_begin_31 rfl ?_
    refine aw_iast_n dX6_begin_32 rfl ⟨Nat.le_of_ble_eq_true rfl, Nat.le_of_ble_eq_true rfl⟩ (by decide) hi ?_
    refine aw_iinc_n (ls2 := [_, _, _]) dX6_begin_33 rfl (by decide) rfl rfl ?_
    refine aw_goto (tgt := 20) dX6_begin_36 (by decide) ?_
    exact ih _ (hR.u (i := 4) (v := 0) (by decide))
