theorem m_goes_0 {m t u y : Nat → Nat → Nat} {k h j : Nat} (h0 : ∀ j, m 0 j ≤ 5) : m_goes m t u y k h 0 j ≤ 5 := by
  by_cases hj : j = k
  · subst hj
    unfold m_goes m_stays
    repeat' split
    all_goals simp [aw_u, va_up]
  · rw [m_goes_ne hj]; exact h0 j
theorem m_sw_0 {m t u y : Nat → Nat → Nat} {h i : Nat} (h0 : ∀ j, m 0 j ≤ 5) : ∀ j, m_sw m t u y h i 0 j ≤ 5 := by
  induction i with
  | zero => exact h0
  | succ i ih =>
    intro j
    rw [m_sw]
    split
    · exact m_goes_0 ih
    · exact ih j
theorem m_gathers_0 {m : Nat → Nat → Nat} {h k : Nat} : m_gathers m h k 0 = m 0 := by
  rw [m_gathers, m_g3_row (by decide), m_g2_row (by decide) (by decide) (by decide), m_g1_row (by decide)]
theorem m_hour_0 {m t u y : Nat → Nat → Nat} {h : Nat} (h0 : ∀ j, m 0 j ≤ 5) : ∀ j, m_hour m t u y h 0 j ≤ 5 := fun j => by
  rw [m_hour, m_kp_row (by decide)]
  exact m_sw_0 (fun j => by rw [m_gathers_0]; exact h0 j) j
theorem m_ev_0 {m t u y : Nat → Nat → Nat} {h : Nat} (h0 : ∀ j, m 0 j ≤ 5) : ∀ j, m_ev m t u y h 0 j ≤ 5 := by
  induction h with
  | zero => exact h0
  | succ h ih => exact m_hour_0 ih
theorem w_lives (G : aw_G) {n c : Nat} {I I0 : Nat → Nat → Int32} {L : Nat → Nat → Int64} {m : Nat → Nat → Nat} (hM : zMod m I0 I) {t u y : Nat → Nat → Nat} (hC : zCar t I0) (hU : zAm u I0) (hYm : zYm y I0) (hT : zTok t) (hUo : zUok u) (hY : zYok y) (hB : ∀ p, 8 ≤ p → m 8 p ≤ 100) (h50 : ∀ j, 8 ≤ j → m 0 j ≤ 5) : aw_Met G mX11_lives [.ref 81] (zH n I L c) (zPm n L c I0 (m_lives m t u y)) := by
  have h8 := hT.1
  refine aw_Met.of okX11_lives (Nat.le_of_ble_eq_true rfl) ?_
  show aw_W G mX11_lives 0 [.ref 81, aw_x, aw_x] [] (zH n I L c) (0, 0) _
  refine aw_iconst (v := 0) dX11_lives_0 rfl ?_
  refine aw_istore_n (ls2 := [_, _, _]) dX11_lives_1 (by decide) rfl rfl ?_
  refine aw_up (X := fun i => ∀ I, zMod (m_l1 m i) I0 I → aw_W G mX11_lives 2 [.ref 81, .int (nI i), aw_x] [] (zH n I L c) (0, 0) _) (Nat.zero_le 8) (fun I hM => ?_) (fun i _ hi ih I hM => ?_) _ hM
  · refine aw_iload_n dX11_lives_2 rfl ?_
    refine aw_bipush (v := 8) dX11_lives_3 (by decide) ?_
    refine aw_ic_ge (tgt := 42) dX11_lives_5 (by decide) (fun _ => ?_) (fun z => absurd (by decide) z)
    refine aw_iconst (v := 0) dX11_lives_42 rfl ?_
    refine aw_istore_n (ls2 := [_, _, _]) dX11_lives_43 (by decide) rfl rfl ?_
    refine aw_up (X := fun i => ∀ I, zMod (m_l2 (m_l1 m 8) t i) I0 I → aw_W G mX11_lives 44 [.ref 81, .int (nI i), aw_x] [] (zH n I L c) (0, 0) _) (Nat.zero_le (t 6 0)) (fun I hM => ?_) (fun i _ hi ih I hM => ?_) _ hM
    · refine aw_iload_n dX11_lives_44 rfl ?_
      refine aw_aload_n dX11_lives_45 rfl ?_
      refine aw_getI dX11_lives_46 f11_133 rfl ⟨Nat.le_of_ble_eq_true rfl, Nat.le_of_ble_eq_true rfl⟩ rfl ?_
      refine aw_top (hC.mv hM).2.2.1 ?_
      refine aw_ic_ge (tgt := 100) dX11_lives_49 (by decide) (fun _ => ?_) (fun z => absurd (nI_le (Nat.le_refl _) (by omega)) z)
      refine aw_aload_n dX11_lives_100 rfl ?_
      refine aw_iconst (v := -1) dX11_lives_101 rfl ?_
      refine aw_top (show (-1 : Int32) = nI 0 - 1 from rfl) ?_
      refine aw_putI dX11_lives_102 f11_195 rfl ⟨Nat.le_of_ble_eq_true rfl, Nat.le_of_ble_eq_true rfl⟩ (Or.inl rfl) rfl ?_
      refine aw_aload_n dX11_lives_105 rfl ?_
      refine aw_iconst (v := -1) dX11_lives_106 rfl ?_
      refine aw_top (show (-1 : Int32) = nI 0 - 1 from rfl) ?_
      refine aw_putI dX11_lives_107 f11_198 rfl ⟨Nat.le_of_ble_eq_true rfl, Nat.le_of_ble_eq_true rfl⟩ (Or.inl rfl) rfl ?_
      refine aw_iconst (v := 0) dX11_lives_110 rfl ?_
      refine aw_istore_n (ls2 := [_, _, _]) dX11_lives_111 (by decide) rfl rfl ?_
      obtain ⟨z, hzd⟩ : ∃ z, z = m_l0 m t := ⟨_, rfl⟩
      have hz : zMw z t 0 100 := by rw [hzd]; exact zMw.l0 hT hB
      have h00 : ∀ j, z 0 j ≤ 5 := fun j => by
        rw [hzd, m_l0, aw_u_ne (by decide), aw_u_ne (by decide), m_l2_row (by decide) (by decide) (by decide)]
        by_cases hj : j < 8
        · rw [(m_l1_lt hj).1]; omega
        · rw [m_l1_ge (by omega)]; exact h50 j (by omega)
      rw [m_lives, ← hzd]
      have hM := hM.u0 (v := 0) |>.u1 (v := 0)
      rw [show aw_u (aw_u (m_l2 (m_l1 m 8) t (t 6 0)) 9 0 0) 9 1 0 = z from hzd.symm] at hM
      refine aw_up (X := fun i => ∀ I, zMod (m_ev z t u y i) I0 I → aw_W G mX11_lives 112 [.ref 81, .int (nI i), aw_x] [] (zH n I L c) (0, 0) _) (Nat.zero_le 40) (fun I hM => ?_) (fun i _ hi ih I hM => ?_) _ hM
      · refine aw_iload_n dX11_lives_112 rfl ?_
        refine aw_bipush (v := 40) dX11_lives_113 (by decide) ?_
        refine aw_ic_ge (tgt := 166) dX11_lives_115 (by decide) (fun _ => ?_) (fun z => absurd (by decide) z)
        refine aw_ret0 dX11_lives_166 rfl ⟨Nat.le_of_ble_eq_true rfl, Nat.le_of_ble_eq_true rfl⟩ ?_
        exact ⟨rfl, _, rfl, hM⟩
      · have hzw : zMw (m_ev z t u y i) t i 5000 := by
          have := hz.ev (u := u) hT hY (h := i) (by omega)
          exact ⟨this.1, fun p => Nat.le_trans (this.2.1 p) (by omega), this.2.2⟩
        have hz0 := m_ev_0 (t := t) (u := u) (y := y) (h := i) h00
        refine aw_iload_n dX11_lives_112 rfl ?_
        refine aw_bipush (v := 40) dX11_lives_113 (by decide) ?_
        refine aw_ic_ge (tgt := 166) dX11_lives_115 (by decide) (fun z => absurd z (nI_ge (b := 40) hi (by decide))) (fun _ => ?_)
        refine aw_aload_n dX11_lives_118 rfl ?_
        refine aw_iload_n dX11_lives_119 rfl ?_
        refine aw_V0c (As := [_]) dX11_lives_120 k11_201 rfl rfl rfl ⟨Nat.le_of_ble_eq_true rfl, Nat.le_of_ble_eq_true rfl⟩ (Nat.le_of_ble_eq_true rfl) ⟨⟨Nat.le_of_ble_eq_true rfl, Nat.le_of_ble_eq_true rfl⟩, ⟨Nat.le_of_ble_eq_true rfl, Nat.le_of_ble_eq_true rfl⟩⟩ ⟨rfl, rfl⟩ (w_gathers G hM hC hT.1 (show i < 900 by omega) hzw) (fun v h2 hq => ?_)
        obtain ⟨rfl, I2, rfl, hM2⟩ := hq
        refine aw_iconst (v := 0) dX11_lives_123 rfl ?_
        refine aw_istore_n (ls2 := [_, _, _]) dX11_lives_124 (by decide) rfl rfl ?_
        refine aw_up (X := fun j => ∀ I, zMod (m_sw (m_gathers (m_ev z t u y i) i (t 6 0)) t u y i j) I0 I → aw_W G mX11_lives 125 [.ref 81, .int (nI i), .int (nI j)] [] (zH n I L c) (0, 0) _) (Nat.zero_le (t 6 0)) (fun I hM => ?_) (fun j _ hj jh I hM => ?_) _ hM2
        · refine aw_iload_n dX11_lives_125 rfl ?_
          refine aw_aload_n dX11_lives_126 rfl ?_
          refine aw_getI dX11_lives_127 f11_133 rfl ⟨Nat.le_of_ble_eq_true rfl, Nat.le_of_ble_eq_true rfl⟩ rfl ?_
          refine aw_top (hC.mv hM).2.2.1 ?_
          refine aw_ic_ge (tgt := 155) dX11_lives_130 (by decide) (fun _ => ?_) (fun z => absurd (nI_le (Nat.le_refl _) (by omega)) z)
          refine aw_aload_n dX11_lives_155 rfl ?_
          refine aw_iload_n dX11_lives_156 rfl ?_
          refine aw_V0c (As := [_]) dX11_lives_157 k11_209 rfl rfl rfl ⟨Nat.le_of_ble_eq_true rfl, Nat.le_of_ble_eq_true rfl⟩ (Nat.le_of_ble_eq_true rfl) ⟨⟨Nat.le_of_ble_eq_true rfl, Nat.le_of_ble_eq_true rfl⟩, ⟨Nat.le_of_ble_eq_true rfl, Nat.le_of_ble_eq_true rfl⟩⟩ ⟨rfl, rfl⟩ (w_keeps G hM hC hT.1 hi (fun k hk => Nat.lt_of_le_of_lt (m_sw_0 (fun j => by rw [m_gathers_0]; exact hz0 j) k) (by decide))) (fun v h2 hq => ?_)
          obtain ⟨rfl, I2, rfl, hM2⟩ := hq
          refine aw_iinc_n (ls2 := [_, _, _]) dX11_lives_160 rfl (by decide) rfl rfl ?_
          refine aw_goto (tgt := 112) dX11_lives_163 (by decide) ?_
          exact aw_kill (j := 2) (ls2 := [_, _, aw_x]) rfl (ih I2 hM2)
        · have hj8 : j < 8 := by have := hT.1; omega
          have hwj := (hzw.gathers hT.1 (by omega)).sw (u := u) hT hY (h := i) (i := j) (by omega) (by omega)
          have hb4 := (hwj.1 j hj).2.2.2.2
          refine aw_iload_n dX11_lives_125 rfl ?_
          refine aw_aload_n dX11_lives_126 rfl ?_
          refine aw_getI dX11_lives_127 f11_133 rfl ⟨Nat.le_of_ble_eq_true rfl, Nat.le_of_ble_eq_true rfl⟩ rfl ?_
          refine aw_top (hC.mv hM).2.2.1 ?_
          refine aw_ic_ge (tgt := 155) dX11_lives_130 (by decide) (fun z => absurd z (nI_ge hj (by omega))) (fun _ => ?_)
          refine aw_aload_n dX11_lives_133 rfl ?_
          refine aw_getR dX11_lives_134 f11_58 rfl ⟨Nat.le_of_ble_eq_true rfl, Nat.le_of_ble_eq_true rfl⟩ rfl rfl ?_
          refine aw_iload_n dX11_lives_137 rfl ?_
          refine aw_iald_n dX11_lives_138 rfl (Nat.le_of_ble_eq_true rfl) (by decide) hj8 ?_
          refine aw_top (hM.at 4 j (by decide) (by omega)) ?_
          refine aw_iload_n dX11_lives_139 rfl ?_
          refine aw_ic_ne (tgt := 149) dX11_lives_140 (by decide) (fun c140 => ?_) (fun c140 => ?_)
          · refine aw_iinc_n (ls2 := [_, _, _]) dX11_lives_149 rfl (by decide) rfl rfl ?_
            refine aw_goto (tgt := 125) dX11_lives_152 (by decide) ?_
            refine jh I ?_
            rw [m_sw, if_neg (fun y => c140 (by rw [y]; rfl))]
            exact hM
          · have h4 : m_sw (m_gathers (m_ev z t u y i) i (t 6 0)) t u y i j 4 j = i := (zi_eq (by omega) (by omega)).mp c140
            have hp0 := hwj.2.1 j (Nat.le_refl _) hj h4
            have hp8 := (hwj.1 j hj).1
            refine aw_aload_n dX11_lives_143 rfl ?_
            refine aw_iload_n dX11_lives_144 rfl ?_
            refine aw_iload_n dX11_lives_145 rfl ?_
            refine aw_V0c (As := [_, _]) dX11_lives_146 k11_205 rfl rfl rfl ⟨Nat.le_of_ble_eq_true rfl, Nat.le_of_ble_eq_true rfl⟩ (Nat.le_of_ble_eq_true rfl) ⟨⟨Nat.le_of_ble_eq_true rfl, Nat.le_of_ble_eq_true rfl⟩, ⟨Nat.le_of_ble_eq_true rfl, Nat.le_of_ble_eq_true rfl⟩⟩ ⟨rfl, rfl⟩ (w_goesOn G hM hC hU hYm hj hT.1 (show i < 1000 by omega) hp0 hp8 (hT.2.2 j hj8).2.1 (by have := (hT.2.2 j hj8).2.2.1; omega) (hT.2.2 j hj8).2.2.2.2.1 (by have := (hwj.1 j hj).2.2.2.1; have := (hT.2.2 j hj8).2.2.2.1; omega) (by have := hwj.2.2.2.2 (m_sw (m_gathers (m_ev z t u y i) i (t 6 0)) t u y i j 1 j - 1) (by omega); omega) hY.1 (hY.2 _ _ (by omega) (hT.2.2 j hj8).2.1) (by have := hT.2.1; omega) hUo.1 hUo.2) (fun v h2 hq => ?_)
            obtain ⟨rfl, I2, rfl, hM2⟩ := hq
            refine aw_iinc_n (ls2 := [_, _, _]) dX11_lives_149 rfl (by decide) rfl rfl ?_
            refine aw_goto (tgt := 125) dX11_lives_152 (by decide) ?_
            refine jh I2 ?_
            rw [m_sw, if_pos h4]
            exact hM2
    · have hi8 : i < 8 := by have := hT.1; omega
      have hC1 := hC.mv hM
      refine aw_iload_n dX11_lives_44 rfl ?_
      refine aw_aload_n dX11_lives_45 rfl ?_
      refine aw_getI dX11_lives_46 f11_133 rfl ⟨Nat.le_of_ble_eq_true rfl, Nat.le_of_ble_eq_true rfl⟩ rfl ?_
      refine aw_top hC1.2.2.1 ?_
      refine aw_ic_ge (tgt := 100) dX11_lives_49 (by decide) (fun z => absurd z (nI_ge hi (by omega))) (fun _ => ?_)
      refine aw_aload_n dX11_lives_52 rfl ?_
      refine aw_getR dX11_lives_53 f11_52 rfl ⟨Nat.le_of_ble_eq_true rfl, Nat.le_of_ble_eq_true rfl⟩ rfl rfl ?_
      refine aw_iload_n dX11_lives_56 rfl ?_
      refine aw_aload_n dX11_lives_57 rfl ?_
      refine aw_getR dX11_lives_58 f11_31 rfl ⟨Nat.le_of_ble_eq_true rfl, Nat.le_of_ble_eq_true rfl⟩ rfl rfl ?_
      refine aw_iconst (v := 5) dX11_lives_61 rfl ?_
      refine aw_iload_n dX11_lives_62 rfl ?_
      refine aw_imul dX11_lives_63 ?_
      refine aw_iconst (v := 3) dX11_lives_64 rfl ?_
      refine aw_iadd dX11_lives_65 ?_
      refine aw_top (zi_5mul i 3) ?_
      refine aw_iald_n dX11_lives_66 rfl (Nat.le_of_ble_eq_true rfl) (by decide) (by omega) ?_
      refine aw_top (hC1.1 3 i (by decide) hi) ?_
      refine aw_iast_n dX11_lives_67 rfl ⟨Nat.le_of_ble_eq_true rfl, Nat.le_of_ble_eq_true rfl⟩ (by decide) hi8 ?_
      refine aw_aload_n dX11_lives_68 rfl ?_
      refine aw_getR dX11_lives_69 f11_55 rfl ⟨Nat.le_of_ble_eq_true rfl, Nat.le_of_ble_eq_true rfl⟩ rfl rfl ?_
      refine aw_iload_n dX11_lives_72 rfl ?_
      refine aw_aload_n dX11_lives_73 rfl ?_
      refine aw_getR dX11_lives_74 f11_31 rfl ⟨Nat.le_of_ble_eq_true rfl, Nat.le_of_ble_eq_true rfl⟩ rfl rfl ?_
      refine aw_iconst (v := 5) dX11_lives_77 rfl ?_
      refine aw_iload_n dX11_lives_78 rfl ?_
      refine aw_imul dX11_lives_79 ?_
      refine aw_top (zi_5m _) ?_
      refine aw_iald_n dX11_lives_80 rfl (Nat.le_of_ble_eq_true rfl) (by decide) (by omega) ?_
      refine aw_top (hC1.1 0 i (by decide) hi) ?_
      refine aw_iast_n dX11_lives_81 rfl ⟨Nat.le_of_ble_eq_true rfl, Nat.le_of_ble_eq_true rfl⟩ (by decide) hi8 ?_
      refine aw_aload_n dX11_lives_82 rfl ?_
      refine aw_getR dX11_lives_83 f11_58 rfl ⟨Nat.le_of_ble_eq_true rfl, Nat.le_of_ble_eq_true rfl⟩ rfl rfl ?_
      refine aw_iload_n dX11_lives_86 rfl ?_
      refine aw_aload_n dX11_lives_87 rfl ?_
      refine aw_getR dX11_lives_88 f11_34 rfl ⟨Nat.le_of_ble_eq_true rfl, Nat.le_of_ble_eq_true rfl⟩ rfl rfl ?_
      refine aw_iload_n dX11_lives_91 rfl ?_
      refine aw_iald_n dX11_lives_92 rfl (Nat.le_of_ble_eq_true rfl) (by decide) hi8 ?_
      refine aw_top (hC1.2.1 i hi) ?_
      refine aw_iast_n dX11_lives_93 rfl ⟨Nat.le_of_ble_eq_true rfl, Nat.le_of_ble_eq_true rfl⟩ (by decide) hi8 ?_
      refine aw_iinc_n (ls2 := [_, _, _]) dX11_lives_94 rfl (by decide) rfl rfl ?_
      refine aw_goto (tgt := 44) dX11_lives_97 (by decide) ?_
      exact ih _ (((hM.u (i := 2) (j := i) (v := t 3 i) (by decide)).us (i := 3) (j := i) (v := t 0 i) (by decide)).u (i := 4) (j := i) (v := t 5 i) (by decide))
  · refine aw_iload_n dX11_lives_2 rfl ?_
    refine aw_bipush (v := 8) dX11_lives_3 (by decide) ?_
    refine aw_ic_ge (tgt := 42) dX11_lives_5 (by decide) (fun z => absurd z (nI_ge (b := 8) hi (by decide))) (fun _ => ?_)
    refine aw_aload_n dX11_lives_8 rfl ?_
    refine aw_getR dX11_lives_9 f11_46 rfl ⟨Nat.le_of_ble_eq_true rfl, Nat.le_of_ble_eq_true rfl⟩ rfl rfl ?_
    refine aw_iload_n dX11_lives_12 rfl ?_
    refine aw_iconst (v := 0) dX11_lives_13 rfl ?_
    refine aw_iast_n dX11_lives_14 rfl ⟨Nat.le_of_ble_eq_true rfl, Nat.le_of_ble_eq_true rfl⟩ (by decide) hi ?_
    refine aw_aload_n dX11_lives_15 rfl ?_
    refine aw_getR dX11_lives_16 f11_49 rfl ⟨Nat.le_of_ble_eq_true rfl, Nat.le_of_ble_eq_true rfl⟩ rfl rfl ?_
    refine aw_iload_n dX11_lives_19 rfl ?_
    refine aw_iconst (v := -1) dX11_lives_20 rfl ?_
    refine aw_top (show (-1 : Int32) = nI 0 - 1 from rfl) ?_
    refine aw_iast_n dX11_lives_21 rfl ⟨Nat.le_of_ble_eq_true rfl, Nat.le_of_ble_eq_true rfl⟩ (by decide) hi ?_
    refine aw_aload_n dX11_lives_22 rfl ?_
    refine aw_getR dX11_lives_23 f11_61 rfl ⟨Nat.le_of_ble_eq_true rfl, Nat.le_of_ble_eq_true rfl⟩ rfl rfl ?_
    refine aw_iload_n dX11_lives_26 rfl ?_
    refine aw_iconst (v := -1) dX11_lives_27 rfl ?_
    refine aw_top (show (-1 : Int32) = nI 0 - 1 from rfl) ?_
    refine aw_iast_n dX11_lives_28 rfl ⟨Nat.le_of_ble_eq_true rfl, Nat.le_of_ble_eq_true rfl⟩ (by decide) hi ?_
    refine aw_aload_n dX11_lives_29 rfl ?_
    refine aw_getR dX11_lives_30 f11_70 rfl ⟨Nat.le_of_ble_eq_true rfl, Nat.le_of_ble_eq_true rfl⟩ rfl rfl ?_
    refine aw_iload_n dX11_lives_33 rfl ?_
    refine aw_iconst (v := 0) dX11_lives_34 rfl ?_
    refine aw_iast_n dX11_lives_35 rfl ⟨Nat.le_of_ble_eq_true rfl, Nat.le_of_ble_eq_true rfl⟩ (by decide) hi ?_
    refine aw_iinc_n (ls2 := [_, _, _]) dX11_lives_36 rfl (by decide) rfl rfl ?_
    refine aw_goto (tgt := 2) dX11_lives_39 (by decide) ?_
    exact ih _ ((((hM.u (i := 0) (j := i) (v := 0) (by decide)).u (i := 1) (j := i) (v := 0) (by decide)).u (i := 5) (j := i) (v := 0) (by decide)).u (i := 8) (j := i) (v := 0) (by decide))
