theorem zi_dn {j : Nat} (h : j < 8) : nI (8 - j) - 1 = nI (7 - j) := by
  have := zi_pred (w := 8 - j) (by omega)
  rw [show 8 - j - 1 = 7 - j by omega] at this
  exact this
theorem zi_dn1 (x : Nat) : nI x + Int32.ofInt (-1) = nI x - 1 := by
  rw [Int32.sub_eq_add_neg]; rfl
theorem w_gathers (G : aw_G) {n c : Nat} {I I0 : Nat → Nat → Int32} {L : Nat → Nat → Int64} {m : Nat → Nat → Nat} (hM : zMod m I0 I) {t : Nat → Nat → Nat} (hC : zCar t I0) {h : Nat} (h8 : t 6 0 ≤ 8) (hh : h < 900) (hW : zMw m t h 5000) : aw_Met G mX11_gathers [.ref 81, .int (nI h)] (zH n I L c) (zPm n L c I0 (m_gathers m h (t 6 0))) := by
  refine aw_Met.of okX11_gathers (Nat.le_of_ble_eq_true rfl) ?_
  show aw_W G mX11_gathers 0 [.ref 81, .int (nI h), aw_x, aw_x] [] (zH n I L c) (0, 0) _
  refine aw_iconst (v := 0) dX11_gathers_0 rfl ?_
  refine aw_istore_n (ls2 := [_, _, _, _]) dX11_gathers_1 (by decide) rfl rfl ?_
  refine aw_up (X := fun i => ∀ I, zMod (m_g1 m i) I0 I → aw_W G mX11_gathers 2 [.ref 81, .int (nI h), .int (nI i), aw_x] [] (zH n I L c) (0, 0) _) (Nat.zero_le 8) (fun I hM => ?_) (fun i _ hi ih I hM => ?_) _ hM
  · refine aw_iload_n dX11_gathers_2 rfl ?_
    refine aw_bipush (v := 8) dX11_gathers_3 (by decide) ?_
    refine aw_ic_ge (tgt := 21) dX11_gathers_5 (by decide) (fun _ => ?_) (fun z => absurd (by decide) z)
    refine aw_iconst (v := 0) dX11_gathers_21 rfl ?_
    refine aw_istore_n (ls2 := [_, _, _, _]) dX11_gathers_22 (by decide) rfl rfl ?_
    refine aw_up (X := fun i => ∀ I, zMod (m_g2 (m_g1 m 8) h i) I0 I → aw_W G mX11_gathers 23 [.ref 81, .int (nI h), .int (nI i), aw_x] [] (zH n I L c) (0, 0) _) (Nat.zero_le (t 6 0)) (fun I hM => ?_) (fun i _ hi ih I hM => ?_) _ hM
    · refine aw_iload_n dX11_gathers_23 rfl ?_
      refine aw_aload_n dX11_gathers_24 rfl ?_
      refine aw_getI dX11_gathers_25 f11_133 rfl ⟨Nat.le_of_ble_eq_true rfl, Nat.le_of_ble_eq_true rfl⟩ rfl ?_
      refine aw_top (hC.mv hM).2.2.1 ?_
      refine aw_ic_ge (tgt := 99) dX11_gathers_28 (by decide) (fun _ => ?_) (fun z => absurd (nI_le (Nat.le_refl _) (by omega)) z)
      refine aw_bipush (v := 7) dX11_gathers_99 (by decide) ?_
      refine aw_istore_n (ls2 := [_, _, _, _]) dX11_gathers_101 (by decide) rfl rfl ?_
      obtain ⟨z, hz⟩ : ∃ z, z = m_g2 (m_g1 m 8) h (t 6 0) := ⟨_, rfl⟩
      have hz9 : z 9 0 < 1000 := by rw [hz, m_g2_row (by decide) (by decide) (by decide), m_g1_row (by decide)]; exact hW.2.2
      have hz7 : ∀ p, p < 8 → z 7 p ≤ 8 := fun p hp => by rw [hz]; exact Nat.le_trans (m_g2_7 (fun p hp => m_g1_lt hp) hp) h8
      rw [m_gathers, ← hz]
      rw [← hz] at hM
      refine aw_up (X := fun i => ∀ I, zMod (m_g3 z h i) I0 I → aw_W G mX11_gathers 102 [.ref 81, .int (nI h), .int (nI (8 - i) - 1), aw_x] [] (zH n I L c) (0, 0) _) (Nat.zero_le 8) (fun I hM => ?_) (fun i _ hi ih I hM => ?_) _ hM
      · refine aw_iload_n dX11_gathers_102 rfl ?_
        refine aw_if_lt (tgt := 176) dX11_gathers_103 (by decide) (fun _ => ?_) (fun z => absurd (by decide) z)
        refine aw_ret0 dX11_gathers_176 rfl ⟨Nat.le_of_ble_eq_true rfl, Nat.le_of_ble_eq_true rfl⟩ ?_
        exact ⟨rfl, _, rfl, hM⟩
      · have e7 : I 101 (7 - i) = nI (m_g3 z h i 7 (7 - i)) := hM.at 7 (7 - i) (by decide) (by omega)
        have b7 : m_g3 z h i 7 (7 - i) ≤ 8 := by rw [m_g3_row (by decide)]; exact hz7 _ (by omega)
        have b9 : m_g3 z h i 9 0 < 1000 := m_g3_9 hz9 hh
        rw [zi_dn hi]
        refine aw_iload_n dX11_gathers_102 rfl ?_
        refine aw_if_lt (tgt := 176) dX11_gathers_103 (by decide) (fun z => absurd z (nI_pos (by omega))) (fun _ => ?_)
        refine aw_aload_n dX11_gathers_106 rfl ?_
        refine aw_getR dX11_gathers_107 f11_67 rfl ⟨Nat.le_of_ble_eq_true rfl, Nat.le_of_ble_eq_true rfl⟩ rfl rfl ?_
        refine aw_iload_n dX11_gathers_110 rfl ?_
        refine aw_iald_n dX11_gathers_111 rfl (Nat.le_of_ble_eq_true rfl) (by decide) (by omega) ?_
        refine aw_top e7 ?_
        refine aw_iconst (v := 1) dX11_gathers_112 rfl ?_
        refine aw_ic_le (tgt := 136) dX11_gathers_113 (by decide) (fun c113 => ?_) (fun c113 => ?_)
        · have kn : ¬ (1 < m_g3 z h i 7 (7 - i) ∧ (m_g3 z h i 9 0 = 0 ∨ m_g3 z h i 9 0 = h + 1)) := by
            have := (zi_le (b := 1) (by omega) (by decide)).mp c113
            omega
          refine aw_iconst (v := 0) dX11_gathers_136 rfl ?_
          refine aw_istore_n (ls2 := [_, _, _, _]) dX11_gathers_137 (by decide) rfl rfl ?_
          refine aw_aload_n dX11_gathers_138 rfl ?_
          refine aw_iload_n dX11_gathers_139 rfl ?_
          refine aw_if_eq (tgt := 147) dX11_gathers_140 (by decide) (fun _ => ?_) (fun z => absurd rfl z)
          refine aw_aload_n dX11_gathers_147 rfl ?_
          refine aw_getI dX11_gathers_148 f11_195 rfl ⟨Nat.le_of_ble_eq_true rfl, Nat.le_of_ble_eq_true rfl⟩ rfl ?_
          refine aw_top hM.2.1.1 ?_
          refine aw_putI dX11_gathers_151 f11_195 rfl ⟨Nat.le_of_ble_eq_true rfl, Nat.le_of_ble_eq_true rfl⟩ (Or.inl rfl) rfl ?_
          refine aw_aload_n dX11_gathers_154 rfl ?_
          refine aw_iload_n dX11_gathers_155 rfl ?_
          refine aw_if_eq (tgt := 163) dX11_gathers_156 (by decide) (fun _ => ?_) (fun z => absurd rfl z)
          refine aw_aload_n dX11_gathers_163 rfl ?_
          refine aw_getI dX11_gathers_164 f11_198 rfl ⟨Nat.le_of_ble_eq_true rfl, Nat.le_of_ble_eq_true rfl⟩ rfl ?_
          refine aw_top (y := nI (m_g3 z h i 9 1) - 1) hM.2.1.2 ?_
          refine aw_putI dX11_gathers_167 f11_198 rfl ⟨Nat.le_of_ble_eq_true rfl, Nat.le_of_ble_eq_true rfl⟩ (Or.inl rfl) rfl ?_
          refine aw_iinc (ls2 := [_, _, _, _]) dX11_gathers_170 rfl (by decide) rfl rfl ?_
          refine aw_goto (tgt := 102) dX11_gathers_173 (by decide) ?_
          rw [zi_dn1, show nI (7 - i) - 1 = nI (8 - (i + 1)) - 1 by rw [show 8 - (i + 1) = 7 - i by omega]]
          refine aw_kill (j := 3) (ls2 := [_, _, _, aw_x]) rfl (ih _ ?_)
          rw [m_g3, if_neg kn]
          have hz := (hM.u0 (v := m_g3 z h i 9 0)).u1 (v := m_g3 z h i 9 1)
          rw [aw_u_self] at hz
          have e2 : aw_u (m_g3 z h i) 9 1 (m_g3 z h i 9 1) = m_g3 z h i := aw_u_self
          rw [e2] at hz
          exact hz
        · refine aw_aload_n dX11_gathers_116 rfl ?_
          refine aw_getI dX11_gathers_117 f11_195 rfl ⟨Nat.le_of_ble_eq_true rfl, Nat.le_of_ble_eq_true rfl⟩ rfl ?_
          refine aw_top hM.2.1.1 ?_
          refine aw_iconst (v := -1) dX11_gathers_120 rfl ?_
          refine aw_ic_eq (tgt := 132) dX11_gathers_121 (by decide) (fun c121 => ?_) (fun c121 => ?_)
          · have k1 : 1 < m_g3 z h i 7 (7 - i) := by
              have : ¬ m_g3 z h i 7 (7 - i) ≤ 1 := fun y => c113 ((zi_le (b := 1) (by omega) (by decide)).mpr y)
              omega
            have k2 : m_g3 z h i 9 0 = 0 ∨ m_g3 z h i 9 0 = h + 1 := Or.inl ((zi_none (by omega)).mp c121)
            refine aw_iconst (v := 1) dX11_gathers_132 rfl ?_
            refine aw_goto (tgt := 137) dX11_gathers_133 (by decide) ?_
            refine aw_istore_n (ls2 := [_, _, _, _]) dX11_gathers_137 (by decide) rfl rfl ?_
            refine aw_aload_n dX11_gathers_138 rfl ?_
            refine aw_iload_n dX11_gathers_139 rfl ?_
            refine aw_if_eq (tgt := 147) dX11_gathers_140 (by decide) (fun z => absurd z (by decide)) (fun _ => ?_)
            refine aw_iload_n dX11_gathers_143 rfl ?_
            refine aw_goto (tgt := 151) dX11_gathers_144 (by decide) ?_
            refine aw_top (nI_pred h).symm ?_
            refine aw_putI dX11_gathers_151 f11_195 rfl ⟨Nat.le_of_ble_eq_true rfl, Nat.le_of_ble_eq_true rfl⟩ (Or.inl rfl) rfl ?_
            refine aw_aload_n dX11_gathers_154 rfl ?_
            refine aw_iload_n dX11_gathers_155 rfl ?_
            refine aw_if_eq (tgt := 163) dX11_gathers_156 (by decide) (fun z => absurd z (by decide)) (fun _ => ?_)
            refine aw_iload_n dX11_gathers_159 rfl ?_
            refine aw_goto (tgt := 167) dX11_gathers_160 (by decide) ?_
            refine aw_top (nI_pred (7 - i)).symm ?_
            refine aw_putI dX11_gathers_167 f11_198 rfl ⟨Nat.le_of_ble_eq_true rfl, Nat.le_of_ble_eq_true rfl⟩ (Or.inl rfl) rfl ?_
            refine aw_iinc (ls2 := [_, _, _, _]) dX11_gathers_170 rfl (by decide) rfl rfl ?_
            refine aw_goto (tgt := 102) dX11_gathers_173 (by decide) ?_
            rw [zi_dn1, show nI (7 - i) - 1 = nI (8 - (i + 1)) - 1 by rw [show 8 - (i + 1) = 7 - i by omega]]
            refine aw_kill (j := 3) (ls2 := [_, _, _, aw_x]) rfl (ih _ ?_)
            rw [m_g3, if_pos ⟨k1, k2⟩]
            exact hM.u0.u1
          · refine aw_aload_n dX11_gathers_124 rfl ?_
            refine aw_getI dX11_gathers_125 f11_195 rfl ⟨Nat.le_of_ble_eq_true rfl, Nat.le_of_ble_eq_true rfl⟩ rfl ?_
            refine aw_top hM.2.1.1 ?_
            refine aw_iload_n dX11_gathers_128 rfl ?_
            refine aw_ic_ne (tgt := 136) dX11_gathers_129 (by decide) (fun c129 => ?_) (fun c129 => ?_)
            · have kn : ¬ (1 < m_g3 z h i 7 (7 - i) ∧ (m_g3 z h i 9 0 = 0 ∨ m_g3 z h i 9 0 = h + 1)) := by
                have hn0 : m_g3 z h i 9 0 ≠ 0 := fun y => c121 ((zi_none (by omega)).mpr y)
                rw [zi_pred hn0] at c129
                have : ¬ m_g3 z h i 9 0 - 1 = h := fun y => c129 (by rw [y])
                omega
              refine aw_iconst (v := 0) dX11_gathers_136 rfl ?_
              refine aw_istore_n (ls2 := [_, _, _, _]) dX11_gathers_137 (by decide) rfl rfl ?_
              refine aw_aload_n dX11_gathers_138 rfl ?_
              refine aw_iload_n dX11_gathers_139 rfl ?_
              refine aw_if_eq (tgt := 147) dX11_gathers_140 (by decide) (fun _ => ?_) (fun z => absurd rfl z)
              refine aw_aload_n dX11_gathers_147 rfl ?_
              refine aw_getI dX11_gathers_148 f11_195 rfl ⟨Nat.le_of_ble_eq_true rfl, Nat.le_of_ble_eq_true rfl⟩ rfl ?_
              refine aw_top hM.2.1.1 ?_
              refine aw_putI dX11_gathers_151 f11_195 rfl ⟨Nat.le_of_ble_eq_true rfl, Nat.le_of_ble_eq_true rfl⟩ (Or.inl rfl) rfl ?_
              refine aw_aload_n dX11_gathers_154 rfl ?_
              refine aw_iload_n dX11_gathers_155 rfl ?_
              refine aw_if_eq (tgt := 163) dX11_gathers_156 (by decide) (fun _ => ?_) (fun z => absurd rfl z)
              refine aw_aload_n dX11_gathers_163 rfl ?_
              refine aw_getI dX11_gathers_164 f11_198 rfl ⟨Nat.le_of_ble_eq_true rfl, Nat.le_of_ble_eq_true rfl⟩ rfl ?_
              refine aw_top (y := nI (m_g3 z h i 9 1) - 1) hM.2.1.2 ?_
              refine aw_putI dX11_gathers_167 f11_198 rfl ⟨Nat.le_of_ble_eq_true rfl, Nat.le_of_ble_eq_true rfl⟩ (Or.inl rfl) rfl ?_
              refine aw_iinc (ls2 := [_, _, _, _]) dX11_gathers_170 rfl (by decide) rfl rfl ?_
              refine aw_goto (tgt := 102) dX11_gathers_173 (by decide) ?_
              rw [zi_dn1, show nI (7 - i) - 1 = nI (8 - (i + 1)) - 1 by rw [show 8 - (i + 1) = 7 - i by omega]]
              refine aw_kill (j := 3) (ls2 := [_, _, _, aw_x]) rfl (ih _ ?_)
              rw [m_g3, if_neg kn]
              have hz := (hM.u0 (v := m_g3 z h i 9 0)).u1 (v := m_g3 z h i 9 1)
              rw [aw_u_self] at hz
              have e2 : aw_u (m_g3 z h i) 9 1 (m_g3 z h i 9 1) = m_g3 z h i := aw_u_self
              rw [e2] at hz
              exact hz
            · have k1 : 1 < m_g3 z h i 7 (7 - i) := by
                have : ¬ m_g3 z h i 7 (7 - i) ≤ 1 := fun y => c113 ((zi_le (b := 1) (by omega) (by decide)).mpr y)
                omega
              have k2 : m_g3 z h i 9 0 = 0 ∨ m_g3 z h i 9 0 = h + 1 := by
                have hn0 : m_g3 z h i 9 0 ≠ 0 := fun y => c121 ((zi_none (by omega)).mpr y)
                rw [zi_pred hn0] at c129
                have := (zi_eq (by omega) (by omega)).mp c129
                right; omega
              refine aw_iconst (v := 1) dX11_gathers_132 rfl ?_
              refine aw_goto (tgt := 137) dX11_gathers_133 (by decide) ?_
              refine aw_istore_n (ls2 := [_, _, _, _]) dX11_gathers_137 (by decide) rfl rfl ?_
              refine aw_aload_n dX11_gathers_138 rfl ?_
              refine aw_iload_n dX11_gathers_139 rfl ?_
              refine aw_if_eq (tgt := 147) dX11_gathers_140 (by decide) (fun z => absurd z (by decide)) (fun _ => ?_)
              refine aw_iload_n dX11_gathers_143 rfl ?_
              refine aw_goto (tgt := 151) dX11_gathers_144 (by decide) ?_
              refine aw_top (nI_pred h).symm ?_
              refine aw_putI dX11_gathers_151 f11_195 rfl ⟨Nat.le_of_ble_eq_true rfl, Nat.le_of_ble_eq_true rfl⟩ (Or.inl rfl) rfl ?_
              refine aw_aload_n dX11_gathers_154 rfl ?_
              refine aw_iload_n dX11_gathers_155 rfl ?_
              refine aw_if_eq (tgt := 163) dX11_gathers_156 (by decide) (fun z => absurd z (by decide)) (fun _ => ?_)
              refine aw_iload_n dX11_gathers_159 rfl ?_
              refine aw_goto (tgt := 167) dX11_gathers_160 (by decide) ?_
              refine aw_top (nI_pred (7 - i)).symm ?_
              refine aw_putI dX11_gathers_167 f11_198 rfl ⟨Nat.le_of_ble_eq_true rfl, Nat.le_of_ble_eq_true rfl⟩ (Or.inl rfl) rfl ?_
              refine aw_iinc (ls2 := [_, _, _, _]) dX11_gathers_170 rfl (by decide) rfl rfl ?_
              refine aw_goto (tgt := 102) dX11_gathers_173 (by decide) ?_
              rw [zi_dn1, show nI (7 - i) - 1 = nI (8 - (i + 1)) - 1 by rw [show 8 - (i + 1) = 7 - i by omega]]
              refine aw_kill (j := 3) (ls2 := [_, _, _, aw_x]) rfl (ih _ ?_)
              rw [m_g3, if_pos ⟨k1, k2⟩]
              exact hM.u0.u1
    · have hi8 : i < 8 := by omega
      obtain ⟨q1, q2, q3, q4, q5⟩ := hW.1 i hi
      have r4 : m_g2 (m_g1 m 8) h i 4 = m 4 := by rw [m_g2_row (by decide) (by decide) (by decide), m_g1_row (by decide)]
      have r3 : m_g2 (m_g1 m 8) h i 3 = m 3 := by rw [m_g2_row (by decide) (by decide) (by decide), m_g1_row (by decide)]
      have r1 : m_g2 (m_g1 m 8) h i 1 i = m 1 i := by rw [m_g2_1, if_neg (by omega), m_g1_row (by decide)]
      have r7 : ∀ p, p < 8 → m_g2 (m_g1 m 8) h i 7 p < 1000 := fun p hp => Nat.lt_of_le_of_lt (m_g2_7 (fun p hp => m_g1_lt hp) hp) (by omega)
      have r8 := m_g2_8 (m := m_g1 m 8) (h := h) (i := i) (B := 5000) (fun p => by rw [m_g1_row (by decide)]; exact hW.2.1 p)
      have e4 : I 98 i = nI (m 4 i) := by rw [← r4]; exact hM.at 4 i (by decide) (by omega)
      have e3 : I 97 i = nI (m 3 i) - 1 := by rw [← r3]; exact hM.at 3 i (by decide) (by omega)
      have key : ∀ (z1 : Nat → Nat → Nat) (I1 : Nat → Nat → Int32), zMod z1 I0 I1 → z1 1 i ≤ 8 → (∀ p, p < 8 → z1 7 p < 1000) → m_g2 (m_g1 m 8) h (i + 1) = m_pr z1 i → aw_W G mX11_gathers 68 [.ref 81, .int (nI h), .int (nI i), aw_x] [] (zH n I1 L c) (0, 0) (zPm n L c I0 (m_gathers m h (t 6 0))) := by
        intro z1 I1 hM1 hz1 hz7 hE
        have e1 : I1 95 i = nI (z1 1 i) - 1 := hM1.at 1 i (by decide) (by omega)
        refine aw_aload_n dX11_gathers_68 rfl ?_
        refine aw_getR dX11_gathers_69 f11_49 rfl ⟨Nat.le_of_ble_eq_true rfl, Nat.le_of_ble_eq_true rfl⟩ rfl rfl ?_
        refine aw_iload_n dX11_gathers_72 rfl ?_
        refine aw_iald_n dX11_gathers_73 rfl (Nat.le_of_ble_eq_true rfl) (by decide) (by omega) ?_
        refine aw_top e1 ?_
        refine aw_iconst (v := -1) dX11_gathers_74 rfl ?_
        refine aw_ic_eq (tgt := 93) dX11_gathers_75 (by decide) (fun c75 => ?_) (fun c75 => ?_)
        · refine aw_iinc_n (ls2 := [_, _, _, _]) dX11_gathers_93 rfl (by decide) rfl rfl ?_
          refine aw_goto (tgt := 23) dX11_gathers_96 (by decide) ?_
          refine ih _ ?_
          rw [hE, m_pr, if_neg (fun y => y ((zi_none (by omega)).mp c75))]
          exact hM1
        · refine aw_aload_n dX11_gathers_78 rfl ?_
          refine aw_getR dX11_gathers_79 f11_67 rfl ⟨Nat.le_of_ble_eq_true rfl, Nat.le_of_ble_eq_true rfl⟩ rfl rfl ?_
          refine aw_aload_n dX11_gathers_82 rfl ?_
          refine aw_getR dX11_gathers_83 f11_49 rfl ⟨Nat.le_of_ble_eq_true rfl, Nat.le_of_ble_eq_true rfl⟩ rfl rfl ?_
          refine aw_iload_n dX11_gathers_86 rfl ?_
          refine aw_iald_n dX11_gathers_87 rfl (Nat.le_of_ble_eq_true rfl) (by decide) (by omega) ?_
          have hp0 : z1 1 i ≠ 0 := fun y => c75 ((zi_none (by omega)).mpr y)
          refine aw_top (e1.trans (zi_pred hp0)) ?_
          refine aw_dup2 dX11_gathers_88 rfl rfl ?_
          refine aw_iald_n dX11_gathers_89 rfl (Nat.le_of_ble_eq_true rfl) (by decide) (by omega) ?_
          refine aw_top (hM1.at 7 (z1 1 i - 1) (by decide) (by omega)) ?_
          refine aw_iconst (v := 1) dX11_gathers_90 rfl ?_
          refine aw_iadd dX11_gathers_91 ?_
          refine aw_top (nI_1 _) ?_
          refine aw_iast_n dX11_gathers_92 rfl ⟨Nat.le_of_ble_eq_true rfl, Nat.le_of_ble_eq_true rfl⟩ (by decide) (by omega) ?_
          refine aw_iinc_n (ls2 := [_, _, _, _]) dX11_gathers_93 rfl (by decide) rfl rfl ?_
          refine aw_goto (tgt := 23) dX11_gathers_96 (by decide) ?_
          refine ih _ ?_
          rw [hE, m_pr, if_pos hp0]
          exact hM1.u (i := 7) (by decide)
      refine aw_iload_n dX11_gathers_23 rfl ?_
      refine aw_aload_n dX11_gathers_24 rfl ?_
      refine aw_getI dX11_gathers_25 f11_133 rfl ⟨Nat.le_of_ble_eq_true rfl, Nat.le_of_ble_eq_true rfl⟩ rfl ?_
      refine aw_top (hC.mv hM).2.2.1 ?_
      refine aw_ic_ge (tgt := 99) dX11_gathers_28 (by decide) (fun z => absurd z (nI_ge hi (by omega))) (fun _ => ?_)
      refine aw_aload_n dX11_gathers_31 rfl ?_
      refine aw_getR dX11_gathers_32 f11_58 rfl ⟨Nat.le_of_ble_eq_true rfl, Nat.le_of_ble_eq_true rfl⟩ rfl rfl ?_
      refine aw_iload_n dX11_gathers_35 rfl ?_
      refine aw_iald_n dX11_gathers_36 rfl (Nat.le_of_ble_eq_true rfl) (by decide) hi8 ?_
      refine aw_top e4 ?_
      refine aw_iload_n dX11_gathers_37 rfl ?_
      refine aw_ic_ne (tgt := 68) dX11_gathers_38 (by decide) (fun c38 => ?_) (fun c38 => ?_)
      · have n4 : ¬ m 4 i = h := fun y => c38 (by rw [y])
        refine key _ _ hM (by rw [r1]; exact q1) r7 ?_
        rw [m_g2, m_ar, r4, if_neg n4]
      · have h4 : m 4 i = h := (zi_eq (by omega) (by omega)).mp c38
        have h3 := q3 (by omega)
        refine aw_aload_n dX11_gathers_41 rfl ?_
        refine aw_getR dX11_gathers_42 f11_49 rfl ⟨Nat.le_of_ble_eq_true rfl, Nat.le_of_ble_eq_true rfl⟩ rfl rfl ?_
        refine aw_iload_n dX11_gathers_45 rfl ?_
        refine aw_aload_n dX11_gathers_46 rfl ?_
        refine aw_getR dX11_gathers_47 f11_55 rfl ⟨Nat.le_of_ble_eq_true rfl, Nat.le_of_ble_eq_true rfl⟩ rfl rfl ?_
        refine aw_iload_n dX11_gathers_50 rfl ?_
        refine aw_iald_n dX11_gathers_51 rfl (Nat.le_of_ble_eq_true rfl) (by decide) hi8 ?_
        refine aw_top e3 ?_
        refine aw_iast_n dX11_gathers_52 rfl ⟨Nat.le_of_ble_eq_true rfl, Nat.le_of_ble_eq_true rfl⟩ (by decide) hi8 ?_
        refine aw_aload_n dX11_gathers_53 rfl ?_
        refine aw_getR dX11_gathers_54 f11_70 rfl ⟨Nat.le_of_ble_eq_true rfl, Nat.le_of_ble_eq_true rfl⟩ rfl rfl ?_
        refine aw_aload_n dX11_gathers_57 rfl ?_
        refine aw_getR dX11_gathers_58 f11_49 rfl ⟨Nat.le_of_ble_eq_true rfl, Nat.le_of_ble_eq_true rfl⟩ rfl rfl ?_
        refine aw_iload_n dX11_gathers_61 rfl ?_
        refine aw_iald_n dX11_gathers_62 rfl (Nat.le_of_ble_eq_true rfl) (by decide) hi8 ?_
        refine aw_top (aw_u_eq.trans (zi_pred h3)) ?_
        refine aw_dup2 dX11_gathers_63 rfl rfl ?_
        refine aw_iald_n dX11_gathers_64 rfl (Nat.le_of_ble_eq_true rfl) (by decide) (by omega) ?_
        refine aw_top (hM.at 8 (m 3 i - 1) (by decide) (by omega)) ?_
        refine aw_iconst (v := 1) dX11_gathers_65 rfl ?_
        refine aw_iadd dX11_gathers_66 ?_
        refine aw_top (nI_1 _) ?_
        refine aw_iast_n dX11_gathers_67 rfl ⟨Nat.le_of_ble_eq_true rfl, Nat.le_of_ble_eq_true rfl⟩ (by decide) (by omega) ?_
        refine key (aw_u (aw_u (m_g2 (m_g1 m 8) h i) 1 i (m 3 i)) 8 (m 3 i - 1) (m_g2 (m_g1 m 8) h i 8 (m 3 i - 1) + 1)) _ ((hM.u (i := 1) (j := i) (v := m 3 i) (by decide)).u (i := 8) (j := m 3 i - 1) (v := m_g2 (m_g1 m 8) h i 8 (m 3 i - 1) + 1) (by decide)) (by rw [aw_u_ne (by decide), aw_u_eq]; exact q2) (fun p hp => by rw [aw_u_ne (by decide), aw_u_ne (by decide)]; exact r7 p hp) ?_
        rw [m_g2, m_ar, r4, if_pos h4, r3]
  · refine aw_iload_n dX11_gathers_2 rfl ?_
    refine aw_bipush (v := 8) dX11_gathers_3 (by decide) ?_
    refine aw_ic_ge (tgt := 21) dX11_gathers_5 (by decide) (fun z => absurd z (nI_ge (b := 8) hi (by decide))) (fun _ => ?_)
    refine aw_aload_n dX11_gathers_8 rfl ?_
    refine aw_getR dX11_gathers_9 f11_67 rfl ⟨Nat.le_of_ble_eq_true rfl, Nat.le_of_ble_eq_true rfl⟩ rfl rfl ?_
    refine aw_iload_n dX11_gathers_12 rfl ?_
    refine aw_iconst (v := 0) dX11_gathers_13 rfl ?_
    refine aw_iast_n dX11_gathers_14 rfl ⟨Nat.le_of_ble_eq_true rfl, Nat.le_of_ble_eq_true rfl⟩ (by decide) hi ?_
    refine aw_iinc_n (ls2 := [_, _, _, _]) dX11_gathers_15 rfl (by decide) rfl rfl ?_
    refine aw_goto (tgt := 2) dX11_gathers_18 (by decide) ?_
    exact ih _ (hM.u (i := 7) (v := 0) (by decide))
theorem w_keeps (G : aw_G) {n c : Nat} {I I0 : Nat → Nat → Int32} {L : Nat → Nat → Int64} {m : Nat → Nat → Nat} (hM : zMod m I0 I) {t : Nat → Nat → Nat} (hC : zCar t I0) {h : Nat} (h8 : t 6 0 ≤ 8) (hh : h < 40) (hs : ∀ k, k < 8 → m 0 k < 100000) : aw_Met G mX11_keeps [.ref 81, .int (nI h)] (zH n I L c) (zPm n L c I0 (m_kp m h (t 6 0))) := by
  refine aw_Met.of okX11_keeps (Nat.le_of_ble_eq_true rfl) ?_
  show aw_W G mX11_keeps 0 [.ref 81, .int (nI h), aw_x] [] (zH n I L c) (0, 0) _
  refine aw_iconst (v := 0) dX11_keeps_0 rfl ?_
  refine aw_istore_n (ls2 := [_, _, _]) dX11_keeps_1 (by decide) rfl rfl ?_
  refine aw_up (X := fun i => ∀ I, zMod (m_kp m h i) I0 I → aw_W G mX11_keeps 2 [.ref 81, .int (nI h), .int (nI i)] [] (zH n I L c) (0, 0) _) (Nat.zero_le (t 6 0)) (fun I hM => ?_) (fun i _ hi ih I hM => ?_) _ hM
  · refine aw_iload_n dX11_keeps_2 rfl ?_
    refine aw_aload_n dX11_keeps_3 rfl ?_
    refine aw_getI dX11_keeps_4 f11_133 rfl ⟨Nat.le_of_ble_eq_true rfl, Nat.le_of_ble_eq_true rfl⟩ rfl ?_
    refine aw_top (hC.mv hM).2.2.1 ?_
    refine aw_ic_ge (tgt := 112) dX11_keeps_7 (by decide) (fun _ => ?_) (fun z => absurd (nI_le (Nat.le_refl _) (by omega)) z)
    refine aw_ret0 dX11_keeps_112 rfl ⟨Nat.le_of_ble_eq_true rfl, Nat.le_of_ble_eq_true rfl⟩ ?_
    exact ⟨rfl, _, rfl, hM⟩
  · have hi8 : i < 8 := by omega
    have e0 : I 94 i = nI (m_kp m h i 0 i) := hM.at 0 i (by decide) (by omega)
    have e1 : I 95 i = nI (m_kp m h i 1 i) - 1 := hM.at 1 i (by decide) (by omega)
    have e2 : I 96 i = nI (m_kp m h i 2 i) := hM.at 2 i (by decide) (by omega)
    have e3 : I 97 i = nI (m_kp m h i 3 i) - 1 := hM.at 3 i (by decide) (by omega)
    have b0 : m_kp m h i 0 i < 100000 := by rw [m_kp_row (by decide)]; exact hs i hi8
    refine aw_iload_n dX11_keeps_2 rfl ?_
    refine aw_aload_n dX11_keeps_3 rfl ?_
    refine aw_getI dX11_keeps_4 f11_133 rfl ⟨Nat.le_of_ble_eq_true rfl, Nat.le_of_ble_eq_true rfl⟩ rfl ?_
    refine aw_top (hC.mv hM).2.2.1 ?_
    refine aw_ic_ge (tgt := 112) dX11_keeps_7 (by decide) (fun z => absurd z (nI_ge hi (by omega))) (fun _ => ?_)
    refine aw_aload_n dX11_keeps_10 rfl ?_
    refine aw_getR dX11_keeps_11 f11_64 rfl ⟨Nat.le_of_ble_eq_true rfl, Nat.le_of_ble_eq_true rfl⟩ rfl rfl ?_
    refine aw_bipush (v := 32) dX11_keeps_14 (by decide) ?_
    refine aw_iload_n dX11_keeps_16 rfl ?_
    refine aw_imul dX11_keeps_17 ?_
    refine aw_iconst (v := 4) dX11_keeps_18 rfl ?_
    refine aw_iload_n dX11_keeps_19 rfl ?_
    refine aw_imul dX11_keeps_20 ?_
    refine aw_top (zi_4m _) ?_
    refine aw_iadd dX11_keeps_21 ?_
    refine aw_top (zi_32m _ _) ?_
    refine aw_aload_n dX11_keeps_22 rfl ?_
    refine aw_getR dX11_keeps_23 f11_46 rfl ⟨Nat.le_of_ble_eq_true rfl, Nat.le_of_ble_eq_true rfl⟩ rfl rfl ?_
    refine aw_iload_n dX11_keeps_26 rfl ?_
    refine aw_iald_n dX11_keeps_27 rfl (Nat.le_of_ble_eq_true rfl) (by decide) hi8 ?_
    refine aw_top e0 ?_
    refine aw_iast_n dX11_keeps_28 rfl ⟨Nat.le_of_ble_eq_true rfl, Nat.le_of_ble_eq_true rfl⟩ (by decide) (by omega) ?_
    refine aw_aload_n dX11_keeps_29 rfl ?_
    refine aw_getR dX11_keeps_30 f11_64 rfl ⟨Nat.le_of_ble_eq_true rfl, Nat.le_of_ble_eq_true rfl⟩ rfl rfl ?_
    refine aw_bipush (v := 32) dX11_keeps_33 (by decide) ?_
    refine aw_iload_n dX11_keeps_35 rfl ?_
    refine aw_imul dX11_keeps_36 ?_
    refine aw_iconst (v := 4) dX11_keeps_37 rfl ?_
    refine aw_iload_n dX11_keeps_38 rfl ?_
    refine aw_imul dX11_keeps_39 ?_
    refine aw_top (zi_4m _) ?_
    refine aw_iadd dX11_keeps_40 ?_
    refine aw_top (zi_32m _ _) ?_
    refine aw_iconst (v := 1) dX11_keeps_41 rfl ?_
    refine aw_iadd dX11_keeps_42 ?_
    refine aw_top (nI_1 _) ?_
    refine aw_aload_n dX11_keeps_43 rfl ?_
    refine aw_getR dX11_keeps_44 f11_49 rfl ⟨Nat.le_of_ble_eq_true rfl, Nat.le_of_ble_eq_true rfl⟩ rfl rfl ?_
    refine aw_iload_n dX11_keeps_47 rfl ?_
    refine aw_iald_n dX11_keeps_48 rfl (Nat.le_of_ble_eq_true rfl) (by decide) hi8 ?_
    refine aw_top e1 ?_
    refine aw_iast_n dX11_keeps_49 rfl ⟨Nat.le_of_ble_eq_true rfl, Nat.le_of_ble_eq_true rfl⟩ (by decide) (by omega) ?_
    refine aw_aload_n dX11_keeps_50 rfl ?_
    refine aw_getR dX11_keeps_51 f11_64 rfl ⟨Nat.le_of_ble_eq_true rfl, Nat.le_of_ble_eq_true rfl⟩ rfl rfl ?_
    refine aw_bipush (v := 32) dX11_keeps_54 (by decide) ?_
    refine aw_iload_n dX11_keeps_56 rfl ?_
    refine aw_imul dX11_keeps_57 ?_
    refine aw_iconst (v := 4) dX11_keeps_58 rfl ?_
    refine aw_iload_n dX11_keeps_59 rfl ?_
    refine aw_imul dX11_keeps_60 ?_
    refine aw_top (zi_4m _) ?_
    refine aw_iadd dX11_keeps_61 ?_
    refine aw_top (zi_32m _ _) ?_
    refine aw_iconst (v := 2) dX11_keeps_62 rfl ?_
    refine aw_iadd dX11_keeps_63 ?_
    refine aw_top (nI_add _ 2) ?_
    refine aw_aload_n dX11_keeps_64 rfl ?_
    refine aw_getR dX11_keeps_65 f11_52 rfl ⟨Nat.le_of_ble_eq_true rfl, Nat.le_of_ble_eq_true rfl⟩ rfl rfl ?_
    refine aw_iload_n dX11_keeps_68 rfl ?_
    refine aw_iald_n dX11_keeps_69 rfl (Nat.le_of_ble_eq_true rfl) (by decide) hi8 ?_
    refine aw_top e2 ?_
    refine aw_iast_n dX11_keeps_70 rfl ⟨Nat.le_of_ble_eq_true rfl, Nat.le_of_ble_eq_true rfl⟩ (by decide) (by omega) ?_
    refine aw_aload_n dX11_keeps_71 rfl ?_
    refine aw_getR dX11_keeps_72 f11_64 rfl ⟨Nat.le_of_ble_eq_true rfl, Nat.le_of_ble_eq_true rfl⟩ rfl rfl ?_
    refine aw_bipush (v := 32) dX11_keeps_75 (by decide) ?_
    refine aw_iload_n dX11_keeps_77 rfl ?_
    refine aw_imul dX11_keeps_78 ?_
    refine aw_iconst (v := 4) dX11_keeps_79 rfl ?_
    refine aw_iload_n dX11_keeps_80 rfl ?_
    refine aw_imul dX11_keeps_81 ?_
    refine aw_top (zi_4m _) ?_
    refine aw_iadd dX11_keeps_82 ?_
    refine aw_top (zi_32m _ _) ?_
    refine aw_iconst (v := 3) dX11_keeps_83 rfl ?_
    refine aw_iadd dX11_keeps_84 ?_
    refine aw_top (nI_add _ 3) ?_
    refine aw_aload_n dX11_keeps_85 rfl ?_
    refine aw_getR dX11_keeps_86 f11_46 rfl ⟨Nat.le_of_ble_eq_true rfl, Nat.le_of_ble_eq_true rfl⟩ rfl rfl ?_
    refine aw_iload_n dX11_keeps_89 rfl ?_
    refine aw_iald_n dX11_keeps_90 rfl (Nat.le_of_ble_eq_true rfl) (by decide) hi8 ?_
    refine aw_top e0 ?_
    refine aw_iconst (v := 1) dX11_keeps_91 rfl ?_
    refine aw_ic_ne (tgt := 104) dX11_keeps_92 (by decide) (fun c92 => ?_) (fun c92 => ?_)
    · refine aw_iconst (v := -1) dX11_keeps_104 rfl ?_
      refine aw_top (show (-1 : Int32) = nI 0 - 1 from rfl) ?_
      refine aw_iast_n dX11_keeps_105 rfl ⟨Nat.le_of_ble_eq_true rfl, Nat.le_of_ble_eq_true rfl⟩ (by decide) (by omega) ?_
      refine aw_iinc_n (ls2 := [_, _, _]) dX11_keeps_106 rfl (by decide) rfl rfl ?_
      refine aw_goto (tgt := 2) dX11_keeps_109 (by decide) ?_
      refine ih _ ?_
      rw [m_kp, if_neg (fun y => c92 (by rw [y]; rfl))]
      exact (((hM.k0 (j := 32 * h + 4 * i) (v := m_kp m h i 0 i) (by omega)).k1 (j := 32 * h + 4 * i + 1) (v := m_kp m h i 1 i) (by omega)).k0 (j := 32 * h + 4 * i + 2) (v := m_kp m h i 2 i) (by omega)).k1 (j := 32 * h + 4 * i + 3) (v := 0) (by omega)
    · refine aw_aload_n dX11_keeps_95 rfl ?_
      refine aw_getR dX11_keeps_96 f11_55 rfl ⟨Nat.le_of_ble_eq_true rfl, Nat.le_of_ble_eq_true rfl⟩ rfl rfl ?_
      refine aw_iload_n dX11_keeps_99 rfl ?_
      refine aw_iald_n dX11_keeps_100 rfl (Nat.le_of_ble_eq_true rfl) (by decide) hi8 ?_
      refine aw_top e3 ?_
      refine aw_goto (tgt := 105) dX11_keeps_101 (by decide) ?_
      refine aw_iast_n dX11_keeps_105 rfl ⟨Nat.le_of_ble_eq_true rfl, Nat.le_of_ble_eq_true rfl⟩ (by decide) (by omega) ?_
      refine aw_iinc_n (ls2 := [_, _, _]) dX11_keeps_106 rfl (by decide) rfl rfl ?_
      refine aw_goto (tgt := 2) dX11_keeps_109 (by decide) ?_
      refine ih _ ?_
      rw [m_kp, if_pos ((zi_eq (b := 1) b0 (by decide)).mp c92)]
      exact (((hM.k0 (j := 32 * h + 4 * i) (v := m_kp m h i 0 i) (by omega)).k1 (j := 32 * h + 4 * i + 1) (v := m_kp m h i 1 i) (by omega)).k0 (j := 32 * h + 4 * i + 2) (v := m_kp m h i 2 i) (by omega)).k1 (j := 32 * h + 4 * i + 3) (v := m_kp m h i 3 i) (by omega)
