/-! what was seen, rumours and markets of the reference -/
def zSm (g : Nat → Nat → Nat) (I : Nat → Nat → Int32) : Prop := I 81 28 = nI (g 3 0) ∧ g 3 0 ≤ 8 ∧ ∀ i, i < 8 → I 103 (3 * i) = nI (g 0 i) ∧ I 103 (3 * i + 1) = nI (g 1 i) ∧ I 103 (3 * i + 2) = nI (if g 2 i = 0 then 8 else g 2 i - 1) ∧ g 0 i < 40 ∧ g 1 i < 8 ∧ g 2 i ≤ 8
theorem zSm.mv {g : Nat → Nat → Nat} {I0 I : Nat → Nat → Int32} (h : zSm g I0) (hF : zFm I0 I) : zSm g I := by
  obtain ⟨h1, h2, h3⟩ := h
  refine ⟨by rw [hF.2 28 (by decide) (by decide) (by decide) (by decide) (by decide) (by decide)]; exact h1, h2, fun i hi => ?_⟩
  rw [hF.1 103 (by decide) (by decide) (by decide) (by decide) (by decide) (by decide)]
  exact h3 i hi
theorem w_isSeen (G : aw_G) {n c : Nat} {I I0 : Nat → Nat → Int32} {L : Nat → Nat → Int64} {V : Nat → Nat → Nat} {kk : Nat} {t u x y m : Nat → Nat → Nat} (hM : zMy V kk t u y m I0 I) (hP : zPu t u x y) {g : Nat → Nat → Nat} (hS : zSm g I0) : aw_Met G mX11_isSeen [.ref 81] (zH n I L c) (fun v h2 => v = some (.int (if z_fit x u g t = true then 1 else 0)) ∧ ∃ I2, h2 = zH n I2 L c ∧ zMy V kk t u y (m_lives m t u y) I0 I2 ∧ zTold x u t I2 ∧ ∀ o, o ≠ 81 → (o < 94 ∨ 102 < o) → I2 o = I o) := by
  refine aw_Met.of okX11_isSeen (Nat.le_of_ble_eq_true rfl) ?_
  show aw_W G mX11_isSeen 0 [.ref 81, aw_x, aw_x, aw_x] [] (zH n I L c) (0, 0) _
  refine aw_aload_n dX11_isSeen_0 rfl ?_
  refine aw_V0c (As := []) dX11_isSeen_1 k11_215 rfl rfl rfl ⟨Nat.le_of_ble_eq_true rfl, Nat.le_of_ble_eq_true rfl⟩ (Nat.le_of_ble_eq_true rfl) ⟨⟨Nat.le_of_ble_eq_true rfl, Nat.le_of_ble_eq_true rfl⟩, ⟨Nat.le_of_ble_eq_true rfl, Nat.le_of_ble_eq_true rfl⟩⟩ ⟨rfl, rfl⟩ (w_lv G hM hP) (fun v h2 hq => ?_)
  obtain ⟨rfl, I2, rfl, hM2, hTo, hFr⟩ := hq
  refine aw_iconst (v := 1) dX11_isSeen_4 rfl ?_
  refine aw_istore_n (ls2 := [_, _, _, _]) dX11_isSeen_5 (by decide) rfl rfl ?_
  refine aw_iconst (v := 0) dX11_isSeen_6 rfl ?_
  refine aw_istore_n (ls2 := [_, _, _, _]) dX11_isSeen_7 (by decide) rfl rfl ?_
  have h8 := hP.1.1
  have hS2 := hS.mv hM2.2.2.2.2.2.2.2
  have hg8 := hS2.2.1
  refine aw_up (X := fun i => z_fi x u g t i = true → aw_W G mX11_isSeen 8 [.ref 81, .int 1, .int (nI i), aw_x] [] (zH n I2 L c) (0, 0) _) (Nat.zero_le (g 3 0)) ?_ (fun i _ hi ih => ?_) rfl
  · intro hz
    refine aw_iload_n dX11_isSeen_8 rfl ?_
    refine aw_aload_n dX11_isSeen_9 rfl ?_
    refine aw_getI dX11_isSeen_10 f11_258 rfl ⟨Nat.le_of_ble_eq_true rfl, Nat.le_of_ble_eq_true rfl⟩ rfl ?_
    refine aw_top hS2.1 ?_
    refine aw_ic_ge_n (a := g 3 0) (b := g 3 0) (tgt := 105) dX11_isSeen_13 (by decide) (by omega) (by omega) (fun c13 => ?_) (fun z => absurd z (by omega))
    refine aw_iload_n dX11_isSeen_105 rfl ?_
    refine aw_reti dX11_isSeen_106 rfl rfl ⟨Nat.le_of_ble_eq_true rfl, Nat.le_of_ble_eq_true rfl⟩ ?_
    exact ⟨by rw [if_pos (show z_fit x u g t = true from hz)], _, rfl, hM2, hTo, fun o h1 h2 => hFr.2.2.1 o h1 h2⟩
  · intro hz
    have hgi := hS2.2.2 i (by omega)
    obtain ⟨w8, hw8⟩ : ∃ w8, w8 = (if g 2 i = 0 then 8 else g 2 i - 1) := ⟨_, rfl⟩
    have hw9 : (g 2 i = 0 ∧ w8 = 8) ∨ (g 2 i ≠ 0 ∧ w8 + 1 = g 2 i) := by
      rw [hw8]; split <;> omega
    have hgb := hgi.2.2.2
    have hzk := zok_nI (j := g 1 i) (b := t 6 0) (by omega)
    refine aw_iload_n dX11_isSeen_8 rfl ?_
    refine aw_aload_n dX11_isSeen_9 rfl ?_
    refine aw_getI dX11_isSeen_10 f11_258 rfl ⟨Nat.le_of_ble_eq_true rfl, Nat.le_of_ble_eq_true rfl⟩ rfl ?_
    refine aw_top hS2.1 ?_
    refine aw_ic_ge_n (a := i) (b := g 3 0) (tgt := 105) dX11_isSeen_13 (by decide) (by omega) (by omega) (fun z => absurd z (by omega)) (fun c13 => ?_)
    refine aw_iload_n dX11_isSeen_16 rfl ?_
    refine aw_if_eq (tgt := 105) dX11_isSeen_17 (by decide) (fun z => absurd z (by decide)) (fun _ => ?_)
    refine aw_aload_n dX11_isSeen_20 rfl ?_
    refine aw_getR dX11_isSeen_21 f11_73 rfl ⟨Nat.le_of_ble_eq_true rfl, Nat.le_of_ble_eq_true rfl⟩ rfl rfl ?_
    refine aw_iconst (v := 3) dX11_isSeen_24 rfl ?_
    refine aw_iload_n dX11_isSeen_25 rfl ?_
    refine aw_imul_n (a := 3) (b := i) dX11_isSeen_26 ?_
    refine aw_iconst (v := 1) dX11_isSeen_27 rfl ?_
    refine aw_iadd_n (a := 3 * i) (b := 1) dX11_isSeen_28 ?_
    refine aw_iald_n (j := (3 * i) + 1) dX11_isSeen_29 rfl (Nat.le_of_ble_eq_true rfl) (by decide) (by omega) ?_
    refine aw_top hgi.2.1 ?_
    refine aw_istore_n (ls2 := [_, _, _, _]) dX11_isSeen_30 (by decide) rfl rfl ?_
    refine aw_aload_n dX11_isSeen_31 rfl ?_
    refine aw_iload_n dX11_isSeen_32 rfl ?_
    refine aw_V0c (As := [_]) dX11_isSeen_33 k11_153 rfl rfl rfl ⟨Nat.le_of_ble_eq_true rfl, Nat.le_of_ble_eq_true rfl⟩ (Nat.le_of_ble_eq_true rfl) ⟨⟨Nat.le_of_ble_eq_true rfl, Nat.le_of_ble_eq_true rfl⟩, ⟨Nat.le_of_ble_eq_true rfl, Nat.le_of_ble_eq_true rfl⟩⟩ ⟨rfl, rfl⟩ (w_isCarter G (nI (g 1 i)) hM2.2.1.2.2.1 hP.1.1) (fun v h2 hq => ?_)
    obtain ⟨rfl, rfl⟩ := hq
    refine aw_if_eq_B (tgt := 97) dX11_isSeen_36 (by decide) (fun c36 => ?_) (fun c36 => ?_)
    · have c36 : ¬ g 1 i < t 6 0 := fun z => c36 (hzk.mpr z)
      refine aw_iconst (v := 0) dX11_isSeen_97 rfl ?_
      refine aw_istore_n (ls2 := [_, _, _, _]) dX11_isSeen_98 (by decide) rfl rfl ?_
      refine aw_iinc_n (ls2 := [_, _, _, _]) dX11_isSeen_99 rfl (by decide) rfl rfl ?_
      refine aw_goto (tgt := 8) dX11_isSeen_102 (by decide) ?_
      refine aw_iload_n dX11_isSeen_8 rfl ?_
      refine aw_aload_n dX11_isSeen_9 rfl ?_
      refine aw_getI dX11_isSeen_10 f11_258 rfl ⟨Nat.le_of_ble_eq_true rfl, Nat.le_of_ble_eq_true rfl⟩ rfl ?_
      refine aw_top hS2.1 ?_
      refine aw_ic_ge_n (a := i + 1) (b := g 3 0) (tgt := 105) dX11_isSeen_13 (by decide) (by omega) (by omega) (fun c13 => ?_) (fun c13 => ?_)
      · refine aw_iload_n dX11_isSeen_105 rfl ?_
        refine aw_reti dX11_isSeen_106 rfl rfl ⟨Nat.le_of_ble_eq_true rfl, Nat.le_of_ble_eq_true rfl⟩ ?_
        refine ⟨?_, _, rfl, hM2, hTo, fun o h1 h2 => hFr.2.2.1 o h1 h2⟩
        have e : z_fi x u g t (i + 1) = false := by
          rw [z_fi, decide_eq_false c36]; simp
        have e2 := z_fi_stop e (g 3 0 - (i + 1))
        rw [show i + 1 + (g 3 0 - (i + 1)) = g 3 0 by omega] at e2
        rw [if_neg (by rw [z_fit, e2]; decide)]
      · refine aw_iload_n dX11_isSeen_16 rfl ?_
        refine aw_if_eq (tgt := 105) dX11_isSeen_17 (by decide) (fun _ => ?_) (fun z => absurd (by decide) z)
        refine aw_iload_n dX11_isSeen_105 rfl ?_
        refine aw_reti dX11_isSeen_106 rfl rfl ⟨Nat.le_of_ble_eq_true rfl, Nat.le_of_ble_eq_true rfl⟩ ?_
        refine ⟨?_, _, rfl, hM2, hTo, fun o h1 h2 => hFr.2.2.1 o h1 h2⟩
        have e : z_fi x u g t (i + 1) = false := by
          rw [z_fi, decide_eq_false c36]; simp
        have e2 := z_fi_stop e (g 3 0 - (i + 1))
        rw [show i + 1 + (g 3 0 - (i + 1)) = g 3 0 by omega] at e2
        rw [if_neg (by rw [z_fit, e2]; decide)]
    · have c36 : g 1 i < t 6 0 := hzk.mp c36
      have hsl := o_sb_le (g := g 0 i) hP c36
      refine aw_aload_n dX11_isSeen_39 rfl ?_
      refine aw_getR dX11_isSeen_40 f11_64 rfl ⟨Nat.le_of_ble_eq_true rfl, Nat.le_of_ble_eq_true rfl⟩ rfl rfl ?_
      refine aw_bipush (v := 32) dX11_isSeen_43 (by decide) ?_
      refine aw_aload_n dX11_isSeen_45 rfl ?_
      refine aw_getR dX11_isSeen_46 f11_73 rfl ⟨Nat.le_of_ble_eq_true rfl, Nat.le_of_ble_eq_true rfl⟩ rfl rfl ?_
      refine aw_iconst (v := 3) dX11_isSeen_49 rfl ?_
      refine aw_iload_n dX11_isSeen_50 rfl ?_
      refine aw_imul_n (a := 3) (b := i) dX11_isSeen_51 ?_
      refine aw_iald_n (j := 3 * i) dX11_isSeen_52 rfl (Nat.le_of_ble_eq_true rfl) (by decide) (by omega) ?_
      refine aw_top hgi.1 ?_
      refine aw_imul_n (a := 32) (b := g 0 i) dX11_isSeen_53 ?_
      refine aw_iconst (v := 4) dX11_isSeen_54 rfl ?_
      refine aw_iload_n dX11_isSeen_55 rfl ?_
      refine aw_imul_n (a := 4) (b := g 1 i) dX11_isSeen_56 ?_
      refine aw_iadd_n (a := 32 * (g 0 i)) (b := 4 * (g 1 i)) dX11_isSeen_57 ?_
      refine aw_iconst (v := 1) dX11_isSeen_58 rfl ?_
      refine aw_iadd_n (a := (32 * (g 0 i)) + (4 * (g 1 i))) (b := 1) dX11_isSeen_59 ?_
      refine aw_iald_n (j := ((32 * (g 0 i)) + (4 * (g 1 i))) + 1) dX11_isSeen_60 rfl (Nat.le_of_ble_eq_true rfl) (by decide) (by omega) ?_
      refine aw_top (show _ = nI (o_sb x u t (g 1 i) (g 0 i)) - 1 from (hTo (g 1 i) c36).2.2 (g 0 i) (by omega)) ?_
      refine aw_aload_n dX11_isSeen_61 rfl ?_
      refine aw_getR dX11_isSeen_62 f11_73 rfl ⟨Nat.le_of_ble_eq_true rfl, Nat.le_of_ble_eq_true rfl⟩ rfl rfl ?_
      refine aw_iconst (v := 3) dX11_isSeen_65 rfl ?_
      refine aw_iload_n dX11_isSeen_66 rfl ?_
      refine aw_imul_n (a := 3) (b := i) dX11_isSeen_67 ?_
      refine aw_iconst (v := 2) dX11_isSeen_68 rfl ?_
      refine aw_iadd_n (a := 3 * i) (b := 2) dX11_isSeen_69 ?_
      refine aw_iald_n (j := (3 * i) + 2) dX11_isSeen_70 rfl (Nat.le_of_ble_eq_true rfl) (by decide) (by omega) ?_
      refine aw_top (hgi.2.2.1.trans (congrArg nI hw8.symm)) ?_
      refine aw_bipush (v := 8) dX11_isSeen_71 (by decide) ?_
      refine aw_ic_ne_n (a := w8) (b := 8) (tgt := 80) dX11_isSeen_73 (by decide) (by omega) (by omega) (fun c73 => ?_) (fun c73 => ?_)
      · refine aw_aload_n dX11_isSeen_80 rfl ?_
        refine aw_getR dX11_isSeen_81 f11_73 rfl ⟨Nat.le_of_ble_eq_true rfl, Nat.le_of_ble_eq_true rfl⟩ rfl rfl ?_
        refine aw_iconst (v := 3) dX11_isSeen_84 rfl ?_
        refine aw_iload_n dX11_isSeen_85 rfl ?_
        refine aw_imul_n (a := 3) (b := i) dX11_isSeen_86 ?_
        refine aw_iconst (v := 2) dX11_isSeen_87 rfl ?_
        refine aw_iadd_n (a := 3 * i) (b := 2) dX11_isSeen_88 ?_
        refine aw_iald_n (j := (3 * i) + 2) dX11_isSeen_89 rfl (Nat.le_of_ble_eq_true rfl) (by decide) (by omega) ?_
        refine aw_top (hgi.2.2.1.trans (congrArg nI hw8.symm)) ?_
        refine aw_top (show _ = nI (w8 + 1) - 1 from (nI_pred w8).symm) ?_
        refine aw_ic_ne_p (a := o_sb x u t (g 1 i) (g 0 i)) (b := w8 + 1) (tgt := 97) dX11_isSeen_90 (by decide) (by omega) (by omega) (fun c90 => ?_) (fun c90 => ?_)
        · refine aw_iconst (v := 0) dX11_isSeen_97 rfl ?_
          refine aw_istore_n (ls2 := [_, _, _, _]) dX11_isSeen_98 (by decide) rfl rfl ?_
          refine aw_iinc_n (ls2 := [_, _, _, _]) dX11_isSeen_99 rfl (by decide) rfl rfl ?_
          refine aw_goto (tgt := 8) dX11_isSeen_102 (by decide) ?_
          refine aw_iload_n dX11_isSeen_8 rfl ?_
          refine aw_aload_n dX11_isSeen_9 rfl ?_
          refine aw_getI dX11_isSeen_10 f11_258 rfl ⟨Nat.le_of_ble_eq_true rfl, Nat.le_of_ble_eq_true rfl⟩ rfl ?_
          refine aw_top hS2.1 ?_
          refine aw_ic_ge_n (a := i + 1) (b := g 3 0) (tgt := 105) dX11_isSeen_13 (by decide) (by omega) (by omega) (fun c13 => ?_) (fun c13 => ?_)
          · refine aw_iload_n dX11_isSeen_105 rfl ?_
            refine aw_reti dX11_isSeen_106 rfl rfl ⟨Nat.le_of_ble_eq_true rfl, Nat.le_of_ble_eq_true rfl⟩ ?_
            refine ⟨?_, _, rfl, hM2, hTo, fun o h1 h2 => hFr.2.2.1 o h1 h2⟩
            have e : z_fi x u g t (i + 1) = false := by
              rw [z_fi, decide_eq_false (show ¬ o_sb x u t (g 1 i) (g 0 i) = g 2 i by omega)]; simp
            have e2 := z_fi_stop e (g 3 0 - (i + 1))
            rw [show i + 1 + (g 3 0 - (i + 1)) = g 3 0 by omega] at e2
            rw [if_neg (by rw [z_fit, e2]; decide)]
          · refine aw_iload_n dX11_isSeen_16 rfl ?_
            refine aw_if_eq (tgt := 105) dX11_isSeen_17 (by decide) (fun _ => ?_) (fun z => absurd (by decide) z)
            refine aw_iload_n dX11_isSeen_105 rfl ?_
            refine aw_reti dX11_isSeen_106 rfl rfl ⟨Nat.le_of_ble_eq_true rfl, Nat.le_of_ble_eq_true rfl⟩ ?_
            refine ⟨?_, _, rfl, hM2, hTo, fun o h1 h2 => hFr.2.2.1 o h1 h2⟩
            have e : z_fi x u g t (i + 1) = false := by
              rw [z_fi, decide_eq_false (show ¬ o_sb x u t (g 1 i) (g 0 i) = g 2 i by omega)]; simp
            have e2 := z_fi_stop e (g 3 0 - (i + 1))
            rw [show i + 1 + (g 3 0 - (i + 1)) = g 3 0 by omega] at e2
            rw [if_neg (by rw [z_fit, e2]; decide)]
        · refine aw_iconst (v := 1) dX11_isSeen_93 rfl ?_
          refine aw_goto (tgt := 98) dX11_isSeen_94 (by decide) ?_
          refine aw_istore_n (ls2 := [_, _, _, _]) dX11_isSeen_98 (by decide) rfl rfl ?_
          refine aw_iinc_n (ls2 := [_, _, _, _]) dX11_isSeen_99 rfl (by decide) rfl rfl ?_
          refine aw_goto (tgt := 8) dX11_isSeen_102 (by decide) ?_
          refine aw_kill (j := 3) (ls2 := [_, _, _, aw_x]) rfl (ih ?_)
          rw [z_fi, hz, decide_eq_true c36, decide_eq_true (show o_sb x u t (g 1 i) (g 0 i) = g 2 i by omega)]; rfl
      · refine aw_iconst (v := -1) dX11_isSeen_76 rfl ?_
        refine aw_goto (tgt := 90) dX11_isSeen_77 (by decide) ?_
        refine aw_ic_ne_p (a := o_sb x u t (g 1 i) (g 0 i)) (b := 0) (tgt := 97) dX11_isSeen_90 (by decide) (by omega) (by omega) (fun c90 => ?_) (fun c90 => ?_)
        · refine aw_iconst (v := 0) dX11_isSeen_97 rfl ?_
          refine aw_istore_n (ls2 := [_, _, _, _]) dX11_isSeen_98 (by decide) rfl rfl ?_
          refine aw_iinc_n (ls2 := [_, _, _, _]) dX11_isSeen_99 rfl (by decide) rfl rfl ?_
          refine aw_goto (tgt := 8) dX11_isSeen_102 (by decide) ?_
          refine aw_iload_n dX11_isSeen_8 rfl ?_
          refine aw_aload_n dX11_isSeen_9 rfl ?_
          refine aw_getI dX11_isSeen_10 f11_258 rfl ⟨Nat.le_of_ble_eq_true rfl, Nat.le_of_ble_eq_true rfl⟩ rfl ?_
          refine aw_top hS2.1 ?_
          refine aw_ic_ge_n (a := i + 1) (b := g 3 0) (tgt := 105) dX11_isSeen_13 (by decide) (by omega) (by omega) (fun c13 => ?_) (fun c13 => ?_)
          · refine aw_iload_n dX11_isSeen_105 rfl ?_
            refine aw_reti dX11_isSeen_106 rfl rfl ⟨Nat.le_of_ble_eq_true rfl, Nat.le_of_ble_eq_true rfl⟩ ?_
            refine ⟨?_, _, rfl, hM2, hTo, fun o h1 h2 => hFr.2.2.1 o h1 h2⟩
            have e : z_fi x u g t (i + 1) = false := by
              rw [z_fi, decide_eq_false (show ¬ o_sb x u t (g 1 i) (g 0 i) = g 2 i by omega)]; simp
            have e2 := z_fi_stop e (g 3 0 - (i + 1))
            rw [show i + 1 + (g 3 0 - (i + 1)) = g 3 0 by omega] at e2
            rw [if_neg (by rw [z_fit, e2]; decide)]
          · refine aw_iload_n dX11_isSeen_16 rfl ?_
            refine aw_if_eq (tgt := 105) dX11_isSeen_17 (by decide) (fun _ => ?_) (fun z => absurd (by decide) z)
            refine aw_iload_n dX11_isSeen_105 rfl ?_
            refine aw_reti dX11_isSeen_106 rfl rfl ⟨Nat.le_of_ble_eq_true rfl, Nat.le_of_ble_eq_true rfl⟩ ?_
            refine ⟨?_, _, rfl, hM2, hTo, fun o h1 h2 => hFr.2.2.1 o h1 h2⟩
            have e : z_fi x u g t (i + 1) = false := by
              rw [z_fi, decide_eq_false (show ¬ o_sb x u t (g 1 i) (g 0 i) = g 2 i by omega)]; simp
            have e2 := z_fi_stop e (g 3 0 - (i + 1))
            rw [show i + 1 + (g 3 0 - (i + 1)) = g 3 0 by omega] at e2
            rw [if_neg (by rw [z_fit, e2]; decide)]
        · refine aw_iconst (v := 1) dX11_isSeen_93 rfl ?_
          refine aw_goto (tgt := 98) dX11_isSeen_94 (by decide) ?_
          refine aw_istore_n (ls2 := [_, _, _, _]) dX11_isSeen_98 (by decide) rfl rfl ?_
          refine aw_iinc_n (ls2 := [_, _, _, _]) dX11_isSeen_99 rfl (by decide) rfl rfl ?_
          refine aw_goto (tgt := 8) dX11_isSeen_102 (by decide) ?_
          refine aw_kill (j := 3) (ls2 := [_, _, _, aw_x]) rfl (ih ?_)
          rw [z_fi, hz, decide_eq_true c36, decide_eq_true (show o_sb x u t (g 1 i) (g 0 i) = g 2 i by omega)]; rfl
theorem w_neverNow (G : aw_G) {n c : Nat} {I I0 : Nat → Nat → Int32} {L : Nat → Nat → Int64} {V : Nat → Nat → Nat} {kk : Nat} {t u x y m : Nat → Nat → Nat} (hM : zMy V kk t u y m I0 I) (hP : zPu t u x y) {g : Nat → Nat → Nat} (hS : zSm g I0) (h0 : t 6 1 = 0) : aw_Met G mX11_neverNow [.ref 81] (zH n I L c) (fun v h2 => v = some (.int (nI (z_who (fun a => z_fit x u g (aw_u t 6 1 (2 ^ a))) (u 2 0)))) ∧ ∃ I2, h2 = zH n I2 L c ∧ ∃ m2, zMy V kk t u y m2 I0 I2) := by
  refine aw_Met.of okX11_neverNow (Nat.le_of_ble_eq_true rfl) ?_
  show aw_W G mX11_neverNow 0 [.ref 81, aw_x, aw_x] [] (zH n I L c) (0, 0) _
  refine aw_iconst (v := 0) dX11_neverNow_0 rfl ?_
  refine aw_istore_n (ls2 := [_, _, _]) dX11_neverNow_1 (by decide) rfl rfl ?_
  refine aw_iconst (v := 0) dX11_neverNow_2 rfl ?_
  refine aw_istore_n (ls2 := [_, _, _]) dX11_neverNow_3 (by decide) rfl rfl ?_
  have hu8 := hP.2.2.1.1
  refine aw_up (X := fun i => ∀ I m v0, zMy V kk (aw_u t 6 1 v0) u y m I0 I → aw_W G mX11_neverNow 4 [.ref 81, .int (nI (z_who (fun a => z_fit x u g (aw_u t 6 1 (2 ^ a))) i)), .int (nI i)] [] (zH n I L c) (0, 0) _) (Nat.zero_le (u 2 0)) (fun I m v0 hM => ?_) (fun i _ hi ih I m v0 hM => ?_) _ _ (t 6 1) (by rw [aw_u_id]; exact hM)
  · refine aw_iload_n dX11_neverNow_4 rfl ?_
    refine aw_aload_n dX11_neverNow_5 rfl ?_
    refine aw_getI dX11_neverNow_6 f11_166 rfl ⟨Nat.le_of_ble_eq_true rfl, Nat.le_of_ble_eq_true rfl⟩ rfl ?_
    refine aw_top hM.2.2.1.1 ?_
    refine aw_ic_ge_n (a := u 2 0) (b := u 2 0) (tgt := 42) dX11_neverNow_9 (by decide) (by omega) (by omega) (fun c9 => ?_) (fun z => absurd z (by omega))
    refine aw_aload_n dX11_neverNow_42 rfl ?_
    refine aw_iconst (v := 0) dX11_neverNow_43 rfl ?_
    refine aw_putI dX11_neverNow_44 f11_174 rfl ⟨Nat.le_of_ble_eq_true rfl, Nat.le_of_ble_eq_true rfl⟩ (Or.inl rfl) rfl ?_
    refine aw_iload_n dX11_neverNow_47 rfl ?_
    refine aw_reti dX11_neverNow_48 rfl rfl ⟨Nat.le_of_ble_eq_true rfl, Nat.le_of_ble_eq_true rfl⟩ ?_
    refine ⟨rfl, _, rfl, m, ?_⟩
    have h := hM.gn (v := 0)
    rw [aw_u_uu, show aw_u t 6 1 0 = t from by conv => rhs; rw [← aw_u_id (F := t) (o := 6) (j := 1), h0]] at h
    exact h
  · have hp2 : 2 ^ i ≤ 2 ^ 8 := Nat.pow_le_pow_right (by decide) (by omega)
    refine aw_iload_n dX11_neverNow_4 rfl ?_
    refine aw_aload_n dX11_neverNow_5 rfl ?_
    refine aw_getI dX11_neverNow_6 f11_166 rfl ⟨Nat.le_of_ble_eq_true rfl, Nat.le_of_ble_eq_true rfl⟩ rfl ?_
    refine aw_top hM.2.2.1.1 ?_
    refine aw_ic_ge_n (a := i) (b := u 2 0) (tgt := 42) dX11_neverNow_9 (by decide) (by omega) (by omega) (fun z => absurd z (by omega)) (fun c9 => ?_)
    refine aw_aload_n dX11_neverNow_12 rfl ?_
    refine aw_iconst (v := 1) dX11_neverNow_13 rfl ?_
    refine aw_iload_n dX11_neverNow_14 rfl ?_
    refine aw_ishl dX11_neverNow_15 ?_
    refine aw_top (zi_sh1 i (by omega)) ?_
    refine aw_putI dX11_neverNow_16 f11_174 rfl ⟨Nat.le_of_ble_eq_true rfl, Nat.le_of_ble_eq_true rfl⟩ (Or.inl rfl) rfl ?_
    have hM1 := hM.gn (v := 2 ^ i)
    rw [aw_u_uu] at hM1
    have hP1 : zPu (aw_u t 6 1 (2 ^ i)) u x y := hP.gn (by omega)
    refine aw_iload_n dX11_neverNow_19 rfl ?_
    refine aw_aload_n dX11_neverNow_20 rfl ?_
    refine aw_V0c (As := []) dX11_neverNow_21 k11_261 rfl rfl rfl ⟨Nat.le_of_ble_eq_true rfl, Nat.le_of_ble_eq_true rfl⟩ (Nat.le_of_ble_eq_true rfl) ⟨⟨Nat.le_of_ble_eq_true rfl, Nat.le_of_ble_eq_true rfl⟩, ⟨Nat.le_of_ble_eq_true rfl, Nat.le_of_ble_eq_true rfl⟩⟩ ⟨rfl, rfl⟩ (w_isSeen G hM1 hP1 hS) (fun v h2 hq => ?_)
    obtain ⟨rfl, I2, rfl, hM2, hTo, hFr⟩ := hq
    refine aw_if_eq_B (tgt := 33) dX11_neverNow_24 (by decide) (fun c24 => ?_) (fun c24 => ?_)
    · refine aw_iconst (v := 0) dX11_neverNow_33 rfl ?_
      refine aw_ior dX11_neverNow_34 ?_
      refine aw_istore_n (ls2 := [_, _, _]) dX11_neverNow_35 (by decide) rfl rfl ?_
      refine aw_iinc_n (ls2 := [_, _, _]) dX11_neverNow_36 rfl (by decide) rfl rfl ?_
      refine aw_goto (tgt := 4) dX11_neverNow_39 (by decide) ?_
      have e : z_who (fun a => z_fit x u g (aw_u t 6 1 (2 ^ a))) (i + 1) = z_who (fun a => z_fit x u g (aw_u t 6 1 (2 ^ a))) i := by rw [z_who, if_neg c24]
      rw [e] at ih
      rw [zi_or0 _ (z_who_256 (by omega))]
      exact ih _ _ _ hM2
    · refine aw_iconst (v := 1) dX11_neverNow_27 rfl ?_
      refine aw_iload_n dX11_neverNow_28 rfl ?_
      refine aw_ishl dX11_neverNow_29 ?_
      refine aw_goto (tgt := 34) dX11_neverNow_30 (by decide) ?_
      refine aw_ior dX11_neverNow_34 ?_
      refine aw_istore_n (ls2 := [_, _, _]) dX11_neverNow_35 (by decide) rfl rfl ?_
      refine aw_iinc_n (ls2 := [_, _, _]) dX11_neverNow_36 rfl (by decide) rfl rfl ?_
      refine aw_goto (tgt := 4) dX11_neverNow_39 (by decide) ?_
      have e : z_who (fun a => z_fit x u g (aw_u t 6 1 (2 ^ a))) (i + 1) = z_who (fun a => z_fit x u g (aw_u t 6 1 (2 ^ a))) i + 2 ^ i := by rw [z_who, if_pos c24]
      rw [e] at ih
      rw [zi_or i (by omega) _ (z_who_256 (by omega)) z_who_lt]
      exact ih _ _ _ hM2
def zPc (x u t : Nat → Nat → Nat) (k v : Nat) (I : Nat → Nat → Int32) : Prop := ∀ w h, w < v → h < 40 → I 104 (40 * w + h) = nI (o_sb x u (aw_u t 2 k w) k h) - 1
theorem w_sortOf (G : aw_G) {n c : Nat} {I I0 : Nat → Nat → Int32} {L : Nat → Nat → Int64} {V : Nat → Nat → Nat} {kk : Nat} {t u x y m : Nat → Nat → Nat} (hM : zMy V kk t u y m I0 I) (hP : zPu t u x y) {g : Nat → Nat → Nat} (hS : zSm g I0) {k : Nat} (hk : k < t 6 0) : aw_Met G mX11_sortOf [.ref 81, .int (nI k)] (zH n I L c) (fun v h2 => v = some (.int (nI (z_who (fun v => z_fit x u g (aw_u t 2 k v)) 3))) ∧ ∃ I2, h2 = zH n I2 L c ∧ (∃ m2, zMy V kk t u y m2 I0 I2) ∧ zPc x u t k 3 I2) := by
  have h8 := hP.1.1
  refine aw_Met.of okX11_sortOf (Nat.le_of_ble_eq_true rfl) ?_
  show aw_W G mX11_sortOf 0 [.ref 81, .int (nI k), aw_x, aw_x, aw_x, aw_x] [] (zH n I L c) (0, 0) _
  refine aw_aload_n dX11_sortOf_0 rfl ?_
  refine aw_getR dX11_sortOf_1 f11_31 rfl ⟨Nat.le_of_ble_eq_true rfl, Nat.le_of_ble_eq_true rfl⟩ rfl rfl ?_
  refine aw_iconst (v := 5) dX11_sortOf_4 rfl ?_
  refine aw_iload_n dX11_sortOf_5 rfl ?_
  refine aw_imul_n (a := 5) (b := k) dX11_sortOf_6 ?_
  refine aw_iconst (v := 2) dX11_sortOf_7 rfl ?_
  refine aw_iadd_n (a := 5 * k) (b := 2) dX11_sortOf_8 ?_
  refine aw_iald_n (j := (5 * k) + 2) dX11_sortOf_9 rfl (Nat.le_of_ble_eq_true rfl) (by decide) (by omega) ?_
  refine aw_top (hM.2.1.1 2 k (by decide) hk) ?_
  refine aw_istore_n (ls2 := [_, _, _, _, _, _]) dX11_sortOf_10 (by decide) rfl rfl ?_
  refine aw_iconst (v := 0) dX11_sortOf_11 rfl ?_
  refine aw_istore_n (ls2 := [_, _, _, _, _, _]) dX11_sortOf_12 (by decide) rfl rfl ?_
  refine aw_iconst (v := 0) dX11_sortOf_13 rfl ?_
  refine aw_istore (ls2 := [_, _, _, _, _, _]) dX11_sortOf_14 (by decide) rfl rfl ?_
  refine aw_up (X := fun i => ∀ I m v0, zMy V kk (aw_u t 2 k v0) u y m I0 I ∧ zPc x u t k i I → aw_W G mX11_sortOf 16 [.ref 81, .int (nI k), .int (nI (t 2 k)), .int (nI (z_who (fun v => z_fit x u g (aw_u t 2 k v)) i)), .int (nI i), aw_x] [] (zH n I L c) (0, 0) _) (Nat.zero_le 3) (fun I m v0 hh => ?_) (fun i _ hi ih I m v0 hh => ?_) _ _ (t 2 k) ⟨by rw [aw_u_id]; exact hM, fun w h hw => absurd hw (by omega)⟩
  · obtain ⟨hM, hPc⟩ := hh
    refine aw_iload dX11_sortOf_16 rfl ?_
    refine aw_iconst (v := 3) dX11_sortOf_18 rfl ?_
    refine aw_ic_ge_n (a := 3) (b := 3) (tgt := 103) dX11_sortOf_19 (by decide) (by omega) (by omega) (fun c19 => ?_) (fun z => absurd z (by omega))
    refine aw_aload_n dX11_sortOf_103 rfl ?_
    refine aw_getR dX11_sortOf_104 f11_31 rfl ⟨Nat.le_of_ble_eq_true rfl, Nat.le_of_ble_eq_true rfl⟩ rfl rfl ?_
    refine aw_iconst (v := 5) dX11_sortOf_107 rfl ?_
    refine aw_iload_n dX11_sortOf_108 rfl ?_
    refine aw_imul_n (a := 5) (b := k) dX11_sortOf_109 ?_
    refine aw_iconst (v := 2) dX11_sortOf_110 rfl ?_
    refine aw_iadd_n (a := 5 * k) (b := 2) dX11_sortOf_111 ?_
    refine aw_iload_n dX11_sortOf_112 rfl ?_
    refine aw_iast_n (j := (5 * k) + 2) dX11_sortOf_113 rfl ⟨Nat.le_of_ble_eq_true rfl, Nat.le_of_ble_eq_true rfl⟩ (by decide) (by omega) ?_
    refine aw_iload_n dX11_sortOf_114 rfl ?_
    refine aw_reti dX11_sortOf_115 rfl rfl ⟨Nat.le_of_ble_eq_true rfl, Nat.le_of_ble_eq_true rfl⟩ ?_
    refine ⟨rfl, _, rfl, ⟨m, ?_⟩, fun w h hw hh => by rw [aw_u_ne (by decide)]; exact hPc w h hw hh⟩
    have h := hM.st (i := 2) (k := k) (v := t 2 k) (by decide) (by rw [aw_u_ne (by decide)]; exact hk)
    rw [aw_u_uu, aw_u_id] at h
    exact h
  · obtain ⟨hM, hPc⟩ := hh
    refine aw_iload dX11_sortOf_16 rfl ?_
    refine aw_iconst (v := 3) dX11_sortOf_18 rfl ?_
    refine aw_ic_ge_n (a := i) (b := 3) (tgt := 103) dX11_sortOf_19 (by decide) (by omega) (by omega) (fun z => absurd z (by omega)) (fun c19 => ?_)
    refine aw_aload_n dX11_sortOf_22 rfl ?_
    refine aw_getR dX11_sortOf_23 f11_31 rfl ⟨Nat.le_of_ble_eq_true rfl, Nat.le_of_ble_eq_true rfl⟩ rfl rfl ?_
    refine aw_iconst (v := 5) dX11_sortOf_26 rfl ?_
    refine aw_iload_n dX11_sortOf_27 rfl ?_
    refine aw_imul_n (a := 5) (b := k) dX11_sortOf_28 ?_
    refine aw_iconst (v := 2) dX11_sortOf_29 rfl ?_
    refine aw_iadd_n (a := 5 * k) (b := 2) dX11_sortOf_30 ?_
    refine aw_iload dX11_sortOf_31 rfl ?_
    refine aw_iast_n (j := (5 * k) + 2) dX11_sortOf_33 rfl ⟨Nat.le_of_ble_eq_true rfl, Nat.le_of_ble_eq_true rfl⟩ (by decide) (by omega) ?_
    have hM1 := hM.st (i := 2) (k := k) (v := i) (by decide) (by rw [aw_u_ne (by decide)]; exact hk)
    rw [aw_u_uu] at hM1
    have hP1 : zPu (aw_u t 2 k i) u x y := hP.st (i := 2) (by decide) (show i < 3 by omega)
    refine aw_iload_n dX11_sortOf_34 rfl ?_
    refine aw_aload_n dX11_sortOf_35 rfl ?_
    refine aw_V0c (As := []) dX11_sortOf_36 k11_261 rfl rfl rfl ⟨Nat.le_of_ble_eq_true rfl, Nat.le_of_ble_eq_true rfl⟩ (Nat.le_of_ble_eq_true rfl) ⟨⟨Nat.le_of_ble_eq_true rfl, Nat.le_of_ble_eq_true rfl⟩, ⟨Nat.le_of_ble_eq_true rfl, Nat.le_of_ble_eq_true rfl⟩⟩ ⟨rfl, rfl⟩ (w_isSeen G hM1 hP1 hS) (fun v h2 hq => ?_)
    obtain ⟨rfl, I2, rfl, hM2, hTo, hFr⟩ := hq
    refine aw_if_eq_B (tgt := 49) dX11_sortOf_39 (by decide) (fun c39 => ?_) (fun c39 => ?_)
    · refine aw_iconst (v := 0) dX11_sortOf_49 rfl ?_
      refine aw_ior dX11_sortOf_50 ?_
      refine aw_istore_n (ls2 := [_, _, _, _, _, _]) dX11_sortOf_51 (by decide) rfl rfl ?_
      refine aw_iconst (v := 0) dX11_sortOf_52 rfl ?_
      refine aw_istore (ls2 := [_, _, _, _, _, _]) dX11_sortOf_53 (by decide) rfl rfl ?_
      have e : z_who (fun v => z_fit x u g (aw_u t 2 k v)) (i + 1) = z_who (fun v => z_fit x u g (aw_u t 2 k v)) i := by rw [z_who, if_neg c39]
      rw [zi_or0 _ (z_who_256 (by omega)), ← e]
      refine aw_up (X := fun h => ∀ I, zMy V kk (aw_u t 2 k i) u y (m_lives m (aw_u t 2 k i) u y) I0 I ∧ (∀ g, g < 40 → I 100 (32 * g + 4 * k + 1) = nI (o_sb x u (aw_u t 2 k i) k g) - 1) ∧ zPc x u t k i I ∧ (∀ g, g < h → I 104 (40 * i + g) = nI (o_sb x u (aw_u t 2 k i) k g) - 1) → aw_W G mX11_sortOf 55 [.ref 81, .int (nI k), .int (nI (t 2 k)), .int (nI (z_who (fun v => z_fit x u g (aw_u t 2 k v)) (i + 1))), .int (nI i), .int (nI h)] [] (zH n I L c) (0, 0) _) (Nat.zero_le 40) (fun I hh => ?_) (fun h _ hh0 ih2 I hh => ?_) _ ⟨hM2, fun g hg => (hTo k (by rw [aw_u_ne (by decide)]; exact hk)).2.2 g hg, fun w g hw hg => by rw [hFr 104 (by decide) (by decide), aw_u_ne (by decide)]; exact hPc w g hw hg, fun g hg => by omega⟩
      · obtain ⟨hM, hKp, hPc, hNw⟩ := hh
        refine aw_iload dX11_sortOf_55 rfl ?_
        refine aw_bipush (v := 40) dX11_sortOf_57 (by decide) ?_
        refine aw_ic_ge_n (a := 40) (b := 40) (tgt := 97) dX11_sortOf_59 (by decide) (by omega) (by omega) (fun c59 => ?_) (fun z => absurd z (by omega))
        refine aw_iinc_n (ls2 := [_, _, _, _, _, _]) dX11_sortOf_97 rfl (by decide) rfl rfl ?_
        refine aw_goto (tgt := 16) dX11_sortOf_100 (by decide) ?_
        refine aw_kill (j := 5) (ls2 := [_, _, _, _, _, aw_x]) rfl (ih _ _ _ ⟨hM, fun w h hw hh => ?_⟩)
        by_cases hwi : w = i
        · subst hwi; exact hNw h hh
        · exact hPc w h (by omega) hh
      · obtain ⟨hM, hKp, hPc, hNw⟩ := hh
        refine aw_iload dX11_sortOf_55 rfl ?_
        refine aw_bipush (v := 40) dX11_sortOf_57 (by decide) ?_
        refine aw_ic_ge_n (a := h) (b := 40) (tgt := 97) dX11_sortOf_59 (by decide) (by omega) (by omega) (fun z => absurd z (by omega)) (fun c59 => ?_)
        refine aw_aload_n dX11_sortOf_62 rfl ?_
        refine aw_getR dX11_sortOf_63 f11_76 rfl ⟨Nat.le_of_ble_eq_true rfl, Nat.le_of_ble_eq_true rfl⟩ rfl rfl ?_
        refine aw_bipush (v := 40) dX11_sortOf_66 (by decide) ?_
        refine aw_iload dX11_sortOf_68 rfl ?_
        refine aw_imul_n (a := 40) (b := i) dX11_sortOf_70 ?_
        refine aw_iload dX11_sortOf_71 rfl ?_
        refine aw_iadd_n (a := 40 * i) (b := h) dX11_sortOf_73 ?_
        refine aw_aload_n dX11_sortOf_74 rfl ?_
        refine aw_getR dX11_sortOf_75 f11_64 rfl ⟨Nat.le_of_ble_eq_true rfl, Nat.le_of_ble_eq_true rfl⟩ rfl rfl ?_
        refine aw_bipush (v := 32) dX11_sortOf_78 (by decide) ?_
        refine aw_iload dX11_sortOf_80 rfl ?_
        refine aw_imul_n (a := 32) (b := h) dX11_sortOf_82 ?_
        refine aw_iconst (v := 4) dX11_sortOf_83 rfl ?_
        refine aw_iload_n dX11_sortOf_84 rfl ?_
        refine aw_imul_n (a := 4) (b := k) dX11_sortOf_85 ?_
        refine aw_iadd_n (a := 32 * h) (b := 4 * k) dX11_sortOf_86 ?_
        refine aw_iconst (v := 1) dX11_sortOf_87 rfl ?_
        refine aw_iadd_n (a := (32 * h) + (4 * k)) (b := 1) dX11_sortOf_88 ?_
        refine aw_iald_n (j := ((32 * h) + (4 * k)) + 1) dX11_sortOf_89 rfl (Nat.le_of_ble_eq_true rfl) (by decide) (by omega) ?_
        refine aw_top (show _ = nI (o_sb x u (aw_u t 2 k i) k h) - 1 from hKp h hh0) ?_
        refine aw_iast_n (j := (40 * i) + h) dX11_sortOf_90 rfl ⟨Nat.le_of_ble_eq_true rfl, Nat.le_of_ble_eq_true rfl⟩ (by decide) (by omega) ?_
        refine aw_iinc_n (ls2 := [_, _, _, _, _, _]) dX11_sortOf_91 rfl (by decide) rfl rfl ?_
        refine aw_goto (tgt := 55) dX11_sortOf_94 (by decide) ?_
        refine ih2 _ ⟨hM.pl, fun g hg => by rw [aw_u_ne (by decide)]; exact hKp g hg, fun w g hw hg => ?_, fun g hg => ?_⟩
        · rw [aw_u_nj (by omega)]; exact hPc w g hw hg
        · by_cases hgh : g = h
          · subst hgh; rw [aw_u_eq]
          · rw [aw_u_nj (by omega)]; exact hNw g (by omega)
    · refine aw_iconst (v := 1) dX11_sortOf_42 rfl ?_
      refine aw_iload dX11_sortOf_43 rfl ?_
      refine aw_ishl dX11_sortOf_45 ?_
      refine aw_goto (tgt := 50) dX11_sortOf_46 (by decide) ?_
      refine aw_ior dX11_sortOf_50 ?_
      refine aw_istore_n (ls2 := [_, _, _, _, _, _]) dX11_sortOf_51 (by decide) rfl rfl ?_
      refine aw_iconst (v := 0) dX11_sortOf_52 rfl ?_
      refine aw_istore (ls2 := [_, _, _, _, _, _]) dX11_sortOf_53 (by decide) rfl rfl ?_
      have e : z_who (fun v => z_fit x u g (aw_u t 2 k v)) (i + 1) = z_who (fun v => z_fit x u g (aw_u t 2 k v)) i + 2 ^ i := by rw [z_who, if_pos c39]
      rw [zi_or i (by omega) _ (z_who_256 (by omega)) z_who_lt, ← e]
      refine aw_up (X := fun h => ∀ I, zMy V kk (aw_u t 2 k i) u y (m_lives m (aw_u t 2 k i) u y) I0 I ∧ (∀ g, g < 40 → I 100 (32 * g + 4 * k + 1) = nI (o_sb x u (aw_u t 2 k i) k g) - 1) ∧ zPc x u t k i I ∧ (∀ g, g < h → I 104 (40 * i + g) = nI (o_sb x u (aw_u t 2 k i) k g) - 1) → aw_W G mX11_sortOf 55 [.ref 81, .int (nI k), .int (nI (t 2 k)), .int (nI (z_who (fun v => z_fit x u g (aw_u t 2 k v)) (i + 1))), .int (nI i), .int (nI h)] [] (zH n I L c) (0, 0) _) (Nat.zero_le 40) (fun I hh => ?_) (fun h _ hh0 ih2 I hh => ?_) _ ⟨hM2, fun g hg => (hTo k (by rw [aw_u_ne (by decide)]; exact hk)).2.2 g hg, fun w g hw hg => by rw [hFr 104 (by decide) (by decide), aw_u_ne (by decide)]; exact hPc w g hw hg, fun g hg => by omega⟩
      · obtain ⟨hM, hKp, hPc, hNw⟩ := hh
        refine aw_iload dX11_sortOf_55 rfl ?_
        refine aw_bipush (v := 40) dX11_sortOf_57 (by decide) ?_
        refine aw_ic_ge_n (a := 40) (b := 40) (tgt := 97) dX11_sortOf_59 (by decide) (by omega) (by omega) (fun c59 => ?_) (fun z => absurd z (by omega))
        refine aw_iinc_n (ls2 := [_, _, _, _, _, _]) dX11_sortOf_97 rfl (by decide) rfl rfl ?_
        refine aw_goto (tgt := 16) dX11_sortOf_100 (by decide) ?_
        refine aw_kill (j := 5) (ls2 := [_, _, _, _, _, aw_x]) rfl (ih _ _ _ ⟨hM, fun w h hw hh => ?_⟩)
        by_cases hwi : w = i
        · subst hwi; exact hNw h hh
        · exact hPc w h (by omega) hh
      · obtain ⟨hM, hKp, hPc, hNw⟩ := hh
        refine aw_iload dX11_sortOf_55 rfl ?_
        refine aw_bipush (v := 40) dX11_sortOf_57 (by decide) ?_
        refine aw_ic_ge_n (a := h) (b := 40) (tgt := 97) dX11_sortOf_59 (by decide) (by omega) (by omega) (fun z => absurd z (by omega)) (fun c59 => ?_)
        refine aw_aload_n dX11_sortOf_62 rfl ?_
        refine aw_getR dX11_sortOf_63 f11_76 rfl ⟨Nat.le_of_ble_eq_true rfl, Nat.le_of_ble_eq_true rfl⟩ rfl rfl ?_
        refine aw_bipush (v := 40) dX11_sortOf_66 (by decide) ?_
        refine aw_iload dX11_sortOf_68 rfl ?_
        refine aw_imul_n (a := 40) (b := i) dX11_sortOf_70 ?_
        refine aw_iload dX11_sortOf_71 rfl ?_
        refine aw_iadd_n (a := 40 * i) (b := h) dX11_sortOf_73 ?_
        refine aw_aload_n dX11_sortOf_74 rfl ?_
        refine aw_getR dX11_sortOf_75 f11_64 rfl ⟨Nat.le_of_ble_eq_true rfl, Nat.le_of_ble_eq_true rfl⟩ rfl rfl ?_
        refine aw_bipush (v := 32) dX11_sortOf_78 (by decide) ?_
        refine aw_iload dX11_sortOf_80 rfl ?_
        refine aw_imul_n (a := 32) (b := h) dX11_sortOf_82 ?_
        refine aw_iconst (v := 4) dX11_sortOf_83 rfl ?_
        refine aw_iload_n dX11_sortOf_84 rfl ?_
        refine aw_imul_n (a := 4) (b := k) dX11_sortOf_85 ?_
        refine aw_iadd_n (a := 32 * h) (b := 4 * k) dX11_sortOf_86 ?_
        refine aw_iconst (v := 1) dX11_sortOf_87 rfl ?_
        refine aw_iadd_n (a := (32 * h) + (4 * k)) (b := 1) dX11_sortOf_88 ?_
        refine aw_iald_n (j := ((32 * h) + (4 * k)) + 1) dX11_sortOf_89 rfl (Nat.le_of_ble_eq_true rfl) (by decide) (by omega) ?_
        refine aw_top (show _ = nI (o_sb x u (aw_u t 2 k i) k h) - 1 from hKp h hh0) ?_
        refine aw_iast_n (j := (40 * i) + h) dX11_sortOf_90 rfl ⟨Nat.le_of_ble_eq_true rfl, Nat.le_of_ble_eq_true rfl⟩ (by decide) (by omega) ?_
        refine aw_iinc_n (ls2 := [_, _, _, _, _, _]) dX11_sortOf_91 rfl (by decide) rfl rfl ?_
        refine aw_goto (tgt := 55) dX11_sortOf_94 (by decide) ?_
        refine ih2 _ ⟨hM.pl, fun g hg => by rw [aw_u_ne (by decide)]; exact hKp g hg, fun w g hw hg => ?_, fun g hg => ?_⟩
        · rw [aw_u_nj (by omega)]; exact hPc w g hw hg
        · by_cases hgh : g = h
          · subst hgh; rw [aw_u_eq]
          · rw [aw_u_nj (by omega)]; exact hNw g (by omega)
def r_force (f : Nat → Bool) (a : Nat) : Int32 := if a = 0 then nI (zc f 100) else if a = 1 then nI (zfst f 100) - 1 else nI (z_la f 100) - 1
theorem w_forceOf (G : aw_G) {n c : Nat} {I I0 : Nat → Nat → Int32} {L : Nat → Nat → Int64} {V : Nat → Nat → Nat} {kk : Nat} {t u x y m : Nat → Nat → Nat} (hM : zMy V kk t u y m I0 I) (hP : zPu t u x y) {g : Nat → Nat → Nat} (hS : zSm g I0) {k a : Nat} (hk : k < t 6 0) (ha : a < 3) : aw_Met G mX11_forceOf [.ref 81, .int (nI k), .int (nI a)] (zH n I L c) (fun v h2 => v = some (.int (r_force (fun v => z_fit x u g (aw_u t 3 k v)) a)) ∧ ∃ I2, h2 = zH n I2 L c ∧ ∃ m2, zMy V kk t u y m2 I0 I2) := by
  have h8 := hP.1.1
  refine aw_Met.of okX11_forceOf (Nat.le_of_ble_eq_true rfl) ?_
  show aw_W G mX11_forceOf 0 [.ref 81, .int (nI k), .int (nI a), aw_x, aw_x, aw_x, aw_x, aw_x, aw_x] [] (zH n I L c) (0, 0) _
  refine aw_aload_n dX11_forceOf_0 rfl ?_
  refine aw_getR dX11_forceOf_1 f11_31 rfl ⟨Nat.le_of_ble_eq_true rfl, Nat.le_of_ble_eq_true rfl⟩ rfl rfl ?_
  refine aw_iconst (v := 5) dX11_forceOf_4 rfl ?_
  refine aw_iload_n dX11_forceOf_5 rfl ?_
  refine aw_imul_n (a := 5) (b := k) dX11_forceOf_6 ?_
  refine aw_iconst (v := 3) dX11_forceOf_7 rfl ?_
  refine aw_iadd_n (a := 5 * k) (b := 3) dX11_forceOf_8 ?_
  refine aw_iald_n (j := (5 * k) + 3) dX11_forceOf_9 rfl (Nat.le_of_ble_eq_true rfl) (by decide) (by omega) ?_
  refine aw_top (hM.2.1.1 3 k (by decide) hk) ?_
  refine aw_istore_n (ls2 := [_, _, _, _, _, _, _, _, _]) dX11_forceOf_10 (by decide) rfl rfl ?_
  refine aw_iconst (v := 0) dX11_forceOf_11 rfl ?_
  refine aw_istore (ls2 := [_, _, _, _, _, _, _, _, _]) dX11_forceOf_12 (by decide) rfl rfl ?_
  refine aw_iconst (v := -1) dX11_forceOf_14 rfl ?_
  refine aw_istore (ls2 := [_, _, _, _, _, _, _, _, _]) dX11_forceOf_15 (by decide) rfl rfl ?_
  refine aw_iconst (v := -1) dX11_forceOf_17 rfl ?_
  refine aw_istore (ls2 := [_, _, _, _, _, _, _, _, _]) dX11_forceOf_18 (by decide) rfl rfl ?_
  refine aw_iconst (v := 0) dX11_forceOf_20 rfl ?_
  refine aw_istore (ls2 := [_, _, _, _, _, _, _, _, _]) dX11_forceOf_21 (by decide) rfl rfl ?_
  refine aw_up (X := fun i => ∀ I m v0, zMy V kk (aw_u t 3 k v0) u y m I0 I → aw_W G mX11_forceOf 23 [.ref 81, .int (nI k), .int (nI a), .int (nI (t 3 k)), .int (nI (zc (fun v => z_fit x u g (aw_u t 3 k v)) i)), .int (nI (zfst (fun v => z_fit x u g (aw_u t 3 k v)) i) - 1), .int (nI (z_la (fun v => z_fit x u g (aw_u t 3 k v)) i) - 1), .int (nI i), aw_x] [] (zH n I L c) (0, 0) _) (Nat.zero_le 100) (fun I m v0 hM => ?_) (fun i _ hi ih I m v0 hM => ?_) _ _ (t 3 k) (by rw [aw_u_id]; exact hM)
  · refine aw_iload dX11_forceOf_23 rfl ?_
    refine aw_bipush (v := 100) dX11_forceOf_25 (by decide) ?_
    refine aw_ic_ge_n (a := 100) (b := 100) (tgt := 103) dX11_forceOf_27 (by decide) (by omega) (by omega) (fun c27 => ?_) (fun z => absurd z (by omega))
    refine aw_aload_n dX11_forceOf_103 rfl ?_
    refine aw_getR dX11_forceOf_104 f11_31 rfl ⟨Nat.le_of_ble_eq_true rfl, Nat.le_of_ble_eq_true rfl⟩ rfl rfl ?_
    refine aw_iconst (v := 5) dX11_forceOf_107 rfl ?_
    refine aw_iload_n dX11_forceOf_108 rfl ?_
    refine aw_imul_n (a := 5) (b := k) dX11_forceOf_109 ?_
    refine aw_iconst (v := 3) dX11_forceOf_110 rfl ?_
    refine aw_iadd_n (a := 5 * k) (b := 3) dX11_forceOf_111 ?_
    refine aw_iload_n dX11_forceOf_112 rfl ?_
    refine aw_iast_n (j := (5 * k) + 3) dX11_forceOf_113 rfl ⟨Nat.le_of_ble_eq_true rfl, Nat.le_of_ble_eq_true rfl⟩ (by decide) (by omega) ?_
    refine aw_iload_n dX11_forceOf_114 rfl ?_
    refine aw_if_ne_n (a := a) (tgt := 123) dX11_forceOf_115 (by decide) (by omega) (fun c115 => ?_) (fun c115 => ?_)
    · refine aw_iload_n dX11_forceOf_123 rfl ?_
      refine aw_iconst (v := 1) dX11_forceOf_124 rfl ?_
      refine aw_ic_ne_n (a := a) (b := 1) (tgt := 133) dX11_forceOf_125 (by decide) (by omega) (by omega) (fun c125 => ?_) (fun c125 => ?_)
      · refine aw_iload dX11_forceOf_133 rfl ?_
        refine aw_reti dX11_forceOf_135 rfl rfl ⟨Nat.le_of_ble_eq_true rfl, Nat.le_of_ble_eq_true rfl⟩ ?_
        refine ⟨by unfold r_force; rw [if_neg c115, if_neg c125], _, rfl, m, ?_⟩
        have h := hM.st (i := 3) (k := k) (v := t 3 k) (by decide) (by rw [aw_u_ne (by decide)]; exact hk)
        rw [aw_u_uu, aw_u_id] at h
        exact h
      · refine aw_iload dX11_forceOf_128 rfl ?_
        refine aw_goto (tgt := 135) dX11_forceOf_130 (by decide) ?_
        refine aw_reti dX11_forceOf_135 rfl rfl ⟨Nat.le_of_ble_eq_true rfl, Nat.le_of_ble_eq_true rfl⟩ ?_
        refine ⟨by unfold r_force; rw [if_neg c115, if_pos c125], _, rfl, m, ?_⟩
        have h := hM.st (i := 3) (k := k) (v := t 3 k) (by decide) (by rw [aw_u_ne (by decide)]; exact hk)
        rw [aw_u_uu, aw_u_id] at h
        exact h
    · refine aw_iload dX11_forceOf_118 rfl ?_
      refine aw_goto (tgt := 135) dX11_forceOf_120 (by decide) ?_
      refine aw_reti dX11_forceOf_135 rfl rfl ⟨Nat.le_of_ble_eq_true rfl, Nat.le_of_ble_eq_true rfl⟩ ?_
      refine ⟨by unfold r_force; rw [if_pos c115], _, rfl, m, ?_⟩
      have h := hM.st (i := 3) (k := k) (v := t 3 k) (by decide) (by rw [aw_u_ne (by decide)]; exact hk)
      rw [aw_u_uu, aw_u_id] at h
      exact h
  · have hb1 : zc (fun v => z_fit x u g (aw_u t 3 k v)) i ≤ i := zc_le0
    have hb2 : zfst (fun v => z_fit x u g (aw_u t 3 k v)) i ≤ i := zfst_le
    have hb3 : z_la (fun v => z_fit x u g (aw_u t 3 k v)) i ≤ i := z_la_le
    refine aw_iload dX11_forceOf_23 rfl ?_
    refine aw_bipush (v := 100) dX11_forceOf_25 (by decide) ?_
    refine aw_ic_ge_n (a := i) (b := 100) (tgt := 103) dX11_forceOf_27 (by decide) (by omega) (by omega) (fun z => absurd z (by omega)) (fun c27 => ?_)
    refine aw_aload_n dX11_forceOf_30 rfl ?_
    refine aw_getR dX11_forceOf_31 f11_31 rfl ⟨Nat.le_of_ble_eq_true rfl, Nat.le_of_ble_eq_true rfl⟩ rfl rfl ?_
    refine aw_iconst (v := 5) dX11_forceOf_34 rfl ?_
    refine aw_iload_n dX11_forceOf_35 rfl ?_
    refine aw_imul_n (a := 5) (b := k) dX11_forceOf_36 ?_
    refine aw_iconst (v := 3) dX11_forceOf_37 rfl ?_
    refine aw_iadd_n (a := 5 * k) (b := 3) dX11_forceOf_38 ?_
    refine aw_iload dX11_forceOf_39 rfl ?_
    refine aw_iast_n (j := (5 * k) + 3) dX11_forceOf_41 rfl ⟨Nat.le_of_ble_eq_true rfl, Nat.le_of_ble_eq_true rfl⟩ (by decide) (by omega) ?_
    have hM1 := hM.st (i := 3) (k := k) (v := i) (by decide) (by rw [aw_u_ne (by decide)]; exact hk)
    rw [aw_u_uu] at hM1
    have hP1 : zPu (aw_u t 3 k i) u x y := hP.st (i := 3) (by decide) (show i < 1000 by omega)
    refine aw_aload_n dX11_forceOf_42 rfl ?_
    refine aw_V0c (As := []) dX11_forceOf_43 k11_261 rfl rfl rfl ⟨Nat.le_of_ble_eq_true rfl, Nat.le_of_ble_eq_true rfl⟩ (Nat.le_of_ble_eq_true rfl) ⟨⟨Nat.le_of_ble_eq_true rfl, Nat.le_of_ble_eq_true rfl⟩, ⟨Nat.le_of_ble_eq_true rfl, Nat.le_of_ble_eq_true rfl⟩⟩ ⟨rfl, rfl⟩ (w_isSeen G hM1 hP1 hS) (fun v h2 hq => ?_)
    obtain ⟨rfl, I2, rfl, hM2, hTo, hFr⟩ := hq
    refine aw_istore (ls2 := [_, _, _, _, _, _, _, _, _]) dX11_forceOf_46 (by decide) rfl rfl ?_
    refine aw_iload dX11_forceOf_48 rfl ?_
    refine aw_iload dX11_forceOf_50 rfl ?_
    refine aw_if_eq_B (tgt := 59) dX11_forceOf_52 (by decide) (fun c52 => ?_) (fun c52 => ?_)
    · refine aw_iconst (v := 0) dX11_forceOf_59 rfl ?_
      refine aw_iadd_n (a := zc (fun v => z_fit x u g (aw_u t 3 k v)) i) (b := 0) dX11_forceOf_60 ?_
      refine aw_istore (ls2 := [_, _, _, _, _, _, _, _, _]) dX11_forceOf_61 (by decide) rfl rfl ?_
      refine aw_iload dX11_forceOf_63 rfl ?_
      refine aw_if_eq_B (tgt := 79) dX11_forceOf_65 (by decide) (fun c65 => ?_) (fun z => absurd z c52)
      refine aw_iload dX11_forceOf_79 rfl ?_
      refine aw_istore (ls2 := [_, _, _, _, _, _, _, _, _]) dX11_forceOf_81 (by decide) rfl rfl ?_
      refine aw_iload dX11_forceOf_83 rfl ?_
      refine aw_if_eq_B (tgt := 93) dX11_forceOf_85 (by decide) (fun c85 => ?_) (fun z => absurd z c52)
      refine aw_iload dX11_forceOf_93 rfl ?_
      refine aw_istore (ls2 := [_, _, _, _, _, _, _, _, _]) dX11_forceOf_95 (by decide) rfl rfl ?_
      refine aw_iinc_n (ls2 := [_, _, _, _, _, _, _, _, _]) dX11_forceOf_97 rfl (by decide) rfl rfl ?_
      refine aw_goto (tgt := 23) dX11_forceOf_100 (by decide) ?_
      refine aw_kill (j := 8) (ls2 := [_, _, _, _, _, _, _, _, aw_x]) rfl ?_
      have e1 : zc (fun v => z_fit x u g (aw_u t 3 k v)) (i + 1) = zc (fun v => z_fit x u g (aw_u t 3 k v)) i := by rw [zc, if_neg c52]; rfl
      have e2 : zfst (fun v => z_fit x u g (aw_u t 3 k v)) (i + 1) = zfst (fun v => z_fit x u g (aw_u t 3 k v)) i := by
        rw [zfst, if_neg c52]
        by_cases hz : zfst (fun v => z_fit x u g (aw_u t 3 k v)) i ≠ 0
        · rw [if_pos hz]
        · rw [if_neg hz]; omega
      have e3 : z_la (fun v => z_fit x u g (aw_u t 3 k v)) (i + 1) = z_la (fun v => z_fit x u g (aw_u t 3 k v)) i := by rw [z_la, if_neg c52]
      rw [e1, e2, e3] at ih
      exact ih _ _ _ hM2
    · refine aw_iconst (v := 1) dX11_forceOf_55 rfl ?_
      refine aw_goto (tgt := 60) dX11_forceOf_56 (by decide) ?_
      refine aw_iadd_n (a := zc (fun v => z_fit x u g (aw_u t 3 k v)) i) (b := 1) dX11_forceOf_60 ?_
      refine aw_istore (ls2 := [_, _, _, _, _, _, _, _, _]) dX11_forceOf_61 (by decide) rfl rfl ?_
      refine aw_iload dX11_forceOf_63 rfl ?_
      refine aw_if_eq_B (tgt := 79) dX11_forceOf_65 (by decide) (fun z => absurd z (fun q => q c52)) (fun c65 => ?_)
      refine aw_iload dX11_forceOf_68 rfl ?_
      refine aw_iconst (v := -1) dX11_forceOf_70 rfl ?_
      refine aw_ic_ne_p (a := zfst (fun v => z_fit x u g (aw_u t 3 k v)) i) (b := 0) (tgt := 79) dX11_forceOf_71 (by decide) (by omega) (by omega) (fun c71 => ?_) (fun c71 => ?_)
      · refine aw_iload dX11_forceOf_79 rfl ?_
        refine aw_istore (ls2 := [_, _, _, _, _, _, _, _, _]) dX11_forceOf_81 (by decide) rfl rfl ?_
        refine aw_iload dX11_forceOf_83 rfl ?_
        refine aw_if_eq_B (tgt := 93) dX11_forceOf_85 (by decide) (fun z => absurd z (fun q => q c52)) (fun c85 => ?_)
        refine aw_iload dX11_forceOf_88 rfl ?_
        refine aw_goto (tgt := 95) dX11_forceOf_90 (by decide) ?_
        refine aw_istore (ls2 := [_, _, _, _, _, _, _, _, _]) dX11_forceOf_95 (by decide) rfl rfl ?_
        refine aw_iinc_n (ls2 := [_, _, _, _, _, _, _, _, _]) dX11_forceOf_97 rfl (by decide) rfl rfl ?_
        refine aw_goto (tgt := 23) dX11_forceOf_100 (by decide) ?_
        refine aw_kill (j := 8) (ls2 := [_, _, _, _, _, _, _, _, aw_x]) rfl ?_
        have e1 : zc (fun v => z_fit x u g (aw_u t 3 k v)) (i + 1) = zc (fun v => z_fit x u g (aw_u t 3 k v)) i + 1 := by rw [zc, if_pos c52]
        have e3 : z_la (fun v => z_fit x u g (aw_u t 3 k v)) (i + 1) = i + 1 := by rw [z_la, if_pos c52]
        have e2 : zfst (fun v => z_fit x u g (aw_u t 3 k v)) (i + 1) = zfst (fun v => z_fit x u g (aw_u t 3 k v)) i := by rw [zfst, if_pos c71]
        rw [e1, e2, e3, nI_pred] at ih
        exact ih _ _ _ hM2
      · refine aw_iload dX11_forceOf_74 rfl ?_
        refine aw_goto (tgt := 81) dX11_forceOf_76 (by decide) ?_
        refine aw_istore (ls2 := [_, _, _, _, _, _, _, _, _]) dX11_forceOf_81 (by decide) rfl rfl ?_
        refine aw_iload dX11_forceOf_83 rfl ?_
        refine aw_if_eq_B (tgt := 93) dX11_forceOf_85 (by decide) (fun z => absurd z (fun q => q c52)) (fun c85 => ?_)
        refine aw_iload dX11_forceOf_88 rfl ?_
        refine aw_goto (tgt := 95) dX11_forceOf_90 (by decide) ?_
        refine aw_istore (ls2 := [_, _, _, _, _, _, _, _, _]) dX11_forceOf_95 (by decide) rfl rfl ?_
        refine aw_iinc_n (ls2 := [_, _, _, _, _, _, _, _, _]) dX11_forceOf_97 rfl (by decide) rfl rfl ?_
        refine aw_goto (tgt := 23) dX11_forceOf_100 (by decide) ?_
        refine aw_kill (j := 8) (ls2 := [_, _, _, _, _, _, _, _, aw_x]) rfl ?_
        have e1 : zc (fun v => z_fit x u g (aw_u t 3 k v)) (i + 1) = zc (fun v => z_fit x u g (aw_u t 3 k v)) i + 1 := by rw [zc, if_pos c52]
        have e3 : z_la (fun v => z_fit x u g (aw_u t 3 k v)) (i + 1) = i + 1 := by rw [z_la, if_pos c52]
        have e2 : zfst (fun v => z_fit x u g (aw_u t 3 k v)) (i + 1) = i + 1 := by rw [zfst, if_neg (fun q => q c71), if_pos c52]
        rw [e1, e2, e3, nI_pred] at ih
        exact ih _ _ _ hM2
