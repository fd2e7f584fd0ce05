/-! THE CHARTS of the class -/
theorem zi_ex (x : Int32) : x = nI x.toBitVec.toNat := by
  apply Int32.toBitVec_inj.mp
  apply BitVec.eq_of_toNat_eq
  rw [pk_tn x.toBitVec.isLt]
theorem zi_ex1 (x : Int32) : x = nI (x + 1).toBitVec.toNat - 1 := by
  rw [← zi_ex, Int32.add_sub_cancel]
def zCx (e d r : Nat → Nat) (ch : Nat) (I0 I : Nat → Nat → Int32) : Prop := (∀ j, j < 64 → I (ch + 1) j = nI (e j) ∧ I (ch + 2) j = nI (d j) ∧ I (ch + 3) j = nI (r j) - 1) ∧ ∀ o, (o < ch + 1 ∨ ch + 3 < o) → I o = I0 o
theorem zCx.any (ch : Nat) (I : Nat → Nat → Int32) : ∃ e d r, zCx e d r ch I I :=
  ⟨fun j => (I (ch + 1) j).toBitVec.toNat, fun j => (I (ch + 2) j).toBitVec.toNat, fun j => (I (ch + 3) j + 1).toBitVec.toNat, fun _ _ => ⟨zi_ex _, zi_ex _, zi_ex1 _⟩, fun _ _ => rfl⟩
theorem zCx.ue {e d r : Nat → Nat} {ch : Nat} {I0 I : Nat → Nat → Int32} {i v : Nat} (h : zCx e d r ch I0 I) : zCx (va_up e i v) d r ch I0 (aw_u I (ch + 1) i (nI v)) := by
  refine ⟨fun j hj => ⟨?_, ?_, ?_⟩, fun o ho => ?_⟩
  · by_cases hji : j = i
    · subst hji; rw [aw_u_eq]; simp [va_up]
    · rw [aw_u_nj hji]; simp only [va_up, if_neg hji]; exact (h.1 j hj).1
  · rw [aw_u_ne (by omega)]; exact (h.1 j hj).2.1
  · rw [aw_u_ne (by omega)]; exact (h.1 j hj).2.2
  · rw [aw_u_ne (by omega)]; exact h.2 o ho
theorem zCx.ud {e d r : Nat → Nat} {ch : Nat} {I0 I : Nat → Nat → Int32} {i v : Nat} (h : zCx e d r ch I0 I) : zCx e (va_up d i v) r ch I0 (aw_u I (ch + 2) i (nI v)) := by
  refine ⟨fun j hj => ⟨?_, ?_, ?_⟩, fun o ho => ?_⟩
  · rw [aw_u_ne (by omega)]; exact (h.1 j hj).1
  · by_cases hji : j = i
    · subst hji; rw [aw_u_eq]; simp [va_up]
    · rw [aw_u_nj hji]; simp only [va_up, if_neg hji]; exact (h.1 j hj).2.1
  · rw [aw_u_ne (by omega)]; exact (h.1 j hj).2.2
  · rw [aw_u_ne (by omega)]; exact h.2 o ho
theorem zCx.ur {e d r : Nat → Nat} {ch : Nat} {I0 I : Nat → Nat → Int32} {i v : Nat} (h : zCx e d r ch I0 I) : zCx e d (va_up r i v) ch I0 (aw_u I (ch + 3) i (nI v - 1)) := by
  refine ⟨fun j hj => ⟨?_, ?_, ?_⟩, fun o ho => ?_⟩
  · rw [aw_u_ne (by omega)]; exact (h.1 j hj).1
  · rw [aw_u_ne (by omega)]; exact (h.1 j hj).2.1
  · by_cases hji : j = i
    · subst hji; rw [aw_u_eq]; simp [va_up]
    · rw [aw_u_nj hji]; simp only [va_up, if_neg hji]; exact (h.1 j hj).2.2
  · rw [aw_u_ne (by omega)]; exact h.2 o ho
theorem zCx.cg {e d r e2 d2 r2 : Nat → Nat} {ch : Nat} {I0 I : Nat → Nat → Int32} (h : zCx e d r ch I0 I) (he : ∀ j, j < 64 → e j = e2 j) (hd : ∀ j, j < 64 → d j = d2 j) (hr : ∀ j, j < 64 → r j = r2 j) : zCx e2 d2 r2 ch I0 I :=
  ⟨fun j hj => by rw [← he j hj, ← hd j hj, ← hr j hj]; exact h.1 j hj, h.2⟩
theorem va_up_at {α : Type} {f : Nat → α} {i : Nat} {v : α} : va_up f i v i = v := by simp [va_up]
theorem va_up_nat {α : Type} {f : Nat → α} {i j : Nat} {v : α} (h : j ≠ i) : va_up f i v j = f j := by simp [va_up, h]
theorem zi_min {a b : Nat} (ha : a < 2147483648) (hb : b < 2147483648) : (if nI b < nI a then nI b else nI a) = nI (if b < a then b else a) := by
  by_cases h : b < a
  · rw [if_pos h, if_pos ((zn_lt hb ha).mpr h)]
  · rw [if_neg h, if_neg (fun z => h ((zn_lt hb ha).mp z))]
theorem f_fw_diag {e : Nat → Nat} {k b : Nat} (hb : b < 8) : f_fw e k (8 * b + b) = 0 := by
  induction k with
  | zero => rw [f_fw, f_d0, if_pos (by omega)]
  | succ k ih => rw [f_fw, f_s, ih]; split <;> omega
/-- a way that is levelled; lv one higher -/
def f_lv (V : Nat → Nat → Nat) (lv w j : Nat) : Nat := if j = 3 ∧ w + 1 = lv then 1 else V w j
theorem f_lv_n {V : Nat → Nat → Nat} {lv w j : Nat} (h : j ≠ 3) : f_lv V lv w j = V w j := by rw [f_lv, if_neg (fun z => h z.1)]
theorem f_lv_0 {V : Nat → Nat → Nat} : f_lv V 0 = V := by funext w j; rw [f_lv, if_neg (by omega)]
theorem f_lv_ok {V : Nat → Nat → Nat} {lv n : Nat} (h : f_Vok V n) : f_Vok (f_lv V lv) n := by
  intro w hw
  obtain ⟨h0, h1, h2, h3, h4, h5⟩ := h w hw
  rw [f_lv_n (by decide), f_lv_n (by decide), f_lv_n (by decide)]
  refine ⟨h0, h1, h2, h3, h4, ?_⟩
  rw [f_lv]; split <;> omega
theorem f_e_le {V : Nat → Nat → Nat} {n X : Nat} : ∀ j, f_e X V n j ≤ X := by
  induction n with
  | zero => intro j; exact Nat.le_refl _
  | succ n ih =>
    intro j
    have key : ∀ (z : Nat → Nat) (i v : Nat), (∀ j, z j ≤ X) → ∀ j, f_put z i v j ≤ X := by
      intro z i v hz j
      unfold f_put va_up
      split
      · have := hz i; split <;> omega
      · exact hz j
    rw [f_e]
    exact key _ _ _ (key _ _ _ ih) j
theorem w_shorten12 (G : aw_G) {n c : Nat} {I I0 : Nat → Nat → Int32} {L : Nat → Nat → Int64} {e d r : Nat → Nat} {p t : Nat} (hC : zCx e d r 12 I0 I) (hp : p < 64) (hb : e p < 2147483648) (ht : t < 2147483648) : aw_Met G mX2_shorten [.ref 12, .int (nI p), .int (nI t)] (zH n I L c) (fun v h2 => v = none ∧ ∃ I2, h2 = zH n I2 L c ∧ zCx (f_put e p t) d r 12 I0 I2) := by
  refine aw_Met.of okX2_shorten (Nat.le_of_ble_eq_true rfl) ?_
  show aw_W G mX2_shorten 0 [.ref 12, .int (nI p), .int (nI t)] [] (zH n I L c) (0, 0) _
  refine aw_aload_n dX2_shorten_0 rfl ?_
  refine aw_getR dX2_shorten_1 f2_9 rfl ⟨Nat.le_of_ble_eq_true rfl, Nat.le_of_ble_eq_true rfl⟩ rfl rfl ?_
  refine aw_iload_n dX2_shorten_4 rfl ?_
  refine aw_aload_n dX2_shorten_5 rfl ?_
  refine aw_getR dX2_shorten_6 f2_9 rfl ⟨Nat.le_of_ble_eq_true rfl, Nat.le_of_ble_eq_true rfl⟩ rfl rfl ?_
  refine aw_iload_n dX2_shorten_9 rfl ?_
  refine aw_iald_n (j := p) dX2_shorten_10 rfl (Nat.le_of_ble_eq_true rfl) (by decide) (by omega) ?_
  refine aw_top (hC.1 (p) (by omega)).1 ?_
  refine aw_iload_n dX2_shorten_11 rfl ?_
  refine aw_min dX2_shorten_12 mm2_41 ⟨Nat.le_of_ble_eq_true rfl, Nat.le_of_ble_eq_true rfl⟩ ⟨Nat.le_of_ble_eq_true rfl, Nat.le_of_ble_eq_true rfl⟩ ?_
  refine aw_top (zi_min hb ht) ?_
  refine aw_iast_n (j := p) dX2_shorten_15 rfl ⟨Nat.le_of_ble_eq_true rfl, Nat.le_of_ble_eq_true rfl⟩ (by decide) (by omega) ?_
  refine aw_ret0 dX2_shorten_16 rfl ⟨Nat.le_of_ble_eq_true rfl, Nat.le_of_ble_eq_true rfl⟩ ?_
  exact ⟨rfl, _, rfl, hC.ue⟩
theorem w_addUp12 (G : aw_G) {n c : Nat} {I I0 : Nat → Nat → Int32} {L : Nat → Nat → Int64} {e d r : Nat → Nat} (hC : zCx e d r 12 I0 I) (he : ∀ j, j < 64 → e j ≤ 1000) (hF : ∀ k j, k ≤ 8 → j < 64 → f_fw e k j ≤ 1000) : aw_Met G mX2_addUp [.ref 12] (zH n I L c) (fun v h2 => v = none ∧ ∃ I2, h2 = zH n I2 L c ∧ zCx e (f_fw e 8) r 12 I0 I2) := by
  refine aw_Met.of okX2_addUp (Nat.le_of_ble_eq_true rfl) ?_
  show aw_W G mX2_addUp 0 [.ref 12, aw_x, aw_x, aw_x, aw_x, aw_x] [] (zH n I L c) (0, 0) _
  refine aw_iconst (v := 0) dX2_addUp_0 rfl ?_
  refine aw_istore_n (ls2 := [_, _, _, _, _, _]) dX2_addUp_1 (by decide) rfl rfl ?_
  refine aw_up (X := fun i => ∀ I d, (∀ j, j < i → d j = e j) ∧ zCx e d r 12 I0 I → aw_W G mX2_addUp 2 [.ref 12, .int (nI i), aw_x, aw_x, aw_x, aw_x] [] (zH n I L c) (0, 0) _) (Nat.zero_le 64) (fun I d hh => ?_) (fun i _ hi ih I d hh => ?_) I d ⟨fun j hj => absurd hj (by omega), hC⟩
  · obtain ⟨hd, hC⟩ := hh
    refine aw_iload_n dX2_addUp_2 rfl ?_
    refine aw_bipush (v := 64) dX2_addUp_3 (by decide) ?_
    refine aw_ic_ge_n (a := 64) (b := 64) (tgt := 26) dX2_addUp_5 (by decide) (by omega) (by omega) (fun c5 => ?_) (fun z => absurd z (by omega))
    refine aw_iconst (v := 0) dX2_addUp_26 rfl ?_
    refine aw_istore_n (ls2 := [_, _, _, _, _, _]) dX2_addUp_27 (by decide) rfl rfl ?_
    refine aw_up (X := fun p => ∀ I d, (∀ j, j < 64 → d j = if j / 8 = j % 8 ∧ j / 8 < p then 0 else e j) ∧ zCx e d r 12 I0 I → aw_W G mX2_addUp 28 [.ref 12, .int (nI p), aw_x, aw_x, aw_x, aw_x] [] (zH n I L c) (0, 0) _) (Nat.zero_le 8) (fun I d hh => ?_) (fun p _ hp ph I d hh => ?_) I d ⟨fun j hj => by rw [if_neg (by omega)]; exact hd j hj, hC⟩
    · obtain ⟨hd, hC⟩ := hh
      refine aw_iload_n dX2_addUp_28 rfl ?_
      refine aw_bipush (v := 8) dX2_addUp_29 (by decide) ?_
      refine aw_ic_ge_n (a := 8) (b := 8) (tgt := 52) dX2_addUp_31 (by decide) (by omega) (by omega) (fun c31 => ?_) (fun z => absurd z (by omega))
      refine aw_iconst (v := 0) dX2_addUp_52 rfl ?_
      refine aw_istore_n (ls2 := [_, _, _, _, _, _]) dX2_addUp_53 (by decide) rfl rfl ?_
      refine aw_up (X := fun y => ∀ I d, (∀ j, j < 64 → d j = f_fw e y j) ∧ zCx e d r 12 I0 I → aw_W G mX2_addUp 54 [.ref 12, .int (nI y), aw_x, aw_x, aw_x, aw_x] [] (zH n I L c) (0, 0) _) (Nat.zero_le 8) (fun I d hh => ?_) (fun y _ hy yh I d hh => ?_) I d ⟨fun j hj => ?_, hC⟩
      · obtain ⟨hd, hC⟩ := hh
        refine aw_iload_n dX2_addUp_54 rfl ?_
        refine aw_bipush (v := 8) dX2_addUp_55 (by decide) ?_
        refine aw_ic_ge_n (a := 8) (b := 8) (tgt := 162) dX2_addUp_57 (by decide) (by omega) (by omega) (fun c57 => ?_) (fun z => absurd z (by omega))
        refine aw_ret0 dX2_addUp_162 rfl ⟨Nat.le_of_ble_eq_true rfl, Nat.le_of_ble_eq_true rfl⟩ ?_
        exact ⟨rfl, _, rfl, hC.cg (fun _ _ => rfl) hd (fun _ _ => rfl)⟩
      · obtain ⟨hd, hC⟩ := hh
        refine aw_iload_n dX2_addUp_54 rfl ?_
        refine aw_bipush (v := 8) dX2_addUp_55 (by decide) ?_
        refine aw_ic_ge_n (a := y) (b := 8) (tgt := 162) dX2_addUp_57 (by decide) (by omega) (by omega) (fun z => absurd z (by omega)) (fun c57 => ?_)
        refine aw_iconst (v := 0) dX2_addUp_60 rfl ?_
        refine aw_istore_n (ls2 := [_, _, _, _, _, _]) dX2_addUp_61 (by decide) rfl rfl ?_
        refine aw_up (X := fun p => ∀ I d, (∀ j, j < 64 → d j = if j < p * 8 then f_s (f_fw e y) y j else f_fw e y j) ∧ zCx e d r 12 I0 I → aw_W G mX2_addUp 62 [.ref 12, .int (nI y), .int (nI p), aw_x, aw_x, aw_x] [] (zH n I L c) (0, 0) _) (Nat.zero_le 8) (fun I d hh => ?_) (fun p _ hp ph I d hh => ?_) I d ⟨fun j hj => by rw [if_neg (by omega)]; exact hd j hj, hC⟩
        · obtain ⟨hd, hC⟩ := hh
          refine aw_iload_n dX2_addUp_62 rfl ?_
          refine aw_bipush (v := 8) dX2_addUp_63 (by decide) ?_
          refine aw_ic_ge_n (a := 8) (b := 8) (tgt := 156) dX2_addUp_65 (by decide) (by omega) (by omega) (fun c65 => ?_) (fun z => absurd z (by omega))
          refine aw_iinc_n (ls2 := [_, _, _, _, _, _]) dX2_addUp_156 rfl (by decide) rfl rfl ?_
          refine aw_goto (tgt := 54) dX2_addUp_159 (by decide) ?_
          refine aw_kill (j := 2) (ls2 := [_, _, aw_x, _, _, _]) rfl (yh I d ⟨fun j hj => ?_, hC⟩)
          rw [hd j hj, if_pos (by omega)]; rfl
        · obtain ⟨hd, hC⟩ := hh
          have hb0 := hF y (8 * p + y) (by omega) (by omega)
          have hfi : d (p * 8 + y) = f_fw e y (8 * p + y) := by rw [hd _ (by omega), if_neg (by omega), Nat.mul_comm p 8]
          refine aw_iload_n dX2_addUp_62 rfl ?_
          refine aw_bipush (v := 8) dX2_addUp_63 (by decide) ?_
          refine aw_ic_ge_n (a := p) (b := 8) (tgt := 156) dX2_addUp_65 (by decide) (by omega) (by omega) (fun z => absurd z (by omega)) (fun c65 => ?_)
          refine aw_aload_n dX2_addUp_68 rfl ?_
          refine aw_getR dX2_addUp_69 f2_15 rfl ⟨Nat.le_of_ble_eq_true rfl, Nat.le_of_ble_eq_true rfl⟩ rfl rfl ?_
          refine aw_iload_n dX2_addUp_72 rfl ?_
          refine aw_bipush (v := 8) dX2_addUp_73 (by decide) ?_
          refine aw_imul_n (a := p) (b := 8) dX2_addUp_75 ?_
          refine aw_iload_n dX2_addUp_76 rfl ?_
          refine aw_iadd_n (a := p * 8) (b := y) dX2_addUp_77 ?_
          refine aw_iald_n (j := (p * 8) + y) dX2_addUp_78 rfl (Nat.le_of_ble_eq_true rfl) (by decide) (by omega) ?_
          refine aw_top ((hC.1 ((p * 8) + y) (by omega)).2.1.trans (congrArg nI hfi)) ?_
          refine aw_istore_n (ls2 := [_, _, _, _, _, _]) dX2_addUp_79 (by decide) rfl rfl ?_
          refine aw_iconst (v := 0) dX2_addUp_80 rfl ?_
          refine aw_istore (ls2 := [_, _, _, _, _, _]) dX2_addUp_81 (by decide) rfl rfl ?_
          refine aw_up (X := fun q => ∀ I d, (∀ j, j < 64 → d j = if j < p * 8 + q then f_s (f_fw e y) y j else f_fw e y j) ∧ zCx e d r 12 I0 I → aw_W G mX2_addUp 83 [.ref 12, .int (nI y), .int (nI p), .int (nI (f_fw e y (8 * p + y))), .int (nI q), aw_x] [] (zH n I L c) (0, 0) _) (Nat.zero_le 8) (fun I d hh => ?_) (fun q _ hq ih I d hh => ?_) I d ⟨hd, hC⟩
          · obtain ⟨hd, hC⟩ := hh
            refine aw_iload_n dX2_addUp_83 rfl ?_
            refine aw_sipush (v := 1000) dX2_addUp_84 (by decide) ?_
            refine aw_ic_ge_n (a := f_fw e y (8 * p + y)) (b := 1000) (tgt := 150) dX2_addUp_87 (by decide) (by omega) (by omega) (fun c87 => ?_) (fun c87 => ?_)
            · refine aw_iinc_n (ls2 := [_, _, _, _, _, _]) dX2_addUp_150 rfl (by decide) rfl rfl ?_
              refine aw_goto (tgt := 62) dX2_addUp_153 (by decide) ?_
              exact aw_kill (j := 3) (ls2 := [_, _, _, aw_x, _, _]) rfl (aw_kill (j := 4) (ls2 := [_, _, _, _, aw_x, _]) rfl (aw_kill (j := 5) (ls2 := [_, _, _, _, _, aw_x]) rfl (ph I d ⟨fun j hj => by
                rw [hd j hj]
                by_cases hjq : j < p * 8 + 8
                · rw [if_pos hjq, if_pos (by omega)]
                · rw [if_neg hjq]
                  by_cases hjp : j < (p + 1) * 8
                  · rw [if_pos hjp, f_s, if_neg]
                    have h1 := hF y j (by omega) hj
                    rw [show j / 8 = p by omega]
                    omega
                  · rw [if_neg hjp], hC⟩)))
            · refine aw_iload dX2_addUp_90 rfl ?_
              refine aw_bipush (v := 8) dX2_addUp_92 (by decide) ?_
              refine aw_ic_ge_n (a := 8) (b := 8) (tgt := 150) dX2_addUp_94 (by decide) (by omega) (by omega) (fun c94 => ?_) (fun z => absurd z (by omega))
              refine aw_iinc_n (ls2 := [_, _, _, _, _, _]) dX2_addUp_150 rfl (by decide) rfl rfl ?_
              refine aw_goto (tgt := 62) dX2_addUp_153 (by decide) ?_
              exact aw_kill (j := 3) (ls2 := [_, _, _, aw_x, _, _]) rfl (aw_kill (j := 4) (ls2 := [_, _, _, _, aw_x, _]) rfl (aw_kill (j := 5) (ls2 := [_, _, _, _, _, aw_x]) rfl (ph I d ⟨fun j hj => by rw [hd j hj, show (p + 1) * 8 = p * 8 + 8 by omega], hC⟩)))
          · obtain ⟨hd, hC⟩ := hh
            have hyq : d (y * 8 + q) = f_fw e y (8 * y + q) := by
              rw [hd _ (by omega), Nat.mul_comm y 8]
              split
              · exact f_s_col (by omega) (f_fw_diag (by omega)) (by omega)
              · rfl
            have hpq : d (p * 8 + q) = f_fw e y (8 * p + q) := by rw [hd _ (by omega), if_neg (by omega), Nat.mul_comm p 8]
            have hb1 := hF y (8 * y + q) (by omega) (by omega)
            have hb2 := hF y (8 * p + q) (by omega) (by omega)
            refine aw_iload_n dX2_addUp_83 rfl ?_
            refine aw_sipush (v := 1000) dX2_addUp_84 (by decide) ?_
            refine aw_ic_ge_n (a := f_fw e y (8 * p + y)) (b := 1000) (tgt := 150) dX2_addUp_87 (by decide) (by omega) (by omega) (fun c87 => ?_) (fun c87 => ?_)
            · refine aw_iinc_n (ls2 := [_, _, _, _, _, _]) dX2_addUp_150 rfl (by decide) rfl rfl ?_
              refine aw_goto (tgt := 62) dX2_addUp_153 (by decide) ?_
              exact aw_kill (j := 3) (ls2 := [_, _, _, aw_x, _, _]) rfl (aw_kill (j := 4) (ls2 := [_, _, _, _, aw_x, _]) rfl (aw_kill (j := 5) (ls2 := [_, _, _, _, _, aw_x]) rfl (ph I d ⟨fun j hj => by
                rw [hd j hj]
                by_cases hjq : j < p * 8 + q
                · rw [if_pos hjq, if_pos (by omega)]
                · rw [if_neg hjq]
                  by_cases hjp : j < (p + 1) * 8
                  · rw [if_pos hjp, f_s, if_neg]
                    have h1 := hF y j (by omega) hj
                    rw [show j / 8 = p by omega]
                    omega
                  · rw [if_neg hjp], hC⟩)))
            · refine aw_iload dX2_addUp_90 rfl ?_
              refine aw_bipush (v := 8) dX2_addUp_92 (by decide) ?_
              refine aw_ic_ge_n (a := q) (b := 8) (tgt := 150) dX2_addUp_94 (by decide) (by omega) (by omega) (fun z => absurd z (by omega)) (fun c94 => ?_)
              refine aw_iload_n dX2_addUp_97 rfl ?_
              refine aw_aload_n dX2_addUp_98 rfl ?_
              refine aw_getR dX2_addUp_99 f2_15 rfl ⟨Nat.le_of_ble_eq_true rfl, Nat.le_of_ble_eq_true rfl⟩ rfl rfl ?_
              refine aw_iload_n dX2_addUp_102 rfl ?_
              refine aw_bipush (v := 8) dX2_addUp_103 (by decide) ?_
              refine aw_imul_n (a := y) (b := 8) dX2_addUp_105 ?_
              refine aw_iload dX2_addUp_106 rfl ?_
              refine aw_iadd_n (a := y * 8) (b := q) dX2_addUp_108 ?_
              refine aw_iald_n (j := (y * 8) + q) dX2_addUp_109 rfl (Nat.le_of_ble_eq_true rfl) (by decide) (by omega) ?_
              refine aw_top ((hC.1 ((y * 8) + q) (by omega)).2.1.trans (congrArg nI hyq)) ?_
              refine aw_iadd_n (a := f_fw e y (8 * p + y)) (b := f_fw e y (8 * y + q)) dX2_addUp_110 ?_
              refine aw_istore (ls2 := [_, _, _, _, _, _]) dX2_addUp_111 (by decide) rfl rfl ?_
              refine aw_iload dX2_addUp_113 rfl ?_
              refine aw_aload_n dX2_addUp_115 rfl ?_
              refine aw_getR dX2_addUp_116 f2_15 rfl ⟨Nat.le_of_ble_eq_true rfl, Nat.le_of_ble_eq_true rfl⟩ rfl rfl ?_
              refine aw_iload_n dX2_addUp_119 rfl ?_
              refine aw_bipush (v := 8) dX2_addUp_120 (by decide) ?_
              refine aw_imul_n (a := p) (b := 8) dX2_addUp_122 ?_
              refine aw_iload dX2_addUp_123 rfl ?_
              refine aw_iadd_n (a := p * 8) (b := q) dX2_addUp_125 ?_
              refine aw_iald_n (j := (p * 8) + q) dX2_addUp_126 rfl (Nat.le_of_ble_eq_true rfl) (by decide) (by omega) ?_
              refine aw_top ((hC.1 ((p * 8) + q) (by omega)).2.1.trans (congrArg nI hpq)) ?_
              refine aw_ic_ge_n (a := (f_fw e y (8 * p + y)) + (f_fw e y (8 * y + q))) (b := f_fw e y (8 * p + q)) (tgt := 144) dX2_addUp_127 (by decide) (by omega) (by omega) (fun c127 => ?_) (fun c127 => ?_)
              · refine aw_iinc_n (ls2 := [_, _, _, _, _, _]) dX2_addUp_144 rfl (by decide) rfl rfl ?_
                refine aw_goto (tgt := 83) dX2_addUp_147 (by decide) ?_
                refine aw_kill (j := 5) (ls2 := [_, _, _, _, _, aw_x]) rfl ?_
                have hfs := f_s_at (d := f_fw e y) (k := y) (p := p) (q := q) (by omega)
                rw [if_neg (by omega)] at hfs
                refine ih I d ⟨fun j hj => ?_, hC⟩
                rw [hd j hj]
                by_cases hjq : j = p * 8 + q
                · rw [hjq, if_neg (by omega), if_pos (by omega), Nat.mul_comm p 8, hfs]
                · by_cases h2 : j < p * 8 + q
                  · rw [if_pos h2, if_pos (by omega)]
                  · rw [if_neg h2, if_neg (by omega)]
              · refine aw_aload_n dX2_addUp_130 rfl ?_
                refine aw_getR dX2_addUp_131 f2_15 rfl ⟨Nat.le_of_ble_eq_true rfl, Nat.le_of_ble_eq_true rfl⟩ rfl rfl ?_
                refine aw_iload_n dX2_addUp_134 rfl ?_
                refine aw_bipush (v := 8) dX2_addUp_135 (by decide) ?_
                refine aw_imul_n (a := p) (b := 8) dX2_addUp_137 ?_
                refine aw_iload dX2_addUp_138 rfl ?_
                refine aw_iadd_n (a := p * 8) (b := q) dX2_addUp_140 ?_
                refine aw_iload dX2_addUp_141 rfl ?_
                refine aw_iast_n (j := (p * 8) + q) dX2_addUp_143 rfl ⟨Nat.le_of_ble_eq_true rfl, Nat.le_of_ble_eq_true rfl⟩ (by decide) (by omega) ?_
                refine aw_iinc_n (ls2 := [_, _, _, _, _, _]) dX2_addUp_144 rfl (by decide) rfl rfl ?_
                refine aw_goto (tgt := 83) dX2_addUp_147 (by decide) ?_
                refine aw_kill (j := 5) (ls2 := [_, _, _, _, _, aw_x]) rfl ?_
                have hfs := f_s_at (d := f_fw e y) (k := y) (p := p) (q := q) (by omega)
                rw [if_pos (by omega)] at hfs
                refine ih _ _ ⟨fun j hj => ?_, hC.ud⟩
                by_cases hjq : j = p * 8 + q
                · rw [hjq, va_up_at, if_pos (by omega), Nat.mul_comm p 8, hfs]
                · rw [va_up_nat hjq, hd j hj]
                  by_cases h2 : j < p * 8 + q
                  · rw [if_pos h2, if_pos (by omega)]
                  · rw [if_neg h2, if_neg (by omega)]
      · rw [hd j hj, f_fw, f_d0]
        by_cases hj2 : j / 8 = j % 8
        · rw [if_pos ⟨hj2, by omega⟩, if_pos hj2]
        · rw [if_neg (fun z => hj2 z.1), if_neg hj2]
    · obtain ⟨hd, hC⟩ := hh
      refine aw_iload_n dX2_addUp_28 rfl ?_
      refine aw_bipush (v := 8) dX2_addUp_29 (by decide) ?_
      refine aw_ic_ge_n (a := p) (b := 8) (tgt := 52) dX2_addUp_31 (by decide) (by omega) (by omega) (fun z => absurd z (by omega)) (fun c31 => ?_)
      refine aw_aload_n dX2_addUp_34 rfl ?_
      refine aw_getR dX2_addUp_35 f2_15 rfl ⟨Nat.le_of_ble_eq_true rfl, Nat.le_of_ble_eq_true rfl⟩ rfl rfl ?_
      refine aw_iload_n dX2_addUp_38 rfl ?_
      refine aw_bipush (v := 8) dX2_addUp_39 (by decide) ?_
      refine aw_imul_n (a := p) (b := 8) dX2_addUp_41 ?_
      refine aw_iload_n dX2_addUp_42 rfl ?_
      refine aw_iadd_n (a := p * 8) (b := p) dX2_addUp_43 ?_
      refine aw_iconst (v := 0) dX2_addUp_44 rfl ?_
      refine aw_iast_n (j := (p * 8) + p) dX2_addUp_45 rfl ⟨Nat.le_of_ble_eq_true rfl, Nat.le_of_ble_eq_true rfl⟩ (by decide) (by omega) ?_
      refine aw_iinc_n (ls2 := [_, _, _, _, _, _]) dX2_addUp_46 rfl (by decide) rfl rfl ?_
      refine aw_goto (tgt := 28) dX2_addUp_49 (by decide) ?_
      refine ph _ _ ⟨fun j hj => ?_, hC.ud (i := p * 8 + p) (v := 0)⟩
      by_cases hjp : j = p * 8 + p
      · rw [hjp, va_up_at, if_pos (by omega)]
      · rw [va_up_nat hjp, hd j hj]
        by_cases h2 : j / 8 = j % 8 ∧ j / 8 < p
        · rw [if_pos h2, if_pos (by omega)]
        · rw [if_neg h2, if_neg (by omega)]
  · obtain ⟨hd, hC⟩ := hh
    refine aw_iload_n dX2_addUp_2 rfl ?_
    refine aw_bipush (v := 64) dX2_addUp_3 (by decide) ?_
    refine aw_ic_ge_n (a := i) (b := 64) (tgt := 26) dX2_addUp_5 (by decide) (by omega) (by omega) (fun z => absurd z (by omega)) (fun c5 => ?_)
    refine aw_aload_n dX2_addUp_8 rfl ?_
    refine aw_getR dX2_addUp_9 f2_15 rfl ⟨Nat.le_of_ble_eq_true rfl, Nat.le_of_ble_eq_true rfl⟩ rfl rfl ?_
    refine aw_iload_n dX2_addUp_12 rfl ?_
    refine aw_aload_n dX2_addUp_13 rfl ?_
    refine aw_getR dX2_addUp_14 f2_9 rfl ⟨Nat.le_of_ble_eq_true rfl, Nat.le_of_ble_eq_true rfl⟩ rfl rfl ?_
    refine aw_iload_n dX2_addUp_17 rfl ?_
    refine aw_iald_n (j := i) dX2_addUp_18 rfl (Nat.le_of_ble_eq_true rfl) (by decide) (by omega) ?_
    refine aw_top (hC.1 (i) (by omega)).1 ?_
    refine aw_iast_n (j := i) dX2_addUp_19 rfl ⟨Nat.le_of_ble_eq_true rfl, Nat.le_of_ble_eq_true rfl⟩ (by decide) (by omega) ?_
    refine aw_iinc_n (ls2 := [_, _, _, _, _, _]) dX2_addUp_20 rfl (by decide) rfl rfl ?_
    refine aw_goto (tgt := 2) dX2_addUp_23 (by decide) ?_
    refine ih _ _ ⟨fun j hj => ?_, hC.ud (i := i) (v := e i)⟩
    by_cases hji : j = i
    · rw [hji, va_up_at]
    · rw [va_up_nat hji, hd j (by omega)]
theorem zfst_st {f : Nat → Bool} {i n v : Nat} (h : zfst f i = v + 1) (hn : i ≤ n) : zfst f n = v + 1 := by
  obtain ⟨d, rfl⟩ : ∃ d, n = i + d := ⟨n - i, by omega⟩
  clear hn
  induction d with
  | zero => exact h
  | succ d ih => rw [← Nat.add_assoc, zfst, ih, if_pos (by omega)]
theorem w_firstTurn12 (G : aw_G) {n c : Nat} {I I0 : Nat → Nat → Int32} {L : Nat → Nat → Int64} {e d r : Nat → Nat} {p g : Nat} (hC : zCx e d r 12 I0 I) (hp : p < 8) (hg : g < 8) (he : ∀ j, j < 64 → e j ≤ 1000) (hdb : ∀ j, j < 64 → d j ≤ 1000) : aw_Met G mX2_firstTurn [.ref 12, .int (nI p), .int (nI g)] (zH n I L c) (fun v h2 => v = some (.int (nI (f_ft e d p g) - 1)) ∧ h2 = zH n I L c) := by
  have hb0 := hdb (p * 8 + g) (by omega)
  have hmc : d (8 * p + g) = d (p * 8 + g) := by rw [Nat.mul_comm]
  refine aw_Met.of okX2_firstTurn (Nat.le_of_ble_eq_true rfl) ?_
  show aw_W G mX2_firstTurn 0 [.ref 12, .int (nI p), .int (nI g), aw_x, aw_x] [] (zH n I L c) (0, 0) _
  refine aw_aload_n dX2_firstTurn_0 rfl ?_
  refine aw_getR dX2_firstTurn_1 f2_15 rfl ⟨Nat.le_of_ble_eq_true rfl, Nat.le_of_ble_eq_true rfl⟩ rfl rfl ?_
  refine aw_iload_n dX2_firstTurn_4 rfl ?_
  refine aw_bipush (v := 8) dX2_firstTurn_5 (by decide) ?_
  refine aw_imul_n (a := p) (b := 8) dX2_firstTurn_7 ?_
  refine aw_iload_n dX2_firstTurn_8 rfl ?_
  refine aw_iadd_n (a := p * 8) (b := g) dX2_firstTurn_9 ?_
  refine aw_iald_n (j := (p * 8) + g) dX2_firstTurn_10 rfl (Nat.le_of_ble_eq_true rfl) (by decide) (by omega) ?_
  refine aw_top (hC.1 ((p * 8) + g) (by omega)).2.1 ?_
  refine aw_istore_n (ls2 := [_, _, _, _, _]) dX2_firstTurn_11 (by decide) rfl rfl ?_
  refine aw_iload_n dX2_firstTurn_12 rfl ?_
  refine aw_iload_n dX2_firstTurn_13 rfl ?_
  refine aw_ic_eq_n (a := p) (b := g) (tgt := 24) dX2_firstTurn_14 (by decide) (by omega) (by omega) (fun c14 => ?_) (fun c14 => ?_)
  · refine aw_iconst (v := -1) dX2_firstTurn_24 rfl ?_
    refine aw_reti dX2_firstTurn_25 rfl rfl ⟨Nat.le_of_ble_eq_true rfl, Nat.le_of_ble_eq_true rfl⟩ ?_
    refine ⟨?_, rfl⟩
    rw [f_ft, if_pos (by omega)]; rfl
  · refine aw_iload_n dX2_firstTurn_17 rfl ?_
    refine aw_sipush (v := 1000) dX2_firstTurn_18 (by decide) ?_
    refine aw_ic_lt_n (a := d ((p * 8) + g)) (b := 1000) (tgt := 26) dX2_firstTurn_21 (by decide) (by omega) (by omega) (fun c21 => ?_) (fun c21 => ?_)
    · refine aw_iconst (v := 0) dX2_firstTurn_26 rfl ?_
      refine aw_istore (ls2 := [_, _, _, _, _]) dX2_firstTurn_27 (by decide) rfl rfl ?_
      refine aw_up (X := fun q => zfst (fun q => decide (e (8 * p + q) + d (8 * q + g) = d (8 * p + g))) q = 0 → aw_W G mX2_firstTurn 29 [.ref 12, .int (nI p), .int (nI g), .int (nI (d (p * 8 + g))), .int (nI q)] [] (zH n I L c) (0, 0) _) (Nat.zero_le 8) (fun hz => ?_) (fun q _ hq ih hz => ?_) rfl
      · refine aw_iload dX2_firstTurn_29 rfl ?_
        refine aw_bipush (v := 8) dX2_firstTurn_31 (by decide) ?_
        refine aw_ic_ge_n (a := 8) (b := 8) (tgt := 74) dX2_firstTurn_33 (by decide) (by omega) (by omega) (fun c33 => ?_) (fun z => absurd z (by omega))
        refine aw_iconst (v := -1) dX2_firstTurn_74 rfl ?_
        refine aw_reti dX2_firstTurn_75 rfl rfl ⟨Nat.le_of_ble_eq_true rfl, Nat.le_of_ble_eq_true rfl⟩ ?_
        refine ⟨?_, rfl⟩
        rw [f_ft, if_neg (by omega), hz]; rfl
      · have hb1 := he (p * 8 + q) (by omega)
        have hb2 := hdb (q * 8 + g) (by omega)
        refine aw_iload dX2_firstTurn_29 rfl ?_
        refine aw_bipush (v := 8) dX2_firstTurn_31 (by decide) ?_
        refine aw_ic_ge_n (a := q) (b := 8) (tgt := 74) dX2_firstTurn_33 (by decide) (by omega) (by omega) (fun z => absurd z (by omega)) (fun c33 => ?_)
        refine aw_aload_n dX2_firstTurn_36 rfl ?_
        refine aw_getR dX2_firstTurn_37 f2_9 rfl ⟨Nat.le_of_ble_eq_true rfl, Nat.le_of_ble_eq_true rfl⟩ rfl rfl ?_
        refine aw_iload_n dX2_firstTurn_40 rfl ?_
        refine aw_bipush (v := 8) dX2_firstTurn_41 (by decide) ?_
        refine aw_imul_n (a := p) (b := 8) dX2_firstTurn_43 ?_
        refine aw_iload dX2_firstTurn_44 rfl ?_
        refine aw_iadd_n (a := p * 8) (b := q) dX2_firstTurn_46 ?_
        refine aw_iald_n (j := (p * 8) + q) dX2_firstTurn_47 rfl (Nat.le_of_ble_eq_true rfl) (by decide) (by omega) ?_
        refine aw_top (hC.1 ((p * 8) + q) (by omega)).1 ?_
        refine aw_aload_n dX2_firstTurn_48 rfl ?_
        refine aw_getR dX2_firstTurn_49 f2_15 rfl ⟨Nat.le_of_ble_eq_true rfl, Nat.le_of_ble_eq_true rfl⟩ rfl rfl ?_
        refine aw_iload dX2_firstTurn_52 rfl ?_
        refine aw_bipush (v := 8) dX2_firstTurn_54 (by decide) ?_
        refine aw_imul_n (a := q) (b := 8) dX2_firstTurn_56 ?_
        refine aw_iload_n dX2_firstTurn_57 rfl ?_
        refine aw_iadd_n (a := q * 8) (b := g) dX2_firstTurn_58 ?_
        refine aw_iald_n (j := (q * 8) + g) dX2_firstTurn_59 rfl (Nat.le_of_ble_eq_true rfl) (by decide) (by omega) ?_
        refine aw_top (hC.1 ((q * 8) + g) (by omega)).2.1 ?_
        refine aw_iadd_n (a := e ((p * 8) + q)) (b := d ((q * 8) + g)) dX2_firstTurn_60 ?_
        refine aw_iload_n dX2_firstTurn_61 rfl ?_
        refine aw_ic_ne_n (a := (e ((p * 8) + q)) + (d ((q * 8) + g))) (b := d (p * 8 + g)) (tgt := 68) dX2_firstTurn_62 (by decide) (by omega) (by omega) (fun c62 => ?_) (fun c62 => ?_)
        · refine aw_iinc_n (ls2 := [_, _, _, _, _]) dX2_firstTurn_68 rfl (by decide) rfl rfl ?_
          refine aw_goto (tgt := 29) dX2_firstTurn_71 (by decide) ?_
          refine ih ?_
          rw [zfst, hz, if_neg (fun z => z rfl), if_neg]
          rw [decide_eq_true_eq, Nat.mul_comm 8 p, Nat.mul_comm 8 q]; exact c62
        · refine aw_iload dX2_firstTurn_65 rfl ?_
          refine aw_reti dX2_firstTurn_67 rfl rfl ⟨Nat.le_of_ble_eq_true rfl, Nat.le_of_ble_eq_true rfl⟩ ?_
          refine ⟨?_, rfl⟩
          have h1 : zfst (fun q => decide (e (8 * p + q) + d (8 * q + g) = d (8 * p + g))) (q + 1) = q + 1 := by
            rw [zfst, hz, if_neg (fun z => z rfl), if_pos]
            rw [decide_eq_true_eq, Nat.mul_comm 8 p, Nat.mul_comm 8 q]; exact c62
          have h2 : zfst (fun q => decide (e (8 * p + q) + d (8 * q + g) = d (8 * p + g))) 8 = q + 1 := zfst_st h1 (by omega)
          rw [f_ft, if_neg (by omega), h2]
          exact congrArg (fun z => some (Value.int z)) (nI_pred q).symm
    · refine aw_iconst (v := -1) dX2_firstTurn_24 rfl ?_
      refine aw_reti dX2_firstTurn_25 rfl rfl ⟨Nat.le_of_ble_eq_true rfl, Nat.le_of_ble_eq_true rfl⟩ ?_
      refine ⟨?_, rfl⟩
      rw [f_ft, if_pos (by omega)]; rfl
theorem w_distance12 (G : aw_G) {n c : Nat} {I I0 : Nat → Nat → Int32} {L : Nat → Nat → Int64} {e d r : Nat → Nat} {p g : Nat} (hC : zCx e d r 12 I0 I) (hp : p < 8) (hg : g < 8) (hdb : ∀ j, j < 64 → d j ≤ 1000) : aw_Met G mX2_distance [.ref 12, .int (nI p), .int (nI g)] (zH n I L c) (fun v h2 => v = some (.int (nI (if d (8 * p + g) < 1000 then d (8 * p + g) + 1 else 0) - 1)) ∧ h2 = zH n I L c) := by
  have hb0 := hdb (p * 8 + g) (by omega)
  have hmc : d (8 * p + g) = d (p * 8 + g) := by rw [Nat.mul_comm]
  refine aw_Met.of okX2_distance (Nat.le_of_ble_eq_true rfl) ?_
  show aw_W G mX2_distance 0 [.ref 12, .int (nI p), .int (nI g), aw_x] [] (zH n I L c) (0, 0) _
  refine aw_aload_n dX2_distance_0 rfl ?_
  refine aw_getR dX2_distance_1 f2_15 rfl ⟨Nat.le_of_ble_eq_true rfl, Nat.le_of_ble_eq_true rfl⟩ rfl rfl ?_
  refine aw_iload_n dX2_distance_4 rfl ?_
  refine aw_bipush (v := 8) dX2_distance_5 (by decide) ?_
  refine aw_imul_n (a := p) (b := 8) dX2_distance_7 ?_
  refine aw_iload_n dX2_distance_8 rfl ?_
  refine aw_iadd_n (a := p * 8) (b := g) dX2_distance_9 ?_
  refine aw_iald_n (j := (p * 8) + g) dX2_distance_10 rfl (Nat.le_of_ble_eq_true rfl) (by decide) (by omega) ?_
  refine aw_top (hC.1 ((p * 8) + g) (by omega)).2.1 ?_
  refine aw_istore_n (ls2 := [_, _, _, _]) dX2_distance_11 (by decide) rfl rfl ?_
  refine aw_iload_n dX2_distance_12 rfl ?_
  refine aw_sipush (v := 1000) dX2_distance_13 (by decide) ?_
  refine aw_ic_ge_n (a := d ((p * 8) + g)) (b := 1000) (tgt := 23) dX2_distance_16 (by decide) (by omega) (by omega) (fun c16 => ?_) (fun c16 => ?_)
  · refine aw_iconst (v := -1) dX2_distance_23 rfl ?_
    refine aw_reti dX2_distance_24 rfl rfl ⟨Nat.le_of_ble_eq_true rfl, Nat.le_of_ble_eq_true rfl⟩ ?_
    refine ⟨?_, rfl⟩
    rw [hmc]
    first
    | (rw [if_pos (by omega), nI_pred])
    | (rw [if_neg (by omega)]; rfl)
  · refine aw_iload_n dX2_distance_19 rfl ?_
    refine aw_goto (tgt := 24) dX2_distance_20 (by decide) ?_
    refine aw_reti dX2_distance_24 rfl rfl ⟨Nat.le_of_ble_eq_true rfl, Nat.le_of_ble_eq_true rfl⟩ ?_
    refine ⟨?_, rfl⟩
    rw [hmc]
    first
    | (rw [if_pos (by omega), nI_pred])
    | (rw [if_neg (by omega)]; rfl)
theorem f_put_le {z : Nat → Nat} {i v X : Nat} (h : ∀ j, z j ≤ X) : ∀ j, f_put z i v j ≤ X := by
  intro j
  unfold f_put va_up
  split
  · have := h i; split <;> omega
  · exact h j
theorem w_fill12 (G : aw_G) {n c : Nat} {I : Nat → Nat → Int32} {L : Nat → Nat → Int64} {b : Nat → Nat} {l lv : Nat} (hT : zTxW b l I) (hlv : lv < 100000) : aw_Met G mX2_fill [.ref 12, .ref 4, .int (nI lv - 1)] (zH n I L c) (fun v h2 => v = none ∧ ∃ I2, h2 = zH n I2 L c ∧ zCx (f_x (f_lv (v_w b) lv) (q_k (q_w b) 5 l) 0) (f_x (f_lv (v_w b) lv) (q_k (q_w b) 5 l) 1) (f_x (f_lv (v_w b) lv) (q_k (q_w b) 5 l) 2) 12 I I2) := by
  refine aw_Met.of okX2_fill (Nat.le_of_ble_eq_true rfl) ?_
  show aw_W G mX2_fill 0 [.ref 12, .ref 4, .int (nI lv - 1), aw_x, aw_x, aw_x, aw_x, aw_x] [] (zH n I L c) (0, 0) _
  refine aw_iconst (v := 0) dX2_fill_0 rfl ?_
  refine aw_istore_n (ls2 := [_, _, _, _, _, _, _, _]) dX2_fill_1 (by decide) rfl rfl ?_
  obtain ⟨e, d, r, hC⟩ := zCx.any 12 I
  obtain ⟨I0, hI0⟩ : ∃ I0, I0 = I := ⟨_, rfl⟩
  rw [← hI0] at hT ⊢
  have hC : zCx e d r 12 I0 I := by rw [hI0]; exact hC
  have hkl := q_k_leW (b := b) hT.1.2.2.2.2
  rw [show zH n I0 L c = zH n I L c by rw [hI0]]
  refine aw_up (X := fun i => ∀ I e, (∀ j, j < i → e j = 1000) ∧ zCx e d r 12 I0 I → aw_W G mX2_fill 2 [.ref 12, .ref 4, .int (nI lv - 1), .int (nI i), aw_x, aw_x, aw_x, aw_x] [] (zH n I L c) (0, 0) _) (Nat.zero_le 64) (fun I e hh => ?_) (fun i _ hi ih I e hh => ?_) I e ⟨fun j hj => absurd hj (by omega), hC⟩
  · obtain ⟨he, hC⟩ := hh
    refine aw_iload_n dX2_fill_2 rfl ?_
    refine aw_bipush (v := 64) dX2_fill_3 (by decide) ?_
    refine aw_ic_ge_n (a := 64) (b := 64) (tgt := 23) dX2_fill_5 (by decide) (by omega) (by omega) (fun c5 => ?_) (fun z => absurd z (by omega))
    refine aw_iconst (v := 0) dX2_fill_23 rfl ?_
    refine aw_istore_n (ls2 := [_, _, _, _, _, _, _, _]) dX2_fill_24 (by decide) rfl rfl ?_
    refine aw_up (X := fun w => ∀ I, zCx (f_e 1000 (f_lv (v_w b) lv) w) d r 12 I0 I → aw_W G mX2_fill 25 [.ref 12, .ref 4, .int (nI lv - 1), .int (nI w), aw_x, aw_x, aw_x, aw_x] [] (zH n I L c) (0, 0) _) (Nat.zero_le (q_k (q_w b) 5 l)) (fun I hC => ?_) (fun w _ hw ih I hC => ?_) I (hC.cg he (fun _ _ => rfl) (fun _ _ => rfl))
    · obtain ⟨E, hEd⟩ : ∃ E, E = f_e 1000 (f_lv (v_w b) lv) (q_k (q_w b) 5 l) := ⟨_, rfl⟩
      rw [← hEd] at hC
      have hR0 := f_e_R (f_lv_ok (lv := lv) (v_w_ok (b := b) (l := l)))
      have hE : ∀ j, j < 64 → E j ≤ 1000 := fun j _ => by rw [hEd]; exact f_e_le j
      have hFF : ∀ k j, k ≤ 8 → j < 64 → f_fw E k j ≤ 1000 := fun k j hk hj => by
        have := (hR0.1.fw hR0.2 hk) j hj
        rw [← hEd] at this
        omega
      refine aw_iload_n dX2_fill_25 rfl ?_
      refine aw_aload_n dX2_fill_26 rfl ?_
      refine aw_getI dX2_fill_27 f2_21 rfl ⟨Nat.le_of_ble_eq_true rfl, Nat.le_of_ble_eq_true rfl⟩ rfl ?_
      refine aw_top (hT.mv (hC.2 1 (by omega)) (hC.2 5 (by omega)) (hC.2 4 (by omega))).2.2 ?_
      refine aw_ic_ge_n (a := q_k (q_w b) 5 l) (b := q_k (q_w b) 5 l) (tgt := 118) dX2_fill_30 (by decide) (by omega) (by omega) (fun c30 => ?_) (fun z => absurd z (by omega))
      refine aw_aload_n dX2_fill_118 rfl ?_
      refine aw_V0c (As := []) dX2_fill_119 k2_35 rfl rfl rfl ⟨Nat.le_of_ble_eq_true rfl, Nat.le_of_ble_eq_true rfl⟩ (Nat.le_of_ble_eq_true rfl) ⟨⟨Nat.le_of_ble_eq_true rfl, Nat.le_of_ble_eq_true rfl⟩, ⟨Nat.le_of_ble_eq_true rfl, Nat.le_of_ble_eq_true rfl⟩⟩ ⟨rfl, rfl⟩ (w_addUp12 G hC hE hFF) (fun v h2 hq => ?_)
      obtain ⟨rfl, I2, rfl, hC2⟩ := hq
      obtain ⟨D, hDd⟩ : ∃ D, D = f_fw E 8 := ⟨_, rfl⟩
      rw [← hDd] at hC2
      have hD : ∀ j, j < 64 → D j ≤ 1000 := fun j hj => by rw [hDd]; exact hFF 8 j (by omega) hj
      refine aw_iconst (v := 0) dX2_fill_122 rfl ?_
      refine aw_istore_n (ls2 := [_, _, _, _, _, _, _, _]) dX2_fill_123 (by decide) rfl rfl ?_
      refine aw_up (X := fun p => ∀ I r, (∀ j, j < p * 8 → r j = f_ft E D (j / 8) (j % 8)) ∧ zCx E D r 12 I0 I → aw_W G mX2_fill 124 [.ref 12, .ref 4, .int (nI lv - 1), .int (nI p), aw_x, aw_x, aw_x, aw_x] [] (zH n I L c) (0, 0) _) (Nat.zero_le 8) (fun I r hh => ?_) (fun p _ hp ph I r hh => ?_) I2 r ⟨fun j hj => absurd hj (by omega), hC2⟩
      · obtain ⟨hr, hC⟩ := hh
        refine aw_iload_n dX2_fill_124 rfl ?_
        refine aw_bipush (v := 8) dX2_fill_125 (by decide) ?_
        refine aw_ic_ge_n (a := 8) (b := 8) (tgt := 171) dX2_fill_127 (by decide) (by omega) (by omega) (fun c127 => ?_) (fun z => absurd z (by omega))
        refine aw_ret0 dX2_fill_171 rfl ⟨Nat.le_of_ble_eq_true rfl, Nat.le_of_ble_eq_true rfl⟩ ?_
        refine ⟨rfl, _, rfl, hC.cg (fun j _ => ?_) (fun j _ => ?_) (fun j hj => ?_)⟩
        · rw [f_x0, hEd]
        · rw [f_x1, hDd, hEd]
        · rw [hr j hj, f_x2, hDd, hEd]
      · obtain ⟨hr, hC⟩ := hh
        refine aw_iload_n dX2_fill_124 rfl ?_
        refine aw_bipush (v := 8) dX2_fill_125 (by decide) ?_
        refine aw_ic_ge_n (a := p) (b := 8) (tgt := 171) dX2_fill_127 (by decide) (by omega) (by omega) (fun z => absurd z (by omega)) (fun c127 => ?_)
        refine aw_iconst (v := 0) dX2_fill_130 rfl ?_
        refine aw_istore (ls2 := [_, _, _, _, _, _, _, _]) dX2_fill_131 (by decide) rfl rfl ?_
        refine aw_up (X := fun q => ∀ I r, (∀ j, j < p * 8 + q → r j = f_ft E D (j / 8) (j % 8)) ∧ zCx E D r 12 I0 I → aw_W G mX2_fill 133 [.ref 12, .ref 4, .int (nI lv - 1), .int (nI p), .int (nI q), aw_x, aw_x, aw_x] [] (zH n I L c) (0, 0) _) (Nat.zero_le 8) (fun I r hh => ?_) (fun q _ hq ih I r hh => ?_) I r ⟨fun j hj => hr j (by omega), hC⟩
        · obtain ⟨hr, hC⟩ := hh
          refine aw_iload dX2_fill_133 rfl ?_
          refine aw_bipush (v := 8) dX2_fill_135 (by decide) ?_
          refine aw_ic_ge_n (a := 8) (b := 8) (tgt := 165) dX2_fill_137 (by decide) (by omega) (by omega) (fun c137 => ?_) (fun z => absurd z (by omega))
          refine aw_iinc_n (ls2 := [_, _, _, _, _, _, _, _]) dX2_fill_165 rfl (by decide) rfl rfl ?_
          refine aw_goto (tgt := 124) dX2_fill_168 (by decide) ?_
          exact aw_kill (j := 4) (ls2 := [_, _, _, _, aw_x, _, _, _]) rfl (ph I r ⟨fun j hj => hr j (by omega), hC⟩)
        · obtain ⟨hr, hC⟩ := hh
          refine aw_iload dX2_fill_133 rfl ?_
          refine aw_bipush (v := 8) dX2_fill_135 (by decide) ?_
          refine aw_ic_ge_n (a := q) (b := 8) (tgt := 165) dX2_fill_137 (by decide) (by omega) (by omega) (fun z => absurd z (by omega)) (fun c137 => ?_)
          refine aw_aload_n dX2_fill_140 rfl ?_
          refine aw_getR dX2_fill_141 f2_18 rfl ⟨Nat.le_of_ble_eq_true rfl, Nat.le_of_ble_eq_true rfl⟩ rfl rfl ?_
          refine aw_iload_n dX2_fill_144 rfl ?_
          refine aw_bipush (v := 8) dX2_fill_145 (by decide) ?_
          refine aw_imul_n (a := p) (b := 8) dX2_fill_147 ?_
          refine aw_iload dX2_fill_148 rfl ?_
          refine aw_iadd_n (a := p * 8) (b := q) dX2_fill_150 ?_
          refine aw_aload_n dX2_fill_151 rfl ?_
          refine aw_iload_n dX2_fill_152 rfl ?_
          refine aw_iload dX2_fill_153 rfl ?_
          refine aw_V0c (As := [_, _]) dX2_fill_155 k2_38 rfl rfl rfl ⟨Nat.le_of_ble_eq_true rfl, Nat.le_of_ble_eq_true rfl⟩ (Nat.le_of_ble_eq_true rfl) ⟨⟨Nat.le_of_ble_eq_true rfl, Nat.le_of_ble_eq_true rfl⟩, ⟨Nat.le_of_ble_eq_true rfl, Nat.le_of_ble_eq_true rfl⟩⟩ ⟨rfl, rfl⟩ (w_firstTurn12 G hC hp hq (fun j hj => hE j hj) (fun j hj => hD j hj)) (fun v h2 hq => ?_)
          obtain ⟨rfl, rfl⟩ := hq
          refine aw_iast_n (j := (p * 8) + q) dX2_fill_158 rfl ⟨Nat.le_of_ble_eq_true rfl, Nat.le_of_ble_eq_true rfl⟩ (by decide) (by omega) ?_
          refine aw_iinc_n (ls2 := [_, _, _, _, _, _, _, _]) dX2_fill_159 rfl (by decide) rfl rfl ?_
          refine aw_goto (tgt := 133) dX2_fill_162 (by decide) ?_
          refine ih _ _ ⟨fun j hj => ?_, hC.ur (i := p * 8 + q) (v := f_ft E D p q)⟩
          by_cases hjq : j = p * 8 + q
          · rw [hjq, va_up_at, show (p * 8 + q) / 8 = p by omega, show (p * 8 + q) % 8 = q by omega]
          · rw [va_up_nat hjq]; exact hr j (by omega)
    · have hv := v_w_ok (b := b) (l := l) w hw
      by_cases c35 : w + 1 = lv
      · refine aw_iload_n dX2_fill_25 rfl ?_
        refine aw_aload_n dX2_fill_26 rfl ?_
        refine aw_getI dX2_fill_27 f2_21 rfl ⟨Nat.le_of_ble_eq_true rfl, Nat.le_of_ble_eq_true rfl⟩ rfl ?_
        refine aw_top (hT.mv (hC.2 1 (by omega)) (hC.2 5 (by omega)) (hC.2 4 (by omega))).2.2 ?_
        refine aw_ic_ge_n (a := w) (b := q_k (q_w b) 5 l) (tgt := 118) dX2_fill_30 (by decide) (by omega) (by omega) (fun z => absurd z (by omega)) (fun c30 => ?_)
        refine aw_iload_n dX2_fill_33 rfl ?_
        refine aw_iload_n dX2_fill_34 rfl ?_
        refine aw_snd (show _ = nI (w + 1) - 1 from (nI_pred w).symm) ?_
        refine aw_ic_ne_p (a := w + 1) (b := lv) (tgt := 42) dX2_fill_35 (by decide) (by omega) (by omega) (fun z => absurd z (not_not_intro c35)) (fun c35 => ?_)
        refine aw_iconst (v := 1) dX2_fill_38 rfl ?_
        refine aw_goto (tgt := 48) dX2_fill_39 (by decide) ?_
        refine aw_istore (ls2 := [_, _, _, _, _, _, _, _]) dX2_fill_48 (by decide) rfl rfl ?_
        refine aw_aload_n dX2_fill_50 rfl ?_
        refine aw_iload_n dX2_fill_51 rfl ?_
        refine aw_iconst (v := 0) dX2_fill_52 rfl ?_
        refine aw_V0c (As := [_, _]) dX2_fill_53 k2_27 rfl rfl rfl ⟨Nat.le_of_ble_eq_true rfl, Nat.le_of_ble_eq_true rfl⟩ (Nat.le_of_ble_eq_true rfl) ⟨⟨Nat.le_of_ble_eq_true rfl, Nat.le_of_ble_eq_true rfl⟩, ⟨Nat.le_of_ble_eq_true rfl, Nat.le_of_ble_eq_true rfl⟩⟩ ⟨rfl, rfl⟩ (w_numW G (hT.mv (hC.2 1 (by omega)) (hC.2 5 (by omega)) (hC.2 4 (by omega))).1 hw (show 0 < 4 by decide)) (fun v h2 hq => ?_)
        obtain ⟨rfl, rfl⟩ := hq
        refine aw_istore (ls2 := [_, _, _, _, _, _, _, _]) dX2_fill_56 (by decide) rfl rfl ?_
        refine aw_aload_n dX2_fill_58 rfl ?_
        refine aw_iload_n dX2_fill_59 rfl ?_
        refine aw_iconst (v := 1) dX2_fill_60 rfl ?_
        refine aw_V0c (As := [_, _]) dX2_fill_61 k2_27 rfl rfl rfl ⟨Nat.le_of_ble_eq_true rfl, Nat.le_of_ble_eq_true rfl⟩ (Nat.le_of_ble_eq_true rfl) ⟨⟨Nat.le_of_ble_eq_true rfl, Nat.le_of_ble_eq_true rfl⟩, ⟨Nat.le_of_ble_eq_true rfl, Nat.le_of_ble_eq_true rfl⟩⟩ ⟨rfl, rfl⟩ (w_numW G (hT.mv (hC.2 1 (by omega)) (hC.2 5 (by omega)) (hC.2 4 (by omega))).1 hw (show 1 < 4 by decide)) (fun v h2 hq => ?_)
        obtain ⟨rfl, rfl⟩ := hq
        refine aw_istore (ls2 := [_, _, _, _, _, _, _, _]) dX2_fill_64 (by decide) rfl rfl ?_
        refine aw_aload_n dX2_fill_66 rfl ?_
        refine aw_iload_n dX2_fill_67 rfl ?_
        refine aw_iconst (v := 2) dX2_fill_68 rfl ?_
        refine aw_V0c (As := [_, _]) dX2_fill_69 k2_27 rfl rfl rfl ⟨Nat.le_of_ble_eq_true rfl, Nat.le_of_ble_eq_true rfl⟩ (Nat.le_of_ble_eq_true rfl) ⟨⟨Nat.le_of_ble_eq_true rfl, Nat.le_of_ble_eq_true rfl⟩, ⟨Nat.le_of_ble_eq_true rfl, Nat.le_of_ble_eq_true rfl⟩⟩ ⟨rfl, rfl⟩ (w_numW G (hT.mv (hC.2 1 (by omega)) (hC.2 5 (by omega)) (hC.2 4 (by omega))).1 hw (show 2 < 4 by decide)) (fun v h2 hq => ?_)
        obtain ⟨rfl, rfl⟩ := hq
        refine aw_istore (ls2 := [_, _, _, _, _, _, _, _]) dX2_fill_72 (by decide) rfl rfl ?_
        have hlen := f_len (l := v_w b w 2) (s := 1) ⟨hv.2.2.2.1, hv.2.2.2.2.1⟩ (by decide)
        refine aw_aload_n dX2_fill_74 rfl ?_
        refine aw_iload dX2_fill_75 rfl ?_
        refine aw_bipush (v := 8) dX2_fill_77 (by decide) ?_
        refine aw_imul_n (a := v_w b w 0) (b := 8) dX2_fill_79 ?_
        refine aw_iload dX2_fill_80 rfl ?_
        refine aw_iadd_n (a := (v_w b w 0) * 8) (b := v_w b w 1) dX2_fill_82 ?_
        refine aw_iload dX2_fill_83 rfl ?_
        refine aw_iconst (v := 3) dX2_fill_85 rfl ?_
        refine aw_iload dX2_fill_86 rfl ?_
        refine aw_isub_n (a := 3) (b := 1) dX2_fill_88 (by omega) ?_
        refine aw_imul_n (a := v_w b w 2) (b := 3 - 1) dX2_fill_89 ?_
        refine aw_V0c (As := [_, _]) dX2_fill_90 k2_31 rfl rfl rfl ⟨Nat.le_of_ble_eq_true rfl, Nat.le_of_ble_eq_true rfl⟩ (Nat.le_of_ble_eq_true rfl) ⟨⟨Nat.le_of_ble_eq_true rfl, Nat.le_of_ble_eq_true rfl⟩, ⟨Nat.le_of_ble_eq_true rfl, Nat.le_of_ble_eq_true rfl⟩⟩ ⟨rfl, rfl⟩ (w_shorten12 G hC (by omega) (by have := f_e_le (X := 1000) (V := f_lv (v_w b) lv) (n := w) (v_w b w 0 * 8 + v_w b w 1); omega) (by omega)) (fun v h2 hq => ?_)
        obtain ⟨rfl, I1, rfl, hC1⟩ := hq
        refine aw_aload_n dX2_fill_93 rfl ?_
        refine aw_iload dX2_fill_94 rfl ?_
        refine aw_bipush (v := 8) dX2_fill_96 (by decide) ?_
        refine aw_imul_n (a := v_w b w 1) (b := 8) dX2_fill_98 ?_
        refine aw_iload dX2_fill_99 rfl ?_
        refine aw_iadd_n (a := (v_w b w 1) * 8) (b := v_w b w 0) dX2_fill_101 ?_
        refine aw_iload dX2_fill_102 rfl ?_
        refine aw_iconst (v := 1) dX2_fill_104 rfl ?_
        refine aw_iload dX2_fill_105 rfl ?_
        refine aw_iadd_n (a := 1) (b := 1) dX2_fill_107 ?_
        refine aw_imul_n (a := v_w b w 2) (b := 1 + 1) dX2_fill_108 ?_
        refine aw_V0c (As := [_, _]) dX2_fill_109 k2_31 rfl rfl rfl ⟨Nat.le_of_ble_eq_true rfl, Nat.le_of_ble_eq_true rfl⟩ (Nat.le_of_ble_eq_true rfl) ⟨⟨Nat.le_of_ble_eq_true rfl, Nat.le_of_ble_eq_true rfl⟩, ⟨Nat.le_of_ble_eq_true rfl, Nat.le_of_ble_eq_true rfl⟩⟩ ⟨rfl, rfl⟩ (w_shorten12 G hC1 (by omega) (by have := f_put_le (z := f_e 1000 (f_lv (v_w b) lv) w) (i := v_w b w 0 * 8 + v_w b w 1) (v := (v_w b w 2) * (3 - 1)) (fun j => f_e_le j) (v_w b w 1 * 8 + v_w b w 0); omega) (by omega)) (fun v h2 hq => ?_)
        obtain ⟨rfl, I1, rfl, hC1⟩ := hq
        refine aw_iinc_n (ls2 := [_, _, _, _, _, _, _, _]) dX2_fill_112 rfl (by decide) rfl rfl ?_
        refine aw_goto (tgt := 25) dX2_fill_115 (by decide) ?_
        refine aw_kill (j := 4) (ls2 := [_, _, _, _, aw_x, _, _, _]) rfl (aw_kill (j := 5) (ls2 := [_, _, _, _, _, aw_x, _, _]) rfl (aw_kill (j := 6) (ls2 := [_, _, _, _, _, _, aw_x, _]) rfl (aw_kill (j := 7) (ls2 := [_, _, _, _, _, _, _, aw_x]) rfl (ih _ ?_))))
        rw [f_e, f_lv_n (by decide), f_lv_n (by decide), f_lv_n (by decide), Nat.mul_comm 8, Nat.mul_comm 8, show f_lv (v_w b) lv w 3 = 1 by rw [f_lv, if_pos ⟨rfl, c35⟩]]
        exact hC1
      · refine aw_iload_n dX2_fill_25 rfl ?_
        refine aw_aload_n dX2_fill_26 rfl ?_
        refine aw_getI dX2_fill_27 f2_21 rfl ⟨Nat.le_of_ble_eq_true rfl, Nat.le_of_ble_eq_true rfl⟩ rfl ?_
        refine aw_top (hT.mv (hC.2 1 (by omega)) (hC.2 5 (by omega)) (hC.2 4 (by omega))).2.2 ?_
        refine aw_ic_ge_n (a := w) (b := q_k (q_w b) 5 l) (tgt := 118) dX2_fill_30 (by decide) (by omega) (by omega) (fun z => absurd z (by omega)) (fun c30 => ?_)
        refine aw_iload_n dX2_fill_33 rfl ?_
        refine aw_iload_n dX2_fill_34 rfl ?_
        refine aw_snd (show _ = nI (w + 1) - 1 from (nI_pred w).symm) ?_
        refine aw_ic_ne_p (a := w + 1) (b := lv) (tgt := 42) dX2_fill_35 (by decide) (by omega) (by omega) (fun c35 => ?_) (fun z => absurd z c35)
        refine aw_aload_n dX2_fill_42 rfl ?_
        refine aw_iload_n dX2_fill_43 rfl ?_
        refine aw_iconst (v := 3) dX2_fill_44 rfl ?_
        refine aw_V0c (As := [_, _]) dX2_fill_45 k2_27 rfl rfl rfl ⟨Nat.le_of_ble_eq_true rfl, Nat.le_of_ble_eq_true rfl⟩ (Nat.le_of_ble_eq_true rfl) ⟨⟨Nat.le_of_ble_eq_true rfl, Nat.le_of_ble_eq_true rfl⟩, ⟨Nat.le_of_ble_eq_true rfl, Nat.le_of_ble_eq_true rfl⟩⟩ ⟨rfl, rfl⟩ (w_numW G (hT.mv (hC.2 1 (by omega)) (hC.2 5 (by omega)) (hC.2 4 (by omega))).1 hw (show 3 < 4 by decide)) (fun v h2 hq => ?_)
        obtain ⟨rfl, rfl⟩ := hq
        refine aw_istore (ls2 := [_, _, _, _, _, _, _, _]) dX2_fill_48 (by decide) rfl rfl ?_
        refine aw_aload_n dX2_fill_50 rfl ?_
        refine aw_iload_n dX2_fill_51 rfl ?_
        refine aw_iconst (v := 0) dX2_fill_52 rfl ?_
        refine aw_V0c (As := [_, _]) dX2_fill_53 k2_27 rfl rfl rfl ⟨Nat.le_of_ble_eq_true rfl, Nat.le_of_ble_eq_true rfl⟩ (Nat.le_of_ble_eq_true rfl) ⟨⟨Nat.le_of_ble_eq_true rfl, Nat.le_of_ble_eq_true rfl⟩, ⟨Nat.le_of_ble_eq_true rfl, Nat.le_of_ble_eq_true rfl⟩⟩ ⟨rfl, rfl⟩ (w_numW G (hT.mv (hC.2 1 (by omega)) (hC.2 5 (by omega)) (hC.2 4 (by omega))).1 hw (show 0 < 4 by decide)) (fun v h2 hq => ?_)
        obtain ⟨rfl, rfl⟩ := hq
        refine aw_istore (ls2 := [_, _, _, _, _, _, _, _]) dX2_fill_56 (by decide) rfl rfl ?_
        refine aw_aload_n dX2_fill_58 rfl ?_
        refine aw_iload_n dX2_fill_59 rfl ?_
        refine aw_iconst (v := 1) dX2_fill_60 rfl ?_
        refine aw_V0c (As := [_, _]) dX2_fill_61 k2_27 rfl rfl rfl ⟨Nat.le_of_ble_eq_true rfl, Nat.le_of_ble_eq_true rfl⟩ (Nat.le_of_ble_eq_true rfl) ⟨⟨Nat.le_of_ble_eq_true rfl, Nat.le_of_ble_eq_true rfl⟩, ⟨Nat.le_of_ble_eq_true rfl, Nat.le_of_ble_eq_true rfl⟩⟩ ⟨rfl, rfl⟩ (w_numW G (hT.mv (hC.2 1 (by omega)) (hC.2 5 (by omega)) (hC.2 4 (by omega))).1 hw (show 1 < 4 by decide)) (fun v h2 hq => ?_)
        obtain ⟨rfl, rfl⟩ := hq
        refine aw_istore (ls2 := [_, _, _, _, _, _, _, _]) dX2_fill_64 (by decide) rfl rfl ?_
        refine aw_aload_n dX2_fill_66 rfl ?_
        refine aw_iload_n dX2_fill_67 rfl ?_
        refine aw_iconst (v := 2) dX2_fill_68 rfl ?_
        refine aw_V0c (As := [_, _]) dX2_fill_69 k2_27 rfl rfl rfl ⟨Nat.le_of_ble_eq_true rfl, Nat.le_of_ble_eq_true rfl⟩ (Nat.le_of_ble_eq_true rfl) ⟨⟨Nat.le_of_ble_eq_true rfl, Nat.le_of_ble_eq_true rfl⟩, ⟨Nat.le_of_ble_eq_true rfl, Nat.le_of_ble_eq_true rfl⟩⟩ ⟨rfl, rfl⟩ (w_numW G (hT.mv (hC.2 1 (by omega)) (hC.2 5 (by omega)) (hC.2 4 (by omega))).1 hw (show 2 < 4 by decide)) (fun v h2 hq => ?_)
        obtain ⟨rfl, rfl⟩ := hq
        refine aw_istore (ls2 := [_, _, _, _, _, _, _, _]) dX2_fill_72 (by decide) rfl rfl ?_
        have hlen := f_len (l := v_w b w 2) (s := v_w b w 3) ⟨hv.2.2.2.1, hv.2.2.2.2.1⟩ hv.2.2.2.2.2
        refine aw_aload_n dX2_fill_74 rfl ?_
        refine aw_iload dX2_fill_75 rfl ?_
        refine aw_bipush (v := 8) dX2_fill_77 (by decide) ?_
        refine aw_imul_n (a := v_w b w 0) (b := 8) dX2_fill_79 ?_
        refine aw_iload dX2_fill_80 rfl ?_
        refine aw_iadd_n (a := (v_w b w 0) * 8) (b := v_w b w 1) dX2_fill_82 ?_
        refine aw_iload dX2_fill_83 rfl ?_
        refine aw_iconst (v := 3) dX2_fill_85 rfl ?_
        refine aw_iload dX2_fill_86 rfl ?_
        refine aw_isub_n (a := 3) (b := v_w b w 3) dX2_fill_88 (by omega) ?_
        refine aw_imul_n (a := v_w b w 2) (b := 3 - (v_w b w 3)) dX2_fill_89 ?_
        refine aw_V0c (As := [_, _]) dX2_fill_90 k2_31 rfl rfl rfl ⟨Nat.le_of_ble_eq_true rfl, Nat.le_of_ble_eq_true rfl⟩ (Nat.le_of_ble_eq_true rfl) ⟨⟨Nat.le_of_ble_eq_true rfl, Nat.le_of_ble_eq_true rfl⟩, ⟨Nat.le_of_ble_eq_true rfl, Nat.le_of_ble_eq_true rfl⟩⟩ ⟨rfl, rfl⟩ (w_shorten12 G hC (by omega) (by have := f_e_le (X := 1000) (V := f_lv (v_w b) lv) (n := w) (v_w b w 0 * 8 + v_w b w 1); omega) (by omega)) (fun v h2 hq => ?_)
        obtain ⟨rfl, I1, rfl, hC1⟩ := hq
        refine aw_aload_n dX2_fill_93 rfl ?_
        refine aw_iload dX2_fill_94 rfl ?_
        refine aw_bipush (v := 8) dX2_fill_96 (by decide) ?_
        refine aw_imul_n (a := v_w b w 1) (b := 8) dX2_fill_98 ?_
        refine aw_iload dX2_fill_99 rfl ?_
        refine aw_iadd_n (a := (v_w b w 1) * 8) (b := v_w b w 0) dX2_fill_101 ?_
        refine aw_iload dX2_fill_102 rfl ?_
        refine aw_iconst (v := 1) dX2_fill_104 rfl ?_
        refine aw_iload dX2_fill_105 rfl ?_
        refine aw_iadd_n (a := 1) (b := v_w b w 3) dX2_fill_107 ?_
        refine aw_imul_n (a := v_w b w 2) (b := 1 + (v_w b w 3)) dX2_fill_108 ?_
        refine aw_V0c (As := [_, _]) dX2_fill_109 k2_31 rfl rfl rfl ⟨Nat.le_of_ble_eq_true rfl, Nat.le_of_ble_eq_true rfl⟩ (Nat.le_of_ble_eq_true rfl) ⟨⟨Nat.le_of_ble_eq_true rfl, Nat.le_of_ble_eq_true rfl⟩, ⟨Nat.le_of_ble_eq_true rfl, Nat.le_of_ble_eq_true rfl⟩⟩ ⟨rfl, rfl⟩ (w_shorten12 G hC1 (by omega) (by have := f_put_le (z := f_e 1000 (f_lv (v_w b) lv) w) (i := v_w b w 0 * 8 + v_w b w 1) (v := (v_w b w 2) * (3 - (v_w b w 3))) (fun j => f_e_le j) (v_w b w 1 * 8 + v_w b w 0); omega) (by omega)) (fun v h2 hq => ?_)
        obtain ⟨rfl, I1, rfl, hC1⟩ := hq
        refine aw_iinc_n (ls2 := [_, _, _, _, _, _, _, _]) dX2_fill_112 rfl (by decide) rfl rfl ?_
        refine aw_goto (tgt := 25) dX2_fill_115 (by decide) ?_
        refine aw_kill (j := 4) (ls2 := [_, _, _, _, aw_x, _, _, _]) rfl (aw_kill (j := 5) (ls2 := [_, _, _, _, _, aw_x, _, _]) rfl (aw_kill (j := 6) (ls2 := [_, _, _, _, _, _, aw_x, _]) rfl (aw_kill (j := 7) (ls2 := [_, _, _, _, _, _, _, aw_x]) rfl (ih _ ?_))))
        rw [f_e, f_lv_n (by decide), f_lv_n (by decide), f_lv_n (by decide), Nat.mul_comm 8, Nat.mul_comm 8, show f_lv (v_w b) lv w 3 = v_w b w 3 by rw [f_lv, if_neg (fun z => c35 z.2)]]
        exact hC1
  · obtain ⟨he, hC⟩ := hh
    refine aw_iload_n dX2_fill_2 rfl ?_
    refine aw_bipush (v := 64) dX2_fill_3 (by decide) ?_
    refine aw_ic_ge_n (a := i) (b := 64) (tgt := 23) dX2_fill_5 (by decide) (by omega) (by omega) (fun z => absurd z (by omega)) (fun c5 => ?_)
    refine aw_aload_n dX2_fill_8 rfl ?_
    refine aw_getR dX2_fill_9 f2_9 rfl ⟨Nat.le_of_ble_eq_true rfl, Nat.le_of_ble_eq_true rfl⟩ rfl rfl ?_
    refine aw_iload_n dX2_fill_12 rfl ?_
    refine aw_sipush (v := 1000) dX2_fill_13 (by decide) ?_
    refine aw_iast_n (j := i) dX2_fill_16 rfl ⟨Nat.le_of_ble_eq_true rfl, Nat.le_of_ble_eq_true rfl⟩ (by decide) (by omega) ?_
    refine aw_iinc_n (ls2 := [_, _, _, _, _, _, _, _]) dX2_fill_17 rfl (by decide) rfl rfl ?_
    refine aw_goto (tgt := 2) dX2_fill_20 (by decide) ?_
    refine ih _ _ ⟨fun j hj => ?_, hC.ue (i := i) (v := 1000)⟩
    by_cases hji : j = i
    · rw [hji, va_up_at]
    · rw [va_up_nat hji]; exact he j (by omega)
theorem w_shorten60 (G : aw_G) {n c : Nat} {I I0 : Nat → Nat → Int32} {L : Nat → Nat → Int64} {e d r : Nat → Nat} {p t : Nat} (hC : zCx e d r 60 I0 I) (hp : p < 64) (hb : e p < 2147483648) (ht : t < 2147483648) : aw_Met G mX2_shorten [.ref 60, .int (nI p), .int (nI t)] (zH n I L c) (fun v h2 => v = none ∧ ∃ I2, h2 = zH n I2 L c ∧ zCx (f_put e p t) d r 60 I0 I2) := by
  refine aw_Met.of okX2_shorten (Nat.le_of_ble_eq_true rfl) ?_
  show aw_W G mX2_shorten 0 [.ref 60, .int (nI p), .int (nI t)] [] (zH n I L c) (0, 0) _
  refine aw_aload_n dX2_shorten_0 rfl ?_
  refine aw_getR dX2_shorten_1 f2_9 rfl ⟨Nat.le_of_ble_eq_true rfl, Nat.le_of_ble_eq_true rfl⟩ rfl rfl ?_
  refine aw_iload_n dX2_shorten_4 rfl ?_
  refine aw_aload_n dX2_shorten_5 rfl ?_
  refine aw_getR dX2_shorten_6 f2_9 rfl ⟨Nat.le_of_ble_eq_true rfl, Nat.le_of_ble_eq_true rfl⟩ rfl rfl ?_
  refine aw_iload_n dX2_shorten_9 rfl ?_
  refine aw_iald_n (j := p) dX2_shorten_10 rfl (Nat.le_of_ble_eq_true rfl) (by decide) (by omega) ?_
  refine aw_top (hC.1 (p) (by omega)).1 ?_
  refine aw_iload_n dX2_shorten_11 rfl ?_
  refine aw_min dX2_shorten_12 mm2_41 ⟨Nat.le_of_ble_eq_true rfl, Nat.le_of_ble_eq_true rfl⟩ ⟨Nat.le_of_ble_eq_true rfl, Nat.le_of_ble_eq_true rfl⟩ ?_
  refine aw_top (zi_min hb ht) ?_
  refine aw_iast_n (j := p) dX2_shorten_15 rfl ⟨Nat.le_of_ble_eq_true rfl, Nat.le_of_ble_eq_true rfl⟩ (by decide) (by omega) ?_
  refine aw_ret0 dX2_shorten_16 rfl ⟨Nat.le_of_ble_eq_true rfl, Nat.le_of_ble_eq_true rfl⟩ ?_
  exact ⟨rfl, _, rfl, hC.ue⟩
theorem w_addUp60 (G : aw_G) {n c : Nat} {I I0 : Nat → Nat → Int32} {L : Nat → Nat → Int64} {e d r : Nat → Nat} (hC : zCx e d r 60 I0 I) (he : ∀ j, j < 64 → e j ≤ 1000) (hF : ∀ k j, k ≤ 8 → j < 64 → f_fw e k j ≤ 1000) : aw_Met G mX2_addUp [.ref 60] (zH n I L c) (fun v h2 => v = none ∧ ∃ I2, h2 = zH n I2 L c ∧ zCx e (f_fw e 8) r 60 I0 I2) := by
  refine aw_Met.of okX2_addUp (Nat.le_of_ble_eq_true rfl) ?_
  show aw_W G mX2_addUp 0 [.ref 60, aw_x, aw_x, aw_x, aw_x, aw_x] [] (zH n I L c) (0, 0) _
  refine aw_iconst (v := 0) dX2_addUp_0 rfl ?_
  refine aw_istore_n (ls2 := [_, _, _, _, _, _]) dX2_addUp_1 (by decide) rfl rfl ?_
  refine aw_up (X := fun i => ∀ I d, (∀ j, j < i → d j = e j) ∧ zCx e d r 60 I0 I → aw_W G mX2_addUp 2 [.ref 60, .int (nI i), aw_x, aw_x, aw_x, aw_x] [] (zH n I L c) (0, 0) _) (Nat.zero_le 64) (fun I d hh => ?_) (fun i _ hi ih I d hh => ?_) I d ⟨fun j hj => absurd hj (by omega), hC⟩
  · obtain ⟨hd, hC⟩ := hh
    refine aw_iload_n dX2_addUp_2 rfl ?_
    refine aw_bipush (v := 64) dX2_addUp_3 (by decide) ?_
    refine aw_ic_ge_n (a := 64) (b := 64) (tgt := 26) dX2_addUp_5 (by decide) (by omega) (by omega) (fun c5 => ?_) (fun z => absurd z (by omega))
    refine aw_iconst (v := 0) dX2_addUp_26 rfl ?_
    refine aw_istore_n (ls2 := [_, _, _, _, _, _]) dX2_addUp_27 (by decide) rfl rfl ?_
    refine aw_up (X := fun p => ∀ I d, (∀ j, j < 64 → d j = if j / 8 = j % 8 ∧ j / 8 < p then 0 else e j) ∧ zCx e d r 60 I0 I → aw_W G mX2_addUp 28 [.ref 60, .int (nI p), aw_x, aw_x, aw_x, aw_x] [] (zH n I L c) (0, 0) _) (Nat.zero_le 8) (fun I d hh => ?_) (fun p _ hp ph I d hh => ?_) I d ⟨fun j hj => by rw [if_neg (by omega)]; exact hd j hj, hC⟩
    · obtain ⟨hd, hC⟩ := hh
      refine aw_iload_n dX2_addUp_28 rfl ?_
      refine aw_bipush (v := 8) dX2_addUp_29 (by decide) ?_
      refine aw_ic_ge_n (a := 8) (b := 8) (tgt := 52) dX2_addUp_31 (by decide) (by omega) (by omega) (fun c31 => ?_) (fun z => absurd z (by omega))
      refine aw_iconst (v := 0) dX2_addUp_52 rfl ?_
      refine aw_istore_n (ls2 := [_, _, _, _, _, _]) dX2_addUp_53 (by decide) rfl rfl ?_
      refine aw_up (X := fun y => ∀ I d, (∀ j, j < 64 → d j = f_fw e y j) ∧ zCx e d r 60 I0 I → aw_W G mX2_addUp 54 [.ref 60, .int (nI y), aw_x, aw_x, aw_x, aw_x] [] (zH n I L c) (0, 0) _) (Nat.zero_le 8) (fun I d hh => ?_) (fun y _ hy yh I d hh => ?_) I d ⟨fun j hj => ?_, hC⟩
      · obtain ⟨hd, hC⟩ := hh
        refine aw_iload_n dX2_addUp_54 rfl ?_
        refine aw_bipush (v := 8) dX2_addUp_55 (by decide) ?_
        refine aw_ic_ge_n (a := 8) (b := 8) (tgt := 162) dX2_addUp_57 (by decide) (by omega) (by omega) (fun c57 => ?_) (fun z => absurd z (by omega))
        refine aw_ret0 dX2_addUp_162 rfl ⟨Nat.le_of_ble_eq_true rfl, Nat.le_of_ble_eq_true rfl⟩ ?_
        exact ⟨rfl, _, rfl, hC.cg (fun _ _ => rfl) hd (fun _ _ => rfl)⟩
      · obtain ⟨hd, hC⟩ := hh
        refine aw_iload_n dX2_addUp_54 rfl ?_
        refine aw_bipush (v := 8) dX2_addUp_55 (by decide) ?_
        refine aw_ic_ge_n (a := y) (b := 8) (tgt := 162) dX2_addUp_57 (by decide) (by omega) (by omega) (fun z => absurd z (by omega)) (fun c57 => ?_)
        refine aw_iconst (v := 0) dX2_addUp_60 rfl ?_
        refine aw_istore_n (ls2 := [_, _, _, _, _, _]) dX2_addUp_61 (by decide) rfl rfl ?_
        refine aw_up (X := fun p => ∀ I d, (∀ j, j < 64 → d j = if j < p * 8 then f_s (f_fw e y) y j else f_fw e y j) ∧ zCx e d r 60 I0 I → aw_W G mX2_addUp 62 [.ref 60, .int (nI y), .int (nI p), aw_x, aw_x, aw_x] [] (zH n I L c) (0, 0) _) (Nat.zero_le 8) (fun I d hh => ?_) (fun p _ hp ph I d hh => ?_) I d ⟨fun j hj => by rw [if_neg (by omega)]; exact hd j hj, hC⟩
        · obtain ⟨hd, hC⟩ := hh
          refine aw_iload_n dX2_addUp_62 rfl ?_
          refine aw_bipush (v := 8) dX2_addUp_63 (by decide) ?_
          refine aw_ic_ge_n (a := 8) (b := 8) (tgt := 156) dX2_addUp_65 (by decide) (by omega) (by omega) (fun c65 => ?_) (fun z => absurd z (by omega))
          refine aw_iinc_n (ls2 := [_, _, _, _, _, _]) dX2_addUp_156 rfl (by decide) rfl rfl ?_
          refine aw_goto (tgt := 54) dX2_addUp_159 (by decide) ?_
          refine aw_kill (j := 2) (ls2 := [_, _, aw_x, _, _, _]) rfl (yh I d ⟨fun j hj => ?_, hC⟩)
          rw [hd j hj, if_pos (by omega)]; rfl
        · obtain ⟨hd, hC⟩ := hh
          have hb0 := hF y (8 * p + y) (by omega) (by omega)
          have hfi : d (p * 8 + y) = f_fw e y (8 * p + y) := by rw [hd _ (by omega), if_neg (by omega), Nat.mul_comm p 8]
          refine aw_iload_n dX2_addUp_62 rfl ?_
          refine aw_bipush (v := 8) dX2_addUp_63 (by decide) ?_
          refine aw_ic_ge_n (a := p) (b := 8) (tgt := 156) dX2_addUp_65 (by decide) (by omega) (by omega) (fun z => absurd z (by omega)) (fun c65 => ?_)
          refine aw_aload_n dX2_addUp_68 rfl ?_
          refine aw_getR dX2_addUp_69 f2_15 rfl ⟨Nat.le_of_ble_eq_true rfl, Nat.le_of_ble_eq_true rfl⟩ rfl rfl ?_
          refine aw_iload_n dX2_addUp_72 rfl ?_
          refine aw_bipush (v := 8) dX2_addUp_73 (by decide) ?_
          refine aw_imul_n (a := p) (b := 8) dX2_addUp_75 ?_
          refine aw_iload_n dX2_addUp_76 rfl ?_
          refine aw_iadd_n (a := p * 8) (b := y) dX2_addUp_77 ?_
          refine aw_iald_n (j := (p * 8) + y) dX2_addUp_78 rfl (Nat.le_of_ble_eq_true rfl) (by decide) (by omega) ?_
          refine aw_top ((hC.1 ((p * 8) + y) (by omega)).2.1.trans (congrArg nI hfi)) ?_
          refine aw_istore_n (ls2 := [_, _, _, _, _, _]) dX2_addUp_79 (by decide) rfl rfl ?_
          refine aw_iconst (v := 0) dX2_addUp_80 rfl ?_
          refine aw_istore (ls2 := [_, _, _, _, _, _]) dX2_addUp_81 (by decide) rfl rfl ?_
          refine aw_up (X := fun q => ∀ I d, (∀ j, j < 64 → d j = if j < p * 8 + q then f_s (f_fw e y) y j else f_fw e y j) ∧ zCx e d r 60 I0 I → aw_W G mX2_addUp 83 [.ref 60, .int (nI y), .int (nI p), .int (nI (f_fw e y (8 * p + y))), .int (nI q), aw_x] [] (zH n I L c) (0, 0) _) (Nat.zero_le 8) (fun I d hh => ?_) (fun q _ hq ih I d hh => ?_) I d ⟨hd, hC⟩
          · obtain ⟨hd, hC⟩ := hh
            refine aw_iload_n dX2_addUp_83 rfl ?_
            refine aw_sipush (v := 1000) dX2_addUp_84 (by decide) ?_
            refine aw_ic_ge_n (a := f_fw e y (8 * p + y)) (b := 1000) (tgt := 150) dX2_addUp_87 (by decide) (by omega) (by omega) (fun c87 => ?_) (fun c87 => ?_)
            · refine aw_iinc_n (ls2 := [_, _, _, _, _, _]) dX2_addUp_150 rfl (by decide) rfl rfl ?_
              refine aw_goto (tgt := 62) dX2_addUp_153 (by decide) ?_
              exact aw_kill (j := 3) (ls2 := [_, _, _, aw_x, _, _]) rfl (aw_kill (j := 4) (ls2 := [_, _, _, _, aw_x, _]) rfl (aw_kill (j := 5) (ls2 := [_, _, _, _, _, aw_x]) rfl (ph I d ⟨fun j hj => by
                rw [hd j hj]
                by_cases hjq : j < p * 8 + 8
                · rw [if_pos hjq, if_pos (by omega)]
                · rw [if_neg hjq]
                  by_cases hjp : j < (p + 1) * 8
                  · rw [if_pos hjp, f_s, if_neg]
                    have h1 := hF y j (by omega) hj
                    rw [show j / 8 = p by omega]
                    omega
                  · rw [if_neg hjp], hC⟩)))
            · refine aw_iload dX2_addUp_90 rfl ?_
              refine aw_bipush (v := 8) dX2_addUp_92 (by decide) ?_
              refine aw_ic_ge_n (a := 8) (b := 8) (tgt := 150) dX2_addUp_94 (by decide) (by omega) (by omega) (fun c94 => ?_) (fun z => absurd z (by omega))
              refine aw_iinc_n (ls2 := [_, _, _, _, _, _]) dX2_addUp_150 rfl (by decide) rfl rfl ?_
              refine aw_goto (tgt := 62) dX2_addUp_153 (by decide) ?_
              exact aw_kill (j := 3) (ls2 := [_, _, _, aw_x, _, _]) rfl (aw_kill (j := 4) (ls2 := [_, _, _, _, aw_x, _]) rfl (aw_kill (j := 5) (ls2 := [_, _, _, _, _, aw_x]) rfl (ph I d ⟨fun j hj => by rw [hd j hj, show (p + 1) * 8 = p * 8 + 8 by omega], hC⟩)))
          · obtain ⟨hd, hC⟩ := hh
            have hyq : d (y * 8 + q) = f_fw e y (8 * y + q) := by
              rw [hd _ (by omega), Nat.mul_comm y 8]
              split
              · exact f_s_col (by omega) (f_fw_diag (by omega)) (by omega)
              · rfl
            have hpq : d (p * 8 + q) = f_fw e y (8 * p + q) := by rw [hd _ (by omega), if_neg (by omega), Nat.mul_comm p 8]
            have hb1 := hF y (8 * y + q) (by omega) (by omega)
            have hb2 := hF y (8 * p + q) (by omega) (by omega)
            refine aw_iload_n dX2_addUp_83 rfl ?_
            refine aw_sipush (v := 1000) dX2_addUp_84 (by decide) ?_
            refine aw_ic_ge_n (a := f_fw e y (8 * p + y)) (b := 1000) (tgt := 150) dX2_addUp_87 (by decide) (by omega) (by omega) (fun c87 => ?_) (fun c87 => ?_)
            · refine aw_iinc_n (ls2 := [_, _, _, _, _, _]) dX2_addUp_150 rfl (by decide) rfl rfl ?_
              refine aw_goto (tgt := 62) dX2_addUp_153 (by decide) ?_
              exact aw_kill (j := 3) (ls2 := [_, _, _, aw_x, _, _]) rfl (aw_kill (j := 4) (ls2 := [_, _, _, _, aw_x, _]) rfl (aw_kill (j := 5) (ls2 := [_, _, _, _, _, aw_x]) rfl (ph I d ⟨fun j hj => by
                rw [hd j hj]
                by_cases hjq : j < p * 8 + q
                · rw [if_pos hjq, if_pos (by omega)]
                · rw [if_neg hjq]
                  by_cases hjp : j < (p + 1) * 8
                  · rw [if_pos hjp, f_s, if_neg]
                    have h1 := hF y j (by omega) hj
                    rw [show j / 8 = p by omega]
                    omega
                  · rw [if_neg hjp], hC⟩)))
            · refine aw_iload dX2_addUp_90 rfl ?_
              refine aw_bipush (v := 8) dX2_addUp_92 (by decide) ?_
              refine aw_ic_ge_n (a := q) (b := 8) (tgt := 150) dX2_addUp_94 (by decide) (by omega) (by omega) (fun z => absurd z (by omega)) (fun c94 => ?_)
              refine aw_iload_n dX2_addUp_97 rfl ?_
              refine aw_aload_n dX2_addUp_98 rfl ?_
              refine aw_getR dX2_addUp_99 f2_15 rfl ⟨Nat.le_of_ble_eq_true rfl, Nat.le_of_ble_eq_true rfl⟩ rfl rfl ?_
              refine aw_iload_n dX2_addUp_102 rfl ?_
              refine aw_bipush (v := 8) dX2_addUp_103 (by decide) ?_
              refine aw_imul_n (a := y) (b := 8) dX2_addUp_105 ?_
              refine aw_iload dX2_addUp_106 rfl ?_
              refine aw_iadd_n (a := y * 8) (b := q) dX2_addUp_108 ?_
              refine aw_iald_n (j := (y * 8) + q) dX2_addUp_109 rfl (Nat.le_of_ble_eq_true rfl) (by decide) (by omega) ?_
              refine aw_top ((hC.1 ((y * 8) + q) (by omega)).2.1.trans (congrArg nI hyq)) ?_
              refine aw_iadd_n (a := f_fw e y (8 * p + y)) (b := f_fw e y (8 * y + q)) dX2_addUp_110 ?_
              refine aw_istore (ls2 := [_, _, _, _, _, _]) dX2_addUp_111 (by decide) rfl rfl ?_
              refine aw_iload dX2_addUp_113 rfl ?_
              refine aw_aload_n dX2_addUp_115 rfl ?_
              refine aw_getR dX2_addUp_116 f2_15 rfl ⟨Nat.le_of_ble_eq_true rfl, Nat.le_of_ble_eq_true rfl⟩ rfl rfl ?_
              refine aw_iload_n dX2_addUp_119 rfl ?_
              refine aw_bipush (v := 8) dX2_addUp_120 (by decide) ?_
              refine aw_imul_n (a := p) (b := 8) dX2_addUp_122 ?_
              refine aw_iload dX2_addUp_123 rfl ?_
              refine aw_iadd_n (a := p * 8) (b := q) dX2_addUp_125 ?_
              refine aw_iald_n (j := (p * 8) + q) dX2_addUp_126 rfl (Nat.le_of_ble_eq_true rfl) (by decide) (by omega) ?_
              refine aw_top ((hC.1 ((p * 8) + q) (by omega)).2.1.trans (congrArg nI hpq)) ?_
              refine aw_ic_ge_n (a := (f_fw e y (8 * p + y)) + (f_fw e y (8 * y + q))) (b := f_fw e y (8 * p + q)) (tgt := 144) dX2_addUp_127 (by decide) (by omega) (by omega) (fun c127 => ?_) (fun c127 => ?_)
              · refine aw_iinc_n (ls2 := [_, _, _, _, _, _]) dX2_addUp_144 rfl (by decide) rfl rfl ?_
                refine aw_goto (tgt := 83) dX2_addUp_147 (by decide) ?_
                refine aw_kill (j := 5) (ls2 := [_, _, _, _, _, aw_x]) rfl ?_
                have hfs := f_s_at (d := f_fw e y) (k := y) (p := p) (q := q) (by omega)
                rw [if_neg (by omega)] at hfs
                refine ih I d ⟨fun j hj => ?_, hC⟩
                rw [hd j hj]
                by_cases hjq : j = p * 8 + q
                · rw [hjq, if_neg (by omega), if_pos (by omega), Nat.mul_comm p 8, hfs]
                · by_cases h2 : j < p * 8 + q
                  · rw [if_pos h2, if_pos (by omega)]
                  · rw [if_neg h2, if_neg (by omega)]
              · refine aw_aload_n dX2_addUp_130 rfl ?_
                refine aw_getR dX2_addUp_131 f2_15 rfl ⟨Nat.le_of_ble_eq_true rfl, Nat.le_of_ble_eq_true rfl⟩ rfl rfl ?_
                refine aw_iload_n dX2_addUp_134 rfl ?_
                refine aw_bipush (v := 8) dX2_addUp_135 (by decide) ?_
                refine aw_imul_n (a := p) (b := 8) dX2_addUp_137 ?_
                refine aw_iload dX2_addUp_138 rfl ?_
                refine aw_iadd_n (a := p * 8) (b := q) dX2_addUp_140 ?_
                refine aw_iload dX2_addUp_141 rfl ?_
                refine aw_iast_n (j := (p * 8) + q) dX2_addUp_143 rfl ⟨Nat.le_of_ble_eq_true rfl, Nat.le_of_ble_eq_true rfl⟩ (by decide) (by omega) ?_
                refine aw_iinc_n (ls2 := [_, _, _, _, _, _]) dX2_addUp_144 rfl (by decide) rfl rfl ?_
                refine aw_goto (tgt := 83) dX2_addUp_147 (by decide) ?_
                refine aw_kill (j := 5) (ls2 := [_, _, _, _, _, aw_x]) rfl ?_
                have hfs := f_s_at (d := f_fw e y) (k := y) (p := p) (q := q) (by omega)
                rw [if_pos (by omega)] at hfs
                refine ih _ _ ⟨fun j hj => ?_, hC.ud⟩
                by_cases hjq : j = p * 8 + q
                · rw [hjq, va_up_at, if_pos (by omega), Nat.mul_comm p 8, hfs]
                · rw [va_up_nat hjq, hd j hj]
                  by_cases h2 : j < p * 8 + q
                  · rw [if_pos h2, if_pos (by omega)]
                  · rw [if_neg h2, if_neg (by omega)]
      · rw [hd j hj, f_fw, f_d0]
        by_cases hj2 : j / 8 = j % 8
        · rw [if_pos ⟨hj2, by omega⟩, if_pos hj2]
        · rw [if_neg (fun z => hj2 z.1), if_neg hj2]
    · obtain ⟨hd, hC⟩ := hh
      refine aw_iload_n dX2_addUp_28 rfl ?_
      refine aw_bipush (v := 8) dX2_addUp_29 (by decide) ?_
      refine aw_ic_ge_n (a := p) (b := 8) (tgt := 52) dX2_addUp_31 (by decide) (by omega) (by omega) (fun z => absurd z (by omega)) (fun c31 => ?_)
      refine aw_aload_n dX2_addUp_34 rfl ?_
      refine aw_getR dX2_addUp_35 f2_15 rfl ⟨Nat.le_of_ble_eq_true rfl, Nat.le_of_ble_eq_true rfl⟩ rfl rfl ?_
      refine aw_iload_n dX2_addUp_38 rfl ?_
      refine aw_bipush (v := 8) dX2_addUp_39 (by decide) ?_
      refine aw_imul_n (a := p) (b := 8) dX2_addUp_41 ?_
      refine aw_iload_n dX2_addUp_42 rfl ?_
      refine aw_iadd_n (a := p * 8) (b := p) dX2_addUp_43 ?_
      refine aw_iconst (v := 0) dX2_addUp_44 rfl ?_
      refine aw_iast_n (j := (p * 8) + p) dX2_addUp_45 rfl ⟨Nat.le_of_ble_eq_true rfl, Nat.le_of_ble_eq_true rfl⟩ (by decide) (by omega) ?_
      refine aw_iinc_n (ls2 := [_, _, _, _, _, _]) dX2_addUp_46 rfl (by decide) rfl rfl ?_
      refine aw_goto (tgt := 28) dX2_addUp_49 (by decide) ?_
      refine ph _ _ ⟨fun j hj => ?_, hC.ud (i := p * 8 + p) (v := 0)⟩
      by_cases hjp : j = p * 8 + p
      · rw [hjp, va_up_at, if_pos (by omega)]
      · rw [va_up_nat hjp, hd j hj]
        by_cases h2 : j / 8 = j % 8 ∧ j / 8 < p
        · rw [if_pos h2, if_pos (by omega)]
        · rw [if_neg h2, if_neg (by omega)]
  · obtain ⟨hd, hC⟩ := hh
    refine aw_iload_n dX2_addUp_2 rfl ?_
    refine aw_bipush (v := 64) dX2_addUp_3 (by decide) ?_
    refine aw_ic_ge_n (a := i) (b := 64) (tgt := 26) dX2_addUp_5 (by decide) (by omega) (by omega) (fun z => absurd z (by omega)) (fun c5 => ?_)
    refine aw_aload_n dX2_addUp_8 rfl ?_
    refine aw_getR dX2_addUp_9 f2_15 rfl ⟨Nat.le_of_ble_eq_true rfl, Nat.le_of_ble_eq_true rfl⟩ rfl rfl ?_
    refine aw_iload_n dX2_addUp_12 rfl ?_
    refine aw_aload_n dX2_addUp_13 rfl ?_
    refine aw_getR dX2_addUp_14 f2_9 rfl ⟨Nat.le_of_ble_eq_true rfl, Nat.le_of_ble_eq_true rfl⟩ rfl rfl ?_
    refine aw_iload_n dX2_addUp_17 rfl ?_
    refine aw_iald_n (j := i) dX2_addUp_18 rfl (Nat.le_of_ble_eq_true rfl) (by decide) (by omega) ?_
    refine aw_top (hC.1 (i) (by omega)).1 ?_
    refine aw_iast_n (j := i) dX2_addUp_19 rfl ⟨Nat.le_of_ble_eq_true rfl, Nat.le_of_ble_eq_true rfl⟩ (by decide) (by omega) ?_
    refine aw_iinc_n (ls2 := [_, _, _, _, _, _]) dX2_addUp_20 rfl (by decide) rfl rfl ?_
    refine aw_goto (tgt := 2) dX2_addUp_23 (by decide) ?_
    refine ih _ _ ⟨fun j hj => ?_, hC.ud (i := i) (v := e i)⟩
    by_cases hji : j = i
    · rw [hji, va_up_at]
    · rw [va_up_nat hji, hd j (by omega)]
theorem w_firstTurn60 (G : aw_G) {n c : Nat} {I I0 : Nat → Nat → Int32} {L : Nat → Nat → Int64} {e d r : Nat → Nat} {p g : Nat} (hC : zCx e d r 60 I0 I) (hp : p < 8) (hg : g < 8) (he : ∀ j, j < 64 → e j ≤ 1000) (hdb : ∀ j, j < 64 → d j ≤ 1000) : aw_Met G mX2_firstTurn [.ref 60, .int (nI p), .int (nI g)] (zH n I L c) (fun v h2 => v = some (.int (nI (f_ft e d p g) - 1)) ∧ h2 = zH n I L c) := by
  have hb0 := hdb (p * 8 + g) (by omega)
  have hmc : d (8 * p + g) = d (p * 8 + g) := by rw [Nat.mul_comm]
  refine aw_Met.of okX2_firstTurn (Nat.le_of_ble_eq_true rfl) ?_
  show aw_W G mX2_firstTurn 0 [.ref 60, .int (nI p), .int (nI g), aw_x, aw_x] [] (zH n I L c) (0, 0) _
  refine aw_aload_n dX2_firstTurn_0 rfl ?_
  refine aw_getR dX2_firstTurn_1 f2_15 rfl ⟨Nat.le_of_ble_eq_true rfl, Nat.le_of_ble_eq_true rfl⟩ rfl rfl ?_
  refine aw_iload_n dX2_firstTurn_4 rfl ?_
  refine aw_bipush (v := 8) dX2_firstTurn_5 (by decide) ?_
  refine aw_imul_n (a := p) (b := 8) dX2_firstTurn_7 ?_
  refine aw_iload_n dX2_firstTurn_8 rfl ?_
  refine aw_iadd_n (a := p * 8) (b := g) dX2_firstTurn_9 ?_
  refine aw_iald_n (j := (p * 8) + g) dX2_firstTurn_10 rfl (Nat.le_of_ble_eq_true rfl) (by decide) (by omega) ?_
  refine aw_top (hC.1 ((p * 8) + g) (by omega)).2.1 ?_
  refine aw_istore_n (ls2 := [_, _, _, _, _]) dX2_firstTurn_11 (by decide) rfl rfl ?_
  refine aw_iload_n dX2_firstTurn_12 rfl ?_
  refine aw_iload_n dX2_firstTurn_13 rfl ?_
  refine aw_ic_eq_n (a := p) (b := g) (tgt := 24) dX2_firstTurn_14 (by decide) (by omega) (by omega) (fun c14 => ?_) (fun c14 => ?_)
  · refine aw_iconst (v := -1) dX2_firstTurn_24 rfl ?_
    refine aw_reti dX2_firstTurn_25 rfl rfl ⟨Nat.le_of_ble_eq_true rfl, Nat.le_of_ble_eq_true rfl⟩ ?_
    refine ⟨?_, rfl⟩
    rw [f_ft, if_pos (by omega)]; rfl
  · refine aw_iload_n dX2_firstTurn_17 rfl ?_
    refine aw_sipush (v := 1000) dX2_firstTurn_18 (by decide) ?_
    refine aw_ic_lt_n (a := d ((p * 8) + g)) (b := 1000) (tgt := 26) dX2_firstTurn_21 (by decide) (by omega) (by omega) (fun c21 => ?_) (fun c21 => ?_)
    · refine aw_iconst (v := 0) dX2_firstTurn_26 rfl ?_
      refine aw_istore (ls2 := [_, _, _, _, _]) dX2_firstTurn_27 (by decide) rfl rfl ?_
      refine aw_up (X := fun q => zfst (fun q => decide (e (8 * p + q) + d (8 * q + g) = d (8 * p + g))) q = 0 → aw_W G mX2_firstTurn 29 [.ref 60, .int (nI p), .int (nI g), .int (nI (d (p * 8 + g))), .int (nI q)] [] (zH n I L c) (0, 0) _) (Nat.zero_le 8) (fun hz => ?_) (fun q _ hq ih hz => ?_) rfl
      · refine aw_iload dX2_firstTurn_29 rfl ?_
        refine aw_bipush (v := 8) dX2_firstTurn_31 (by decide) ?_
        refine aw_ic_ge_n (a := 8) (b := 8) (tgt := 74) dX2_firstTurn_33 (by decide) (by omega) (by omega) (fun c33 => ?_) (fun z => absurd z (by omega))
        refine aw_iconst (v := -1) dX2_firstTurn_74 rfl ?_
        refine aw_reti dX2_firstTurn_75 rfl rfl ⟨Nat.le_of_ble_eq_true rfl, Nat.le_of_ble_eq_true rfl⟩ ?_
        refine ⟨?_, rfl⟩
        rw [f_ft, if_neg (by omega), hz]; rfl
      · have hb1 := he (p * 8 + q) (by omega)
        have hb2 := hdb (q * 8 + g) (by omega)
        refine aw_iload dX2_firstTurn_29 rfl ?_
        refine aw_bipush (v := 8) dX2_firstTurn_31 (by decide) ?_
        refine aw_ic_ge_n (a := q) (b := 8) (tgt := 74) dX2_firstTurn_33 (by decide) (by omega) (by omega) (fun z => absurd z (by omega)) (fun c33 => ?_)
        refine aw_aload_n dX2_firstTurn_36 rfl ?_
        refine aw_getR dX2_firstTurn_37 f2_9 rfl ⟨Nat.le_of_ble_eq_true rfl, Nat.le_of_ble_eq_true rfl⟩ rfl rfl ?_
        refine aw_iload_n dX2_firstTurn_40 rfl ?_
        refine aw_bipush (v := 8) dX2_firstTurn_41 (by decide) ?_
        refine aw_imul_n (a := p) (b := 8) dX2_firstTurn_43 ?_
        refine aw_iload dX2_firstTurn_44 rfl ?_
        refine aw_iadd_n (a := p * 8) (b := q) dX2_firstTurn_46 ?_
        refine aw_iald_n (j := (p * 8) + q) dX2_firstTurn_47 rfl (Nat.le_of_ble_eq_true rfl) (by decide) (by omega) ?_
        refine aw_top (hC.1 ((p * 8) + q) (by omega)).1 ?_
        refine aw_aload_n dX2_firstTurn_48 rfl ?_
        refine aw_getR dX2_firstTurn_49 f2_15 rfl ⟨Nat.le_of_ble_eq_true rfl, Nat.le_of_ble_eq_true rfl⟩ rfl rfl ?_
        refine aw_iload dX2_firstTurn_52 rfl ?_
        refine aw_bipush (v := 8) dX2_firstTurn_54 (by decide) ?_
        refine aw_imul_n (a := q) (b := 8) dX2_firstTurn_56 ?_
        refine aw_iload_n dX2_firstTurn_57 rfl ?_
        refine aw_iadd_n (a := q * 8) (b := g) dX2_firstTurn_58 ?_
        refine aw_iald_n (j := (q * 8) + g) dX2_firstTurn_59 rfl (Nat.le_of_ble_eq_true rfl) (by decide) (by omega) ?_
        refine aw_top (hC.1 ((q * 8) + g) (by omega)).2.1 ?_
        refine aw_iadd_n (a := e ((p * 8) + q)) (b := d ((q * 8) + g)) dX2_firstTurn_60 ?_
        refine aw_iload_n dX2_firstTurn_61 rfl ?_
        refine aw_ic_ne_n (a := (e ((p * 8) + q)) + (d ((q * 8) + g))) (b := d (p * 8 + g)) (tgt := 68) dX2_firstTurn_62 (by decide) (by omega) (by omega) (fun c62 => ?_) (fun c62 => ?_)
        · refine aw_iinc_n (ls2 := [_, _, _, _, _]) dX2_firstTurn_68 rfl (by decide) rfl rfl ?_
          refine aw_goto (tgt := 29) dX2_firstTurn_71 (by decide) ?_
          refine ih ?_
          rw [zfst, hz, if_neg (fun z => z rfl), if_neg]
          rw [decide_eq_true_eq, Nat.mul_comm 8 p, Nat.mul_comm 8 q]; exact c62
        · refine aw_iload dX2_firstTurn_65 rfl ?_
          refine aw_reti dX2_firstTurn_67 rfl rfl ⟨Nat.le_of_ble_eq_true rfl, Nat.le_of_ble_eq_true rfl⟩ ?_
          refine ⟨?_, rfl⟩
          have h1 : zfst (fun q => decide (e (8 * p + q) + d (8 * q + g) = d (8 * p + g))) (q + 1) = q + 1 := by
            rw [zfst, hz, if_neg (fun z => z rfl), if_pos]
            rw [decide_eq_true_eq, Nat.mul_comm 8 p, Nat.mul_comm 8 q]; exact c62
          have h2 : zfst (fun q => decide (e (8 * p + q) + d (8 * q + g) = d (8 * p + g))) 8 = q + 1 := zfst_st h1 (by omega)
          rw [f_ft, if_neg (by omega), h2]
          exact congrArg (fun z => some (Value.int z)) (nI_pred q).symm
    · refine aw_iconst (v := -1) dX2_firstTurn_24 rfl ?_
      refine aw_reti dX2_firstTurn_25 rfl rfl ⟨Nat.le_of_ble_eq_true rfl, Nat.le_of_ble_eq_true rfl⟩ ?_
      refine ⟨?_, rfl⟩
      rw [f_ft, if_pos (by omega)]; rfl
theorem w_distance60 (G : aw_G) {n c : Nat} {I I0 : Nat → Nat → Int32} {L : Nat → Nat → Int64} {e d r : Nat → Nat} {p g : Nat} (hC : zCx e d r 60 I0 I) (hp : p < 8) (hg : g < 8) (hdb : ∀ j, j < 64 → d j ≤ 1000) : aw_Met G mX2_distance [.ref 60, .int (nI p), .int (nI g)] (zH n I L c) (fun v h2 => v = some (.int (nI (if d (8 * p + g) < 1000 then d (8 * p + g) + 1 else 0) - 1)) ∧ h2 = zH n I L c) := by
  have hb0 := hdb (p * 8 + g) (by omega)
  have hmc : d (8 * p + g) = d (p * 8 + g) := by rw [Nat.mul_comm]
  refine aw_Met.of okX2_distance (Nat.le_of_ble_eq_true rfl) ?_
  show aw_W G mX2_distance 0 [.ref 60, .int (nI p), .int (nI g), aw_x] [] (zH n I L c) (0, 0) _
  refine aw_aload_n dX2_distance_0 rfl ?_
  refine aw_getR dX2_distance_1 f2_15 rfl ⟨Nat.le_of_ble_eq_true rfl, Nat.le_of_ble_eq_true rfl⟩ rfl rfl ?_
  refine aw_iload_n dX2_distance_4 rfl ?_
  refine aw_bipush (v := 8) dX2_distance_5 (by decide) ?_
  refine aw_imul_n (a := p) (b := 8) dX2_distance_7 ?_
  refine aw_iload_n dX2_distance_8 rfl ?_
  refine aw_iadd_n (a := p * 8) (b := g) dX2_distance_9 ?_
  refine aw_iald_n (j := (p * 8) + g) dX2_distance_10 rfl (Nat.le_of_ble_eq_true rfl) (by decide) (by omega) ?_
  refine aw_top (hC.1 ((p * 8) + g) (by omega)).2.1 ?_
  refine aw_istore_n (ls2 := [_, _, _, _]) dX2_distance_11 (by decide) rfl rfl ?_
  refine aw_iload_n dX2_distance_12 rfl ?_
  refine aw_sipush (v := 1000) dX2_distance_13 (by decide) ?_
  refine aw_ic_ge_n (a := d ((p * 8) + g)) (b := 1000) (tgt := 23) dX2_distance_16 (by decide) (by omega) (by omega) (fun c16 => ?_) (fun c16 => ?_)
  · refine aw_iconst (v := -1) dX2_distance_23 rfl ?_
    refine aw_reti dX2_distance_24 rfl rfl ⟨Nat.le_of_ble_eq_true rfl, Nat.le_of_ble_eq_true rfl⟩ ?_
    refine ⟨?_, rfl⟩
    rw [hmc]
    first
    | (rw [if_pos (by omega), nI_pred])
    | (rw [if_neg (by omega)]; rfl)
  · refine aw_iload_n dX2_distance_19 rfl ?_
    refine aw_goto (tgt := 24) dX2_distance_20 (by decide) ?_
    refine aw_reti dX2_distance_24 rfl rfl ⟨Nat.le_of_ble_eq_true rfl, Nat.le_of_ble_eq_true rfl⟩ ?_
    refine ⟨?_, rfl⟩
    rw [hmc]
    first
    | (rw [if_pos (by omega), nI_pred])
    | (rw [if_neg (by omega)]; rfl)
theorem w_fill60 (G : aw_G) {n c : Nat} {I : Nat → Nat → Int32} {L : Nat → Nat → Int64} {b : Nat → Nat} {l lv : Nat} (hT : zTxW b l I) (hlv : lv < 100000) : aw_Met G mX2_fill [.ref 60, .ref 4, .int (nI lv - 1)] (zH n I L c) (fun v h2 => v = none ∧ ∃ I2, h2 = zH n I2 L c ∧ zCx (f_x (f_lv (v_w b) lv) (q_k (q_w b) 5 l) 0) (f_x (f_lv (v_w b) lv) (q_k (q_w b) 5 l) 1) (f_x (f_lv (v_w b) lv) (q_k (q_w b) 5 l) 2) 60 I I2) := by
  refine aw_Met.of okX2_fill (Nat.le_of_ble_eq_true rfl) ?_
  show aw_W G mX2_fill 0 [.ref 60, .ref 4, .int (nI lv - 1), aw_x, aw_x, aw_x, aw_x, aw_x] [] (zH n I L c) (0, 0) _
  refine aw_iconst (v := 0) dX2_fill_0 rfl ?_
  refine aw_istore_n (ls2 := [_, _, _, _, _, _, _, _]) dX2_fill_1 (by decide) rfl rfl ?_
  obtain ⟨e, d, r, hC⟩ := zCx.any 60 I
  obtain ⟨I0, hI0⟩ : ∃ I0, I0 = I := ⟨_, rfl⟩
  rw [← hI0] at hT ⊢
  have hC : zCx e d r 60 I0 I := by rw [hI0]; exact hC
  have hkl := q_k_leW (b := b) hT.1.2.2.2.2
  rw [show zH n I0 L c = zH n I L c by rw [hI0]]
  refine aw_up (X := fun i => ∀ I e, (∀ j, j < i → e j = 1000) ∧ zCx e d r 60 I0 I → aw_W G mX2_fill 2 [.ref 60, .ref 4, .int (nI lv - 1), .int (nI i), aw_x, aw_x, aw_x, aw_x] [] (zH n I L c) (0, 0) _) (Nat.zero_le 64) (fun I e hh => ?_) (fun i _ hi ih I e hh => ?_) I e ⟨fun j hj => absurd hj (by omega), hC⟩
  · obtain ⟨he, hC⟩ := hh
    refine aw_iload_n dX2_fill_2 rfl ?_
    refine aw_bipush (v := 64) dX2_fill_3 (by decide) ?_
    refine aw_ic_ge_n (a := 64) (b := 64) (tgt := 23) dX2_fill_5 (by decide) (by omega) (by omega) (fun c5 => ?_) (fun z => absurd z (by omega))
    refine aw_iconst (v := 0) dX2_fill_23 rfl ?_
    refine aw_istore_n (ls2 := [_, _, _, _, _, _, _, _]) dX2_fill_24 (by decide) rfl rfl ?_
    refine aw_up (X := fun w => ∀ I, zCx (f_e 1000 (f_lv (v_w b) lv) w) d r 60 I0 I → aw_W G mX2_fill 25 [.ref 60, .ref 4, .int (nI lv - 1), .int (nI w), aw_x, aw_x, aw_x, aw_x] [] (zH n I L c) (0, 0) _) (Nat.zero_le (q_k (q_w b) 5 l)) (fun I hC => ?_) (fun w _ hw ih I hC => ?_) I (hC.cg he (fun _ _ => rfl) (fun _ _ => rfl))
    · obtain ⟨E, hEd⟩ : ∃ E, E = f_e 1000 (f_lv (v_w b) lv) (q_k (q_w b) 5 l) := ⟨_, rfl⟩
      rw [← hEd] at hC
      have hR0 := f_e_R (f_lv_ok (lv := lv) (v_w_ok (b := b) (l := l)))
      have hE : ∀ j, j < 64 → E j ≤ 1000 := fun j _ => by rw [hEd]; exact f_e_le j
      have hFF : ∀ k j, k ≤ 8 → j < 64 → f_fw E k j ≤ 1000 := fun k j hk hj => by
        have := (hR0.1.fw hR0.2 hk) j hj
        rw [← hEd] at this
        omega
      refine aw_iload_n dX2_fill_25 rfl ?_
      refine aw_aload_n dX2_fill_26 rfl ?_
      refine aw_getI dX2_fill_27 f2_21 rfl ⟨Nat.le_of_ble_eq_true rfl, Nat.le_of_ble_eq_true rfl⟩ rfl ?_
      refine aw_top (hT.mv (hC.2 1 (by omega)) (hC.2 5 (by omega)) (hC.2 4 (by omega))).2.2 ?_
      refine aw_ic_ge_n (a := q_k (q_w b) 5 l) (b := q_k (q_w b) 5 l) (tgt := 118) dX2_fill_30 (by decide) (by omega) (by omega) (fun c30 => ?_) (fun z => absurd z (by omega))
      refine aw_aload_n dX2_fill_118 rfl ?_
      refine aw_V0c (As := []) dX2_fill_119 k2_35 rfl rfl rfl ⟨Nat.le_of_ble_eq_true rfl, Nat.le_of_ble_eq_true rfl⟩ (Nat.le_of_ble_eq_true rfl) ⟨⟨Nat.le_of_ble_eq_true rfl, Nat.le_of_ble_eq_true rfl⟩, ⟨Nat.le_of_ble_eq_true rfl, Nat.le_of_ble_eq_true rfl⟩⟩ ⟨rfl, rfl⟩ (w_addUp60 G hC hE hFF) (fun v h2 hq => ?_)
      obtain ⟨rfl, I2, rfl, hC2⟩ := hq
      obtain ⟨D, hDd⟩ : ∃ D, D = f_fw E 8 := ⟨_, rfl⟩
      rw [← hDd] at hC2
      have hD : ∀ j, j < 64 → D j ≤ 1000 := fun j hj => by rw [hDd]; exact hFF 8 j (by omega) hj
      refine aw_iconst (v := 0) dX2_fill_122 rfl ?_
      refine aw_istore_n (ls2 := [_, _, _, _, _, _, _, _]) dX2_fill_123 (by decide) rfl rfl ?_
      refine aw_up (X := fun p => ∀ I r, (∀ j, j < p * 8 → r j = f_ft E D (j / 8) (j % 8)) ∧ zCx E D r 60 I0 I → aw_W G mX2_fill 124 [.ref 60, .ref 4, .int (nI lv - 1), .int (nI p), aw_x, aw_x, aw_x, aw_x] [] (zH n I L c) (0, 0) _) (Nat.zero_le 8) (fun I r hh => ?_) (fun p _ hp ph I r hh => ?_) I2 r ⟨fun j hj => absurd hj (by omega), hC2⟩
      · obtain ⟨hr, hC⟩ := hh
        refine aw_iload_n dX2_fill_124 rfl ?_
        refine aw_bipush (v := 8) dX2_fill_125 (by decide) ?_
        refine aw_ic_ge_n (a := 8) (b := 8) (tgt := 171) dX2_fill_127 (by decide) (by omega) (by omega) (fun c127 => ?_) (fun z => absurd z (by omega))
        refine aw_ret0 dX2_fill_171 rfl ⟨Nat.le_of_ble_eq_true rfl, Nat.le_of_ble_eq_true rfl⟩ ?_
        refine ⟨rfl, _, rfl, hC.cg (fun j _ => ?_) (fun j _ => ?_) (fun j hj => ?_)⟩
        · rw [f_x0, hEd]
        · rw [f_x1, hDd, hEd]
        · rw [hr j hj, f_x2, hDd, hEd]
      · obtain ⟨hr, hC⟩ := hh
        refine aw_iload_n dX2_fill_124 rfl ?_
        refine aw_bipush (v := 8) dX2_fill_125 (by decide) ?_
        refine aw_ic_ge_n (a := p) (b := 8) (tgt := 171) dX2_fill_127 (by decide) (by omega) (by omega) (fun z => absurd z (by omega)) (fun c127 => ?_)
        refine aw_iconst (v := 0) dX2_fill_130 rfl ?_
        refine aw_istore (ls2 := [_, _, _, _, _, _, _, _]) dX2_fill_131 (by decide) rfl rfl ?_
        refine aw_up (X := fun q => ∀ I r, (∀ j, j < p * 8 + q → r j = f_ft E D (j / 8) (j % 8)) ∧ zCx E D r 60 I0 I → aw_W G mX2_fill 133 [.ref 60, .ref 4, .int (nI lv - 1), .int (nI p), .int (nI q), aw_x, aw_x, aw_x] [] (zH n I L c) (0, 0) _) (Nat.zero_le 8) (fun I r hh => ?_) (fun q _ hq ih I r hh => ?_) I r ⟨fun j hj => hr j (by omega), hC⟩
        · obtain ⟨hr, hC⟩ := hh
          refine aw_iload dX2_fill_133 rfl ?_
          refine aw_bipush (v := 8) dX2_fill_135 (by decide) ?_
          refine aw_ic_ge_n (a := 8) (b := 8) (tgt := 165) dX2_fill_137 (by decide) (by omega) (by omega) (fun c137 => ?_) (fun z => absurd z (by omega))
          refine aw_iinc_n (ls2 := [_, _, _, _, _, _, _, _]) dX2_fill_165 rfl (by decide) rfl rfl ?_
          refine aw_goto (tgt := 124) dX2_fill_168 (by decide) ?_
          exact aw_kill (j := 4) (ls2 := [_, _, _, _, aw_x, _, _, _]) rfl (ph I r ⟨fun j hj => hr j (by omega), hC⟩)
        · obtain ⟨hr, hC⟩ := hh
          refine aw_iload dX2_fill_133 rfl ?_
          refine aw_bipush (v := 8) dX2_fill_135 (by decide) ?_
          refine aw_ic_ge_n (a := q) (b := 8) (tgt := 165) dX2_fill_137 (by decide) (by omega) (by omega) (fun z => absurd z (by omega)) (fun c137 => ?_)
          refine aw_aload_n dX2_fill_140 rfl ?_
          refine aw_getR dX2_fill_141 f2_18 rfl ⟨Nat.le_of_ble_eq_true rfl, Nat.le_of_ble_eq_true rfl⟩ rfl rfl ?_
          refine aw_iload_n dX2_fill_144 rfl ?_
          refine aw_bipush (v := 8) dX2_fill_145 (by decide) ?_
          refine aw_imul_n (a := p) (b := 8) dX2_fill_147 ?_
          refine aw_iload dX2_fill_148 rfl ?_
          refine aw_iadd_n (a := p * 8) (b := q) dX2_fill_150 ?_
          refine aw_aload_n dX2_fill_151 rfl ?_
          refine aw_iload_n dX2_fill_152 rfl ?_
          refine aw_iload dX2_fill_153 rfl ?_
          refine aw_V0c (As := [_, _]) dX2_fill_155 k2_38 rfl rfl rfl ⟨Nat.le_of_ble_eq_true rfl, Nat.le_of_ble_eq_true rfl⟩ (Nat.le_of_ble_eq_true rfl) ⟨⟨Nat.le_of_ble_eq_true rfl, Nat.le_of_ble_eq_true rfl⟩, ⟨Nat.le_of_ble_eq_true rfl, Nat.le_of_ble_eq_true rfl⟩⟩ ⟨rfl, rfl⟩ (w_firstTurn60 G hC hp hq (fun j hj => hE j hj) (fun j hj => hD j hj)) (fun v h2 hq => ?_)
          obtain ⟨rfl, rfl⟩ := hq
          refine aw_iast_n (j := (p * 8) + q) dX2_fill_158 rfl ⟨Nat.le_of_ble_eq_true rfl, Nat.le_of_ble_eq_true rfl⟩ (by decide) (by omega) ?_
          refine aw_iinc_n (ls2 := [_, _, _, _, _, _, _, _]) dX2_fill_159 rfl (by decide) rfl rfl ?_
          refine aw_goto (tgt := 133) dX2_fill_162 (by decide) ?_
          refine ih _ _ ⟨fun j hj => ?_, hC.ur (i := p * 8 + q) (v := f_ft E D p q)⟩
          by_cases hjq : j = p * 8 + q
          · rw [hjq, va_up_at, show (p * 8 + q) / 8 = p by omega, show (p * 8 + q) % 8 = q by omega]
          · rw [va_up_nat hjq]; exact hr j (by omega)
    · have hv := v_w_ok (b := b) (l := l) w hw
      by_cases c35 : w + 1 = lv
      · refine aw_iload_n dX2_fill_25 rfl ?_
        refine aw_aload_n dX2_fill_26 rfl ?_
        refine aw_getI dX2_fill_27 f2_21 rfl ⟨Nat.le_of_ble_eq_true rfl, Nat.le_of_ble_eq_true rfl⟩ rfl ?_
        refine aw_top (hT.mv (hC.2 1 (by omega)) (hC.2 5 (by omega)) (hC.2 4 (by omega))).2.2 ?_
        refine aw_ic_ge_n (a := w) (b := q_k (q_w b) 5 l) (tgt := 118) dX2_fill_30 (by decide) (by omega) (by omega) (fun z => absurd z (by omega)) (fun c30 => ?_)
        refine aw_iload_n dX2_fill_33 rfl ?_
        refine aw_iload_n dX2_fill_34 rfl ?_
        refine aw_snd (show _ = nI (w + 1) - 1 from (nI_pred w).symm) ?_
        refine aw_ic_ne_p (a := w + 1) (b := lv) (tgt := 42) dX2_fill_35 (by decide) (by omega) (by omega) (fun z => absurd z (not_not_intro c35)) (fun c35 => ?_)
        refine aw_iconst (v := 1) dX2_fill_38 rfl ?_
        refine aw_goto (tgt := 48) dX2_fill_39 (by decide) ?_
        refine aw_istore (ls2 := [_, _, _, _, _, _, _, _]) dX2_fill_48 (by decide) rfl rfl ?_
        refine aw_aload_n dX2_fill_50 rfl ?_
        refine aw_iload_n dX2_fill_51 rfl ?_
        refine aw_iconst (v := 0) dX2_fill_52 rfl ?_
        refine aw_V0c (As := [_, _]) dX2_fill_53 k2_27 rfl rfl rfl ⟨Nat.le_of_ble_eq_true rfl, Nat.le_of_ble_eq_true rfl⟩ (Nat.le_of_ble_eq_true rfl) ⟨⟨Nat.le_of_ble_eq_true rfl, Nat.le_of_ble_eq_true rfl⟩, ⟨Nat.le_of_ble_eq_true rfl, Nat.le_of_ble_eq_true rfl⟩⟩ ⟨rfl, rfl⟩ (w_numW G (hT.mv (hC.2 1 (by omega)) (hC.2 5 (by omega)) (hC.2 4 (by omega))).1 hw (show 0 < 4 by decide)) (fun v h2 hq => ?_)
        obtain ⟨rfl, rfl⟩ := hq
        refine aw_istore (ls2 := [_, _, _, _, _, _, _, _]) dX2_fill_56 (by decide) rfl rfl ?_
        refine aw_aload_n dX2_fill_58 rfl ?_
        refine aw_iload_n dX2_fill_59 rfl ?_
        refine aw_iconst (v := 1) dX2_fill_60 rfl ?_
        refine aw_V0c (As := [_, _]) dX2_fill_61 k2_27 rfl rfl rfl ⟨Nat.le_of_ble_eq_true rfl, Nat.le_of_ble_eq_true rfl⟩ (Nat.le_of_ble_eq_true rfl) ⟨⟨Nat.le_of_ble_eq_true rfl, Nat.le_of_ble_eq_true rfl⟩, ⟨Nat.le_of_ble_eq_true rfl, Nat.le_of_ble_eq_true rfl⟩⟩ ⟨rfl, rfl⟩ (w_numW G (hT.mv (hC.2 1 (by omega)) (hC.2 5 (by omega)) (hC.2 4 (by omega))).1 hw (show 1 < 4 by decide)) (fun v h2 hq => ?_)
        obtain ⟨rfl, rfl⟩ := hq
        refine aw_istore (ls2 := [_, _, _, _, _, _, _, _]) dX2_fill_64 (by decide) rfl rfl ?_
        refine aw_aload_n dX2_fill_66 rfl ?_
        refine aw_iload_n dX2_fill_67 rfl ?_
        refine aw_iconst (v := 2) dX2_fill_68 rfl ?_
        refine aw_V0c (As := [_, _]) dX2_fill_69 k2_27 rfl rfl rfl ⟨Nat.le_of_ble_eq_true rfl, Nat.le_of_ble_eq_true rfl⟩ (Nat.le_of_ble_eq_true rfl) ⟨⟨Nat.le_of_ble_eq_true rfl, Nat.le_of_ble_eq_true rfl⟩, ⟨Nat.le_of_ble_eq_true rfl, Nat.le_of_ble_eq_true rfl⟩⟩ ⟨rfl, rfl⟩ (w_numW G (hT.mv (hC.2 1 (by omega)) (hC.2 5 (by omega)) (hC.2 4 (by omega))).1 hw (show 2 < 4 by decide)) (fun v h2 hq => ?_)
        obtain ⟨rfl, rfl⟩ := hq
        refine aw_istore (ls2 := [_, _, _, _, _, _, _, _]) dX2_fill_72 (by decide) rfl rfl ?_
        have hlen := f_len (l := v_w b w 2) (s := 1) ⟨hv.2.2.2.1, hv.2.2.2.2.1⟩ (by decide)
        refine aw_aload_n dX2_fill_74 rfl ?_
        refine aw_iload dX2_fill_75 rfl ?_
        refine aw_bipush (v := 8) dX2_fill_77 (by decide) ?_
        refine aw_imul_n (a := v_w b w 0) (b := 8) dX2_fill_79 ?_
        refine aw_iload dX2_fill_80 rfl ?_
        refine aw_iadd_n (a := (v_w b w 0) * 8) (b := v_w b w 1) dX2_fill_82 ?_
        refine aw_iload dX2_fill_83 rfl ?_
        refine aw_iconst (v := 3) dX2_fill_85 rfl ?_
        refine aw_iload dX2_fill_86 rfl ?_
        refine aw_isub_n (a := 3) (b := 1) dX2_fill_88 (by omega) ?_
        refine aw_imul_n (a := v_w b w 2) (b := 3 - 1) dX2_fill_89 ?_
        refine aw_V0c (As := [_, _]) dX2_fill_90 k2_31 rfl rfl rfl ⟨Nat.le_of_ble_eq_true rfl, Nat.le_of_ble_eq_true rfl⟩ (Nat.le_of_ble_eq_true rfl) ⟨⟨Nat.le_of_ble_eq_true rfl, Nat.le_of_ble_eq_true rfl⟩, ⟨Nat.le_of_ble_eq_true rfl, Nat.le_of_ble_eq_true rfl⟩⟩ ⟨rfl, rfl⟩ (w_shorten60 G hC (by omega) (by have := f_e_le (X := 1000) (V := f_lv (v_w b) lv) (n := w) (v_w b w 0 * 8 + v_w b w 1); omega) (by omega)) (fun v h2 hq => ?_)
        obtain ⟨rfl, I1, rfl, hC1⟩ := hq
        refine aw_aload_n dX2_fill_93 rfl ?_
        refine aw_iload dX2_fill_94 rfl ?_
        refine aw_bipush (v := 8) dX2_fill_96 (by decide) ?_
        refine aw_imul_n (a := v_w b w 1) (b := 8) dX2_fill_98 ?_
        refine aw_iload dX2_fill_99 rfl ?_
        refine aw_iadd_n (a := (v_w b w 1) * 8) (b := v_w b w 0) dX2_fill_101 ?_
        refine aw_iload dX2_fill_102 rfl ?_
        refine aw_iconst (v := 1) dX2_fill_104 rfl ?_
        refine aw_iload dX2_fill_105 rfl ?_
        refine aw_iadd_n (a := 1) (b := 1) dX2_fill_107 ?_
        refine aw_imul_n (a := v_w b w 2) (b := 1 + 1) dX2_fill_108 ?_
        refine aw_V0c (As := [_, _]) dX2_fill_109 k2_31 rfl rfl rfl ⟨Nat.le_of_ble_eq_true rfl, Nat.le_of_ble_eq_true rfl⟩ (Nat.le_of_ble_eq_true rfl) ⟨⟨Nat.le_of_ble_eq_true rfl, Nat.le_of_ble_eq_true rfl⟩, ⟨Nat.le_of_ble_eq_true rfl, Nat.le_of_ble_eq_true rfl⟩⟩ ⟨rfl, rfl⟩ (w_shorten60 G hC1 (by omega) (by have := f_put_le (z := f_e 1000 (f_lv (v_w b) lv) w) (i := v_w b w 0 * 8 + v_w b w 1) (v := (v_w b w 2) * (3 - 1)) (fun j => f_e_le j) (v_w b w 1 * 8 + v_w b w 0); omega) (by omega)) (fun v h2 hq => ?_)
        obtain ⟨rfl, I1, rfl, hC1⟩ := hq
        refine aw_iinc_n (ls2 := [_, _, _, _, _, _, _, _]) dX2_fill_112 rfl (by decide) rfl rfl ?_
        refine aw_goto (tgt := 25) dX2_fill_115 (by decide) ?_
        refine aw_kill (j := 4) (ls2 := [_, _, _, _, aw_x, _, _, _]) rfl (aw_kill (j := 5) (ls2 := [_, _, _, _, _, aw_x, _, _]) rfl (aw_kill (j := 6) (ls2 := [_, _, _, _, _, _, aw_x, _]) rfl (aw_kill (j := 7) (ls2 := [_, _, _, _, _, _, _, aw_x]) rfl (ih _ ?_))))
        rw [f_e, f_lv_n (by decide), f_lv_n (by decide), f_lv_n (by decide), Nat.mul_comm 8, Nat.mul_comm 8, show f_lv (v_w b) lv w 3 = 1 by rw [f_lv, if_pos ⟨rfl, c35⟩]]
        exact hC1
      · refine aw_iload_n dX2_fill_25 rfl ?_
        refine aw_aload_n dX2_fill_26 rfl ?_
        refine aw_getI dX2_fill_27 f2_21 rfl ⟨Nat.le_of_ble_eq_true rfl, Nat.le_of_ble_eq_true rfl⟩ rfl ?_
        refine aw_top (hT.mv (hC.2 1 (by omega)) (hC.2 5 (by omega)) (hC.2 4 (by omega))).2.2 ?_
        refine aw_ic_ge_n (a := w) (b := q_k (q_w b) 5 l) (tgt := 118) dX2_fill_30 (by decide) (by omega) (by omega) (fun z => absurd z (by omega)) (fun c30 => ?_)
        refine aw_iload_n dX2_fill_33 rfl ?_
        refine aw_iload_n dX2_fill_34 rfl ?_
        refine aw_snd (show _ = nI (w + 1) - 1 from (nI_pred w).symm) ?_
        refine aw_ic_ne_p (a := w + 1) (b := lv) (tgt := 42) dX2_fill_35 (by decide) (by omega) (by omega) (fun c35 => ?_) (fun z => absurd z c35)
        refine aw_aload_n dX2_fill_42 rfl ?_
        refine aw_iload_n dX2_fill_43 rfl ?_
        refine aw_iconst (v := 3) dX2_fill_44 rfl ?_
        refine aw_V0c (As := [_, _]) dX2_fill_45 k2_27 rfl rfl rfl ⟨Nat.le_of_ble_eq_true rfl, Nat.le_of_ble_eq_true rfl⟩ (Nat.le_of_ble_eq_true rfl) ⟨⟨Nat.le_of_ble_eq_true rfl, Nat.le_of_ble_eq_true rfl⟩, ⟨Nat.le_of_ble_eq_true rfl, Nat.le_of_ble_eq_true rfl⟩⟩ ⟨rfl, rfl⟩ (w_numW G (hT.mv (hC.2 1 (by omega)) (hC.2 5 (by omega)) (hC.2 4 (by omega))).1 hw (show 3 < 4 by decide)) (fun v h2 hq => ?_)
        obtain ⟨rfl, rfl⟩ := hq
        refine aw_istore (ls2 := [_, _, _, _, _, _, _, _]) dX2_fill_48 (by decide) rfl rfl ?_
        refine aw_aload_n dX2_fill_50 rfl ?_
        refine aw_iload_n dX2_fill_51 rfl ?_
        refine aw_iconst (v := 0) dX2_fill_52 rfl ?_
        refine aw_V0c (As := [_, _]) dX2_fill_53 k2_27 rfl rfl rfl ⟨Nat.le_of_ble_eq_true rfl, Nat.le_of_ble_eq_true rfl⟩ (Nat.le_of_ble_eq_true rfl) ⟨⟨Nat.le_of_ble_eq_true rfl, Nat.le_of_ble_eq_true rfl⟩, ⟨Nat.le_of_ble_eq_true rfl, Nat.le_of_ble_eq_true rfl⟩⟩ ⟨rfl, rfl⟩ (w_numW G (hT.mv (hC.2 1 (by omega)) (hC.2 5 (by omega)) (hC.2 4 (by omega))).1 hw (show 0 < 4 by decide)) (fun v h2 hq => ?_)
        obtain ⟨rfl, rfl⟩ := hq
        refine aw_istore (ls2 := [_, _, _, _, _, _, _, _]) dX2_fill_56 (by decide) rfl rfl ?_
        refine aw_aload_n dX2_fill_58 rfl ?_
        refine aw_iload_n dX2_fill_59 rfl ?_
        refine aw_iconst (v := 1) dX2_fill_60 rfl ?_
        refine aw_V0c (As := [_, _]) dX2_fill_61 k2_27 rfl rfl rfl ⟨Nat.le_of_ble_eq_true rfl, Nat.le_of_ble_eq_true rfl⟩ (Nat.le_of_ble_eq_true rfl) ⟨⟨Nat.le_of_ble_eq_true rfl, Nat.le_of_ble_eq_true rfl⟩, ⟨Nat.le_of_ble_eq_true rfl, Nat.le_of_ble_eq_true rfl⟩⟩ ⟨rfl, rfl⟩ (w_numW G (hT.mv (hC.2 1 (by omega)) (hC.2 5 (by omega)) (hC.2 4 (by omega))).1 hw (show 1 < 4 by decide)) (fun v h2 hq => ?_)
        obtain ⟨rfl, rfl⟩ := hq
        refine aw_istore (ls2 := [_, _, _, _, _, _, _, _]) dX2_fill_64 (by decide) rfl rfl ?_
        refine aw_aload_n dX2_fill_66 rfl ?_
        refine aw_iload_n dX2_fill_67 rfl ?_
        refine aw_iconst (v := 2) dX2_fill_68 rfl ?_
        refine aw_V0c (As := [_, _]) dX2_fill_69 k2_27 rfl rfl rfl ⟨Nat.le_of_ble_eq_true rfl, Nat.le_of_ble_eq_true rfl⟩ (Nat.le_of_ble_eq_true rfl) ⟨⟨Nat.le_of_ble_eq_true rfl, Nat.le_of_ble_eq_true rfl⟩, ⟨Nat.le_of_ble_eq_true rfl, Nat.le_of_ble_eq_true rfl⟩⟩ ⟨rfl, rfl⟩ (w_numW G (hT.mv (hC.2 1 (by omega)) (hC.2 5 (by omega)) (hC.2 4 (by omega))).1 hw (show 2 < 4 by decide)) (fun v h2 hq => ?_)
        obtain ⟨rfl, rfl⟩ := hq
        refine aw_istore (ls2 := [_, _, _, _, _, _, _, _]) dX2_fill_72 (by decide) rfl rfl ?_
        have hlen := f_len (l := v_w b w 2) (s := v_w b w 3) ⟨hv.2.2.2.1, hv.2.2.2.2.1⟩ hv.2.2.2.2.2
        refine aw_aload_n dX2_fill_74 rfl ?_
        refine aw_iload dX2_fill_75 rfl ?_
        refine aw_bipush (v := 8) dX2_fill_77 (by decide) ?_
        refine aw_imul_n (a := v_w b w 0) (b := 8) dX2_fill_79 ?_
        refine aw_iload dX2_fill_80 rfl ?_
        refine aw_iadd_n (a := (v_w b w 0) * 8) (b := v_w b w 1) dX2_fill_82 ?_
        refine aw_iload dX2_fill_83 rfl ?_
        refine aw_iconst (v := 3) dX2_fill_85 rfl ?_
        refine aw_iload dX2_fill_86 rfl ?_
        refine aw_isub_n (a := 3) (b := v_w b w 3) dX2_fill_88 (by omega) ?_
        refine aw_imul_n (a := v_w b w 2) (b := 3 - (v_w b w 3)) dX2_fill_89 ?_
        refine aw_V0c (As := [_, _]) dX2_fill_90 k2_31 rfl rfl rfl ⟨Nat.le_of_ble_eq_true rfl, Nat.le_of_ble_eq_true rfl⟩ (Nat.le_of_ble_eq_true rfl) ⟨⟨Nat.le_of_ble_eq_true rfl, Nat.le_of_ble_eq_true rfl⟩, ⟨Nat.le_of_ble_eq_true rfl, Nat.le_of_ble_eq_true rfl⟩⟩ ⟨rfl, rfl⟩ (w_shorten60 G hC (by omega) (by have := f_e_le (X := 1000) (V := f_lv (v_w b) lv) (n := w) (v_w b w 0 * 8 + v_w b w 1); omega) (by omega)) (fun v h2 hq => ?_)
        obtain ⟨rfl, I1, rfl, hC1⟩ := hq
        refine aw_aload_n dX2_fill_93 rfl ?_
        refine aw_iload dX2_fill_94 rfl ?_
        refine aw_bipush (v := 8) dX2_fill_96 (by decide) ?_
        refine aw_imul_n (a := v_w b w 1) (b := 8) dX2_fill_98 ?_
        refine aw_iload dX2_fill_99 rfl ?_
        refine aw_iadd_n (a := (v_w b w 1) * 8) (b := v_w b w 0) dX2_fill_101 ?_
        refine aw_iload dX2_fill_102 rfl ?_
        refine aw_iconst (v := 1) dX2_fill_104 rfl ?_
        refine aw_iload dX2_fill_105 rfl ?_
        refine aw_iadd_n (a := 1) (b := v_w b w 3) dX2_fill_107 ?_
        refine aw_imul_n (a := v_w b w 2) (b := 1 + (v_w b w 3)) dX2_fill_108 ?_
        refine aw_V0c (As := [_, _]) dX2_fill_109 k2_31 rfl rfl rfl ⟨Nat.le_of_ble_eq_true rfl, Nat.le_of_ble_eq_true rfl⟩ (Nat.le_of_ble_eq_true rfl) ⟨⟨Nat.le_of_ble_eq_true rfl, Nat.le_of_ble_eq_true rfl⟩, ⟨Nat.le_of_ble_eq_true rfl, Nat.le_of_ble_eq_true rfl⟩⟩ ⟨rfl, rfl⟩ (w_shorten60 G hC1 (by omega) (by have := f_put_le (z := f_e 1000 (f_lv (v_w b) lv) w) (i := v_w b w 0 * 8 + v_w b w 1) (v := (v_w b w 2) * (3 - (v_w b w 3))) (fun j => f_e_le j) (v_w b w 1 * 8 + v_w b w 0); omega) (by omega)) (fun v h2 hq => ?_)
        obtain ⟨rfl, I1, rfl, hC1⟩ := hq
        refine aw_iinc_n (ls2 := [_, _, _, _, _, _, _, _]) dX2_fill_112 rfl (by decide) rfl rfl ?_
        refine aw_goto (tgt := 25) dX2_fill_115 (by decide) ?_
        refine aw_kill (j := 4) (ls2 := [_, _, _, _, aw_x, _, _, _]) rfl (aw_kill (j := 5) (ls2 := [_, _, _, _, _, aw_x, _, _]) rfl (aw_kill (j := 6) (ls2 := [_, _, _, _, _, _, aw_x, _]) rfl (aw_kill (j := 7) (ls2 := [_, _, _, _, _, _, _, aw_x]) rfl (ih _ ?_))))
        rw [f_e, f_lv_n (by decide), f_lv_n (by decide), f_lv_n (by decide), Nat.mul_comm 8, Nat.mul_comm 8, show f_lv (v_w b) lv w 3 = v_w b w 3 by rw [f_lv, if_neg (fun z => c35 z.2)]]
        exact hC1
  · obtain ⟨he, hC⟩ := hh
    refine aw_iload_n dX2_fill_2 rfl ?_
    refine aw_bipush (v := 64) dX2_fill_3 (by decide) ?_
    refine aw_ic_ge_n (a := i) (b := 64) (tgt := 23) dX2_fill_5 (by decide) (by omega) (by omega) (fun z => absurd z (by omega)) (fun c5 => ?_)
    refine aw_aload_n dX2_fill_8 rfl ?_
    refine aw_getR dX2_fill_9 f2_9 rfl ⟨Nat.le_of_ble_eq_true rfl, Nat.le_of_ble_eq_true rfl⟩ rfl rfl ?_
    refine aw_iload_n dX2_fill_12 rfl ?_
    refine aw_sipush (v := 1000) dX2_fill_13 (by decide) ?_
    refine aw_iast_n (j := i) dX2_fill_16 rfl ⟨Nat.le_of_ble_eq_true rfl, Nat.le_of_ble_eq_true rfl⟩ (by decide) (by omega) ?_
    refine aw_iinc_n (ls2 := [_, _, _, _, _, _, _, _]) dX2_fill_17 rfl (by decide) rfl rfl ?_
    refine aw_goto (tgt := 2) dX2_fill_20 (by decide) ?_
    refine ih _ _ ⟨fun j hj => ?_, hC.ue (i := i) (v := 1000)⟩
    by_cases hji : j = i
    · rw [hji, va_up_at]
    · rw [va_up_nat hji]; exact he j (by omega)
