/-! THE TEXTS -/
section AWJ
variable {G : aw_G} {M : aw_MR} {pc pc2 : Nat} {ls st ls2 st2 : List Value} {h h2 : aw_H} {q : Nat × Nat} {Q : Option Value → aw_H → Prop}
/-- roads that meet -/
theorem aw_jn (k1 : aw_W G M pc2 ls2 st2 h2 q Q) (k2 : aw_W G M pc2 ls2 st2 h2 q Q → aw_W G M pc ls st h q Q) : aw_W G M pc ls st h q Q := k2 k1
end AWJ
abbrev q_pl (b : Nat) : Prop := 97 ≤ b ∧ b < 105
abbrev q_fg (b : Nat) : Prop := 48 ≤ b ∧ b ≤ 57
/-- does sign i of a text of ways fit where it stands -/
def q_w (b : Nat → Nat) (i : Nat) : Bool :=
  if i % 5 = 0 then decide (q_pl (b i)) else if i % 5 = 1 then decide (q_pl (b i) ∧ ¬ b i = b (i - 1)) else if i % 5 = 2 then decide (q_fg (b i) ∧ ¬ b i = 48)
  else if i % 5 = 3 then decide (b i = 117 ∨ b i = 102 ∨ b i = 100) else decide (b i = 59)
def q_c (b : Nat → Nat) (i : Nat) : Bool :=
  if i % 7 = 0 then decide (q_pl (b i)) else if i % 7 = 1 then decide (q_pl (b i)) else if i % 7 = 2 then decide (b i = 111 ∨ b i = 99 ∨ b i = 114)
  else if i % 7 = 3 then decide (q_fg (b i)) else if i % 7 = 4 then decide (q_fg (b i)) else if i % 7 = 5 then decide (q_fg (b i)) else decide (b i = 59)
/-- the first sign that does not fit, one higher -/
abbrev q_b (q : Nat → Bool) (l : Nat) : Nat := zfst (fun i => !q i) l
def q_f (q : Nat → Bool) (W l : Nat) : Nat := if q_b q l ≠ 0 then q_b q l else if l = 0 ∨ l % W = W - 1 then 0 else l + 1
def q_k (q : Nat → Bool) (W l : Nat) : Nat := if q_b q l ≠ 0 then 0 else if l % W = W - 1 then l / W + 1 else 0
theorem q_b_stop {q : Nat → Bool} {i : Nat} (h : q_b q i ≠ 0) : ∀ d, q_b q (i + d) = q_b q i := by
  intro d
  induction d with
  | zero => rfl
  | succ d ih => rw [← Nat.add_assoc]; unfold q_b at *; rw [zfst, ih, if_pos h]
theorem q_b_le {q : Nat → Bool} {l : Nat} : q_b q l ≤ l := by
  by_cases h : q_b q l = 0
  · omega
  · exact (zfst_spec h).2
theorem q_b_S {q : Nat → Bool} {i : Nat} (h : q_b q i = 0) : q_b q (i + 1) = if q i = true then 0 else i + 1 := by
  unfold q_b at *
  rw [zfst, if_neg (fun z => z h)]
  cases q i <;> rfl
theorem q_b_all {q : Nat → Bool} {l : Nat} (h : q_b q l = 0) : ∀ i, i < l → q i = true := by
  induction l with
  | zero => intro i hi; omega
  | succ l ih =>
    have h0 : q_b q l = 0 := by
      by_cases z : q_b q l = 0
      · exact z
      · rw [q_b_stop z 1] at h; exact h
    rw [q_b_S h0] at h
    intro i hi
    by_cases hil : i = l
    · subst hil
      cases hq : q i with
      | true => rfl
      | false => rw [hq, if_neg (by decide)] at h; omega
    · exact ih h0 i (by omega)
theorem q_k_all {q : Nat → Bool} {W l w j : Nat} (hW : 0 < W) (hw : w < q_k q W l) (hj : j < W - 1) : q (W * w + j) = true := by
  unfold q_k at hw
  split at hw
  · omega
  · rename_i hb
    split at hw
    · rename_i hl
      refine q_b_all (l := l) (by omega) _ ?_
      have h1 : W * (l / W) + l % W = l := Nat.div_add_mod l W
      have h2 : W * w ≤ W * (l / W) := Nat.mul_le_mul_left W (by omega)
      omega
    · omega
def zTbW (b : Nat → Nat) (l : Nat) (I : Nat → Nat → Int32) : Prop := (I 1 0 = 0 ∧ I 1 1 = 1 ∧ I 1 2 = 2 ∧ I 1 3 = 4 ∧ I 1 4 = 6) ∧ (∀ j, j < 49 → I 5 j = nI (b j) ∧ b j < 256) ∧ I 4 3 = nI l ∧ I 4 1 = nI 10 ∧ l ≤ 49
def zTxW (b : Nat → Nat) (l : Nat) (I : Nat → Nat → Int32) : Prop := zTbW b l I ∧ I 4 4 = nI (q_f (q_w b) 5 l) - 1 ∧ I 4 5 = nI (q_k (q_w b) 5 l)
theorem zTbW.mv {b : Nat → Nat} {l : Nat} {I I2 : Nat → Nat → Int32} (h : zTbW b l I) (h1 : I2 1 = I 1) (h2 : I2 5 = I 5) (h3 : I2 4 = I 4) : zTbW b l I2 := by
  unfold zTbW at *; rw [h1, h2, h3]; exact h
theorem zTxW.mv {b : Nat → Nat} {l : Nat} {I I2 : Nat → Nat → Int32} (h : zTxW b l I) (h1 : I2 1 = I 1) (h2 : I2 5 = I 5) (h3 : I2 4 = I 4) : zTxW b l I2 :=
  ⟨h.1.mv h1 h2 h3, by rw [h3]; exact h.2.1, by rw [h3]; exact h.2.2⟩
theorem zTbW.u {b : Nat → Nat} {l j : Nat} {I : Nat → Nat → Int32} {x : Int32} (h : zTbW b l I) (hj : j = 4 ∨ j = 5) : zTbW b l (aw_u I 4 j x) := by
  unfold zTbW at *
  rw [aw_u_ne (show 1 ≠ 4 by decide), aw_u_ne (show 5 ≠ 4 by decide), aw_u_nj (show 3 ≠ j by omega), aw_u_nj (show 1 ≠ j by omega)]
  exact h
theorem w_fitsW0 (G : aw_G) {n c : Nat} {I : Nat → Nat → Int32} {L : Nat → Nat → Int64} {b : Nat → Nat} {l i : Nat} (hb : zTbW b l I) (hi : i < 49) (hc : i % 5 = 0) : aw_Met G mX9_fits [.ref 4, .int (nI 0), .int (nI i)] (zH n I L c) (fun v h2 => v = some (.int (if q_w b i = true then 1 else 0)) ∧ h2 = zH n I L c) := by
  obtain ⟨hp0, hp1, hp2, hp3, hp4⟩ := hb.1
  have hbi := (hb.2.1 i hi).2
  have hbj := (hb.2.1 (i - 1) (by omega)).2
  have hq0 : q_w b i = decide (q_pl (b i)) := by
    unfold q_w
    rw [if_pos hc]
  refine aw_Met.of okX9_fits (Nat.le_of_ble_eq_true rfl) ?_
  show aw_W G mX9_fits 0 [.ref 4, .int (nI 0), .int (nI i), aw_x, aw_x, aw_x] [] (zH n I L c) (0, 0) _
  refine aw_jn (pc2 := 24) (ls2 := [.ref 4, .int (nI 0), .int (nI i), .int (nI (b i)), aw_x, aw_x]) (st2 := [.int (if q_pl (b i) then 1 else 0)]) (h2 := zH n I L c) ?_ (fun hk => ?_)
  · refine aw_istore (ls2 := [_, _, _, _, _, _]) dX9_fits_24 (by decide) rfl rfl ?_
    refine aw_jn (pc2 := 43) (ls2 := [.ref 4, .int (nI 0), .int (nI i), .int (nI (b i)), .int (if q_pl (b i) then 1 else 0), aw_x]) (st2 := [.int (if q_fg (b i) then 1 else 0)]) (h2 := zH n I L c) ?_ (fun hk => ?_)
    · refine aw_istore (ls2 := [_, _, _, _, _, _]) dX9_fits_43 (by decide) rfl rfl ?_
      refine aw_aload_n dX9_fits_45 rfl ?_
      refine aw_getR dX9_fits_46 f9_21 rfl ⟨Nat.le_of_ble_eq_true rfl, Nat.le_of_ble_eq_true rfl⟩ rfl rfl ?_
      refine aw_iload_n dX9_fits_49 rfl ?_
      refine aw_iald_n (j := 0) dX9_fits_50 rfl (Nat.le_of_ble_eq_true rfl) (by decide) (by omega) ?_
      refine aw_top hp0 ?_
      refine aw_swIn (off := 37) (tgt := 88) dX9_fits_51 (by decide) (by decide) rfl (by decide) ?_
      refine aw_iload dX9_fits_88 rfl ?_
      refine aw_reti dX9_fits_90 rfl (by split <;> rfl) ⟨Nat.le_of_ble_eq_true rfl, Nat.le_of_ble_eq_true rfl⟩ ?_
      refine ⟨?_, rfl⟩
      rw [hq0]
      simp only [decide_eq_true_eq]
    · refine aw_iload_n dX9_fits_26 rfl ?_
      refine aw_bipush (v := 48) dX9_fits_27 (by decide) ?_
      refine aw_ic_lt_n (a := b i) (b := 48) (tgt := 42) dX9_fits_29 (by decide) (by omega) (by omega) (fun c29 => ?_) (fun c29 => ?_)
      · refine aw_iconst (v := 0) dX9_fits_42 rfl ?_
        rw [if_neg (show ¬ q_fg (b i) by omega)] at hk; exact hk
      · refine aw_iload_n dX9_fits_32 rfl ?_
        refine aw_bipush (v := 57) dX9_fits_33 (by decide) ?_
        refine aw_ic_gt_n (a := b i) (b := 57) (tgt := 42) dX9_fits_35 (by decide) (by omega) (by omega) (fun c35 => ?_) (fun c35 => ?_)
        · refine aw_iconst (v := 0) dX9_fits_42 rfl ?_
          rw [if_neg (show ¬ q_fg (b i) by omega)] at hk; exact hk
        · refine aw_iconst (v := 1) dX9_fits_38 rfl ?_
          refine aw_goto (tgt := 43) dX9_fits_39 (by decide) ?_
          rw [if_pos (show q_fg (b i) by omega)] at hk; exact hk
  · refine aw_aload_n dX9_fits_0 rfl ?_
    refine aw_getR dX9_fits_1 f9_34 rfl ⟨Nat.le_of_ble_eq_true rfl, Nat.le_of_ble_eq_true rfl⟩ rfl rfl ?_
    refine aw_iload_n dX9_fits_4 rfl ?_
    refine aw_iald_n (j := i) dX9_fits_5 rfl (Nat.le_of_ble_eq_true rfl) (by decide) (by omega) ?_
    refine aw_top (hb.2.1 (i) (by omega)).1 ?_
    refine aw_istore_n (ls2 := [_, _, _, _, _, _]) dX9_fits_6 (by decide) rfl rfl ?_
    refine aw_iload_n dX9_fits_7 rfl ?_
    refine aw_bipush (v := 97) dX9_fits_8 (by decide) ?_
    refine aw_ic_lt_n (a := b (i)) (b := 97) (tgt := 23) dX9_fits_10 (by decide) (by omega) (by omega) (fun c10 => ?_) (fun c10 => ?_)
    · refine aw_iconst (v := 0) dX9_fits_23 rfl ?_
      rw [if_neg (show ¬ q_pl (b i) by omega)] at hk; exact hk
    · refine aw_iload_n dX9_fits_13 rfl ?_
      refine aw_bipush (v := 105) dX9_fits_14 (by decide) ?_
      refine aw_ic_ge_n (a := b (i)) (b := 105) (tgt := 23) dX9_fits_16 (by decide) (by omega) (by omega) (fun c16 => ?_) (fun c16 => ?_)
      · refine aw_iconst (v := 0) dX9_fits_23 rfl ?_
        rw [if_neg (show ¬ q_pl (b i) by omega)] at hk; exact hk
      · refine aw_iconst (v := 1) dX9_fits_19 rfl ?_
        refine aw_goto (tgt := 24) dX9_fits_20 (by decide) ?_
        rw [if_pos (show q_pl (b i) by omega)] at hk; exact hk
theorem w_fitsW1 (G : aw_G) {n c : Nat} {I : Nat → Nat → Int32} {L : Nat → Nat → Int64} {b : Nat → Nat} {l i : Nat} (hb : zTbW b l I) (hi : i < 49) (hc : i % 5 = 1) : aw_Met G mX9_fits [.ref 4, .int (nI 1), .int (nI i)] (zH n I L c) (fun v h2 => v = some (.int (if q_w b i = true then 1 else 0)) ∧ h2 = zH n I L c) := by
  obtain ⟨hp0, hp1, hp2, hp3, hp4⟩ := hb.1
  have hbi := (hb.2.1 i hi).2
  have hbj := (hb.2.1 (i - 1) (by omega)).2
  have hq0 : q_w b i = decide (q_pl (b i) ∧ ¬ b i = b (i - 1)) := by
    unfold q_w
    rw [if_neg (by omega), if_pos hc]
  refine aw_Met.of okX9_fits (Nat.le_of_ble_eq_true rfl) ?_
  show aw_W G mX9_fits 0 [.ref 4, .int (nI 1), .int (nI i), aw_x, aw_x, aw_x] [] (zH n I L c) (0, 0) _
  refine aw_jn (pc2 := 24) (ls2 := [.ref 4, .int (nI 1), .int (nI i), .int (nI (b i)), aw_x, aw_x]) (st2 := [.int (if q_pl (b i) then 1 else 0)]) (h2 := zH n I L c) ?_ (fun hk => ?_)
  · refine aw_istore (ls2 := [_, _, _, _, _, _]) dX9_fits_24 (by decide) rfl rfl ?_
    refine aw_jn (pc2 := 43) (ls2 := [.ref 4, .int (nI 1), .int (nI i), .int (nI (b i)), .int (if q_pl (b i) then 1 else 0), aw_x]) (st2 := [.int (if q_fg (b i) then 1 else 0)]) (h2 := zH n I L c) ?_ (fun hk => ?_)
    · refine aw_istore (ls2 := [_, _, _, _, _, _]) dX9_fits_43 (by decide) rfl rfl ?_
      refine aw_aload_n dX9_fits_45 rfl ?_
      refine aw_getR dX9_fits_46 f9_21 rfl ⟨Nat.le_of_ble_eq_true rfl, Nat.le_of_ble_eq_true rfl⟩ rfl rfl ?_
      refine aw_iload_n dX9_fits_49 rfl ?_
      refine aw_iald_n (j := 1) dX9_fits_50 rfl (Nat.le_of_ble_eq_true rfl) (by decide) (by omega) ?_
      refine aw_top hp1 ?_
      refine aw_swIn (off := 40) (tgt := 91) dX9_fits_51 (by decide) (by decide) rfl (by decide) ?_
      refine aw_iload dX9_fits_91 rfl ?_
      refine aw_if_eq_B (tgt := 116) dX9_fits_93 (by decide) (fun c93 => ?_) (fun c93 => ?_)
      · refine aw_iconst (v := 0) dX9_fits_116 rfl ?_
        refine aw_reti dX9_fits_117 rfl rfl ⟨Nat.le_of_ble_eq_true rfl, Nat.le_of_ble_eq_true rfl⟩ ?_
        refine ⟨?_, rfl⟩
        rw [hq0]
        simp only [decide_eq_true_eq]
        first
        | (exfalso; omega)
        | (rw [if_pos (by omega)])
        | (rw [if_neg (by omega)])
      · refine aw_iload_n dX9_fits_96 rfl ?_
        refine aw_if_le_n (a := i) (tgt := 116) dX9_fits_97 (by decide) (by omega) (fun c97 => ?_) (fun c97 => ?_)
        · refine aw_iconst (v := 0) dX9_fits_116 rfl ?_
          refine aw_reti dX9_fits_117 rfl rfl ⟨Nat.le_of_ble_eq_true rfl, Nat.le_of_ble_eq_true rfl⟩ ?_
          refine ⟨?_, rfl⟩
          rw [hq0]
          simp only [decide_eq_true_eq]
          first
          | (exfalso; omega)
          | (rw [if_pos (by omega)])
          | (rw [if_neg (by omega)])
        · refine aw_iload_n dX9_fits_100 rfl ?_
          refine aw_aload_n dX9_fits_101 rfl ?_
          refine aw_getR dX9_fits_102 f9_34 rfl ⟨Nat.le_of_ble_eq_true rfl, Nat.le_of_ble_eq_true rfl⟩ rfl rfl ?_
          refine aw_iload_n dX9_fits_105 rfl ?_
          refine aw_iconst (v := 1) dX9_fits_106 rfl ?_
          refine aw_isub_n (a := i) (b := 1) dX9_fits_107 (by omega) ?_
          refine aw_iald_n (j := i - 1) dX9_fits_108 rfl (Nat.le_of_ble_eq_true rfl) (by decide) (by omega) ?_
          refine aw_top (hb.2.1 (i - 1) (by omega)).1 ?_
          refine aw_ic_eq_n (a := b i) (b := b (i - 1)) (tgt := 116) dX9_fits_109 (by decide) (by omega) (by omega) (fun c109 => ?_) (fun c109 => ?_)
          · refine aw_iconst (v := 0) dX9_fits_116 rfl ?_
            refine aw_reti dX9_fits_117 rfl rfl ⟨Nat.le_of_ble_eq_true rfl, Nat.le_of_ble_eq_true rfl⟩ ?_
            refine ⟨?_, rfl⟩
            rw [hq0]
            simp only [decide_eq_true_eq]
            first
            | (exfalso; omega)
            | (rw [if_pos (by omega)])
            | (rw [if_neg (by omega)])
          · refine aw_iconst (v := 1) dX9_fits_112 rfl ?_
            refine aw_goto (tgt := 117) dX9_fits_113 (by decide) ?_
            refine aw_reti dX9_fits_117 rfl rfl ⟨Nat.le_of_ble_eq_true rfl, Nat.le_of_ble_eq_true rfl⟩ ?_
            refine ⟨?_, rfl⟩
            rw [hq0]
            simp only [decide_eq_true_eq]
            first
            | (exfalso; omega)
            | (rw [if_pos (by omega)])
            | (rw [if_neg (by omega)])
    · refine aw_iload_n dX9_fits_26 rfl ?_
      refine aw_bipush (v := 48) dX9_fits_27 (by decide) ?_
      refine aw_ic_lt_n (a := b i) (b := 48) (tgt := 42) dX9_fits_29 (by decide) (by omega) (by omega) (fun c29 => ?_) (fun c29 => ?_)
      · refine aw_iconst (v := 0) dX9_fits_42 rfl ?_
        rw [if_neg (show ¬ q_fg (b i) by omega)] at hk; exact hk
      · refine aw_iload_n dX9_fits_32 rfl ?_
        refine aw_bipush (v := 57) dX9_fits_33 (by decide) ?_
        refine aw_ic_gt_n (a := b i) (b := 57) (tgt := 42) dX9_fits_35 (by decide) (by omega) (by omega) (fun c35 => ?_) (fun c35 => ?_)
        · refine aw_iconst (v := 0) dX9_fits_42 rfl ?_
          rw [if_neg (show ¬ q_fg (b i) by omega)] at hk; exact hk
        · refine aw_iconst (v := 1) dX9_fits_38 rfl ?_
          refine aw_goto (tgt := 43) dX9_fits_39 (by decide) ?_
          rw [if_pos (show q_fg (b i) by omega)] at hk; exact hk
  · refine aw_aload_n dX9_fits_0 rfl ?_
    refine aw_getR dX9_fits_1 f9_34 rfl ⟨Nat.le_of_ble_eq_true rfl, Nat.le_of_ble_eq_true rfl⟩ rfl rfl ?_
    refine aw_iload_n dX9_fits_4 rfl ?_
    refine aw_iald_n (j := i) dX9_fits_5 rfl (Nat.le_of_ble_eq_true rfl) (by decide) (by omega) ?_
    refine aw_top (hb.2.1 (i) (by omega)).1 ?_
    refine aw_istore_n (ls2 := [_, _, _, _, _, _]) dX9_fits_6 (by decide) rfl rfl ?_
    refine aw_iload_n dX9_fits_7 rfl ?_
    refine aw_bipush (v := 97) dX9_fits_8 (by decide) ?_
    refine aw_ic_lt_n (a := b (i)) (b := 97) (tgt := 23) dX9_fits_10 (by decide) (by omega) (by omega) (fun c10 => ?_) (fun c10 => ?_)
    · refine aw_iconst (v := 0) dX9_fits_23 rfl ?_
      rw [if_neg (show ¬ q_pl (b i) by omega)] at hk; exact hk
    · refine aw_iload_n dX9_fits_13 rfl ?_
      refine aw_bipush (v := 105) dX9_fits_14 (by decide) ?_
      refine aw_ic_ge_n (a := b (i)) (b := 105) (tgt := 23) dX9_fits_16 (by decide) (by omega) (by omega) (fun c16 => ?_) (fun c16 => ?_)
      · refine aw_iconst (v := 0) dX9_fits_23 rfl ?_
        rw [if_neg (show ¬ q_pl (b i) by omega)] at hk; exact hk
      · refine aw_iconst (v := 1) dX9_fits_19 rfl ?_
        refine aw_goto (tgt := 24) dX9_fits_20 (by decide) ?_
        rw [if_pos (show q_pl (b i) by omega)] at hk; exact hk
theorem w_fitsW2 (G : aw_G) {n c : Nat} {I : Nat → Nat → Int32} {L : Nat → Nat → Int64} {b : Nat → Nat} {l i : Nat} (hb : zTbW b l I) (hi : i < 49) (hc : i % 5 = 2) : aw_Met G mX9_fits [.ref 4, .int (nI 2), .int (nI i)] (zH n I L c) (fun v h2 => v = some (.int (if q_w b i = true then 1 else 0)) ∧ h2 = zH n I L c) := by
  obtain ⟨hp0, hp1, hp2, hp3, hp4⟩ := hb.1
  have hbi := (hb.2.1 i hi).2
  have hbj := (hb.2.1 (i - 1) (by omega)).2
  have hq0 : q_w b i = decide (q_fg (b i) ∧ ¬ b i = 48) := by
    unfold q_w
    rw [if_neg (by omega), if_neg (by omega), if_pos hc]
  refine aw_Met.of okX9_fits (Nat.le_of_ble_eq_true rfl) ?_
  show aw_W G mX9_fits 0 [.ref 4, .int (nI 2), .int (nI i), aw_x, aw_x, aw_x] [] (zH n I L c) (0, 0) _
  refine aw_jn (pc2 := 24) (ls2 := [.ref 4, .int (nI 2), .int (nI i), .int (nI (b i)), aw_x, aw_x]) (st2 := [.int (if q_pl (b i) then 1 else 0)]) (h2 := zH n I L c) ?_ (fun hk => ?_)
  · refine aw_istore (ls2 := [_, _, _, _, _, _]) dX9_fits_24 (by decide) rfl rfl ?_
    refine aw_jn (pc2 := 43) (ls2 := [.ref 4, .int (nI 2), .int (nI i), .int (nI (b i)), .int (if q_pl (b i) then 1 else 0), aw_x]) (st2 := [.int (if q_fg (b i) then 1 else 0)]) (h2 := zH n I L c) ?_ (fun hk => ?_)
    · refine aw_istore (ls2 := [_, _, _, _, _, _]) dX9_fits_43 (by decide) rfl rfl ?_
      refine aw_aload_n dX9_fits_45 rfl ?_
      refine aw_getR dX9_fits_46 f9_21 rfl ⟨Nat.le_of_ble_eq_true rfl, Nat.le_of_ble_eq_true rfl⟩ rfl rfl ?_
      refine aw_iload_n dX9_fits_49 rfl ?_
      refine aw_iald_n (j := 2) dX9_fits_50 rfl (Nat.le_of_ble_eq_true rfl) (by decide) (by omega) ?_
      refine aw_top hp2 ?_
      refine aw_swIn (off := 67) (tgt := 118) dX9_fits_51 (by decide) (by decide) rfl (by decide) ?_
      refine aw_iload dX9_fits_118 rfl ?_
      refine aw_if_eq_B (tgt := 133) dX9_fits_120 (by decide) (fun c120 => ?_) (fun c120 => ?_)
      · refine aw_iconst (v := 0) dX9_fits_133 rfl ?_
        refine aw_reti dX9_fits_134 rfl rfl ⟨Nat.le_of_ble_eq_true rfl, Nat.le_of_ble_eq_true rfl⟩ ?_
        refine ⟨?_, rfl⟩
        rw [hq0]
        simp only [decide_eq_true_eq]
        first
        | (exfalso; omega)
        | (rw [if_pos (by omega)])
        | (rw [if_neg (by omega)])
      · refine aw_iload_n dX9_fits_123 rfl ?_
        refine aw_bipush (v := 48) dX9_fits_124 (by decide) ?_
        refine aw_ic_eq_n (a := b i) (b := 48) (tgt := 133) dX9_fits_126 (by decide) (by omega) (by omega) (fun c126 => ?_) (fun c126 => ?_)
        · refine aw_iconst (v := 0) dX9_fits_133 rfl ?_
          refine aw_reti dX9_fits_134 rfl rfl ⟨Nat.le_of_ble_eq_true rfl, Nat.le_of_ble_eq_true rfl⟩ ?_
          refine ⟨?_, rfl⟩
          rw [hq0]
          simp only [decide_eq_true_eq]
          first
          | (exfalso; omega)
          | (rw [if_pos (by omega)])
          | (rw [if_neg (by omega)])
        · refine aw_iconst (v := 1) dX9_fits_129 rfl ?_
          refine aw_goto (tgt := 134) dX9_fits_130 (by decide) ?_
          refine aw_reti dX9_fits_134 rfl rfl ⟨Nat.le_of_ble_eq_true rfl, Nat.le_of_ble_eq_true rfl⟩ ?_
          refine ⟨?_, rfl⟩
          rw [hq0]
          simp only [decide_eq_true_eq]
          first
          | (exfalso; omega)
          | (rw [if_pos (by omega)])
          | (rw [if_neg (by omega)])
    · refine aw_iload_n dX9_fits_26 rfl ?_
      refine aw_bipush (v := 48) dX9_fits_27 (by decide) ?_
      refine aw_ic_lt_n (a := b i) (b := 48) (tgt := 42) dX9_fits_29 (by decide) (by omega) (by omega) (fun c29 => ?_) (fun c29 => ?_)
      · refine aw_iconst (v := 0) dX9_fits_42 rfl ?_
        rw [if_neg (show ¬ q_fg (b i) by omega)] at hk; exact hk
      · refine aw_iload_n dX9_fits_32 rfl ?_
        refine aw_bipush (v := 57) dX9_fits_33 (by decide) ?_
        refine aw_ic_gt_n (a := b i) (b := 57) (tgt := 42) dX9_fits_35 (by decide) (by omega) (by omega) (fun c35 => ?_) (fun c35 => ?_)
        · refine aw_iconst (v := 0) dX9_fits_42 rfl ?_
          rw [if_neg (show ¬ q_fg (b i) by omega)] at hk; exact hk
        · refine aw_iconst (v := 1) dX9_fits_38 rfl ?_
          refine aw_goto (tgt := 43) dX9_fits_39 (by decide) ?_
          rw [if_pos (show q_fg (b i) by omega)] at hk; exact hk
  · refine aw_aload_n dX9_fits_0 rfl ?_
    refine aw_getR dX9_fits_1 f9_34 rfl ⟨Nat.le_of_ble_eq_true rfl, Nat.le_of_ble_eq_true rfl⟩ rfl rfl ?_
    refine aw_iload_n dX9_fits_4 rfl ?_
    refine aw_iald_n (j := i) dX9_fits_5 rfl (Nat.le_of_ble_eq_true rfl) (by decide) (by omega) ?_
    refine aw_top (hb.2.1 (i) (by omega)).1 ?_
    refine aw_istore_n (ls2 := [_, _, _, _, _, _]) dX9_fits_6 (by decide) rfl rfl ?_
    refine aw_iload_n dX9_fits_7 rfl ?_
    refine aw_bipush (v := 97) dX9_fits_8 (by decide) ?_
    refine aw_ic_lt_n (a := b (i)) (b := 97) (tgt := 23) dX9_fits_10 (by decide) (by omega) (by omega) (fun c10 => ?_) (fun c10 => ?_)
    · refine aw_iconst (v := 0) dX9_fits_23 rfl ?_
      rw [if_neg (show ¬ q_pl (b i) by omega)] at hk; exact hk
    · refine aw_iload_n dX9_fits_13 rfl ?_
      refine aw_bipush (v := 105) dX9_fits_14 (by decide) ?_
      refine aw_ic_ge_n (a := b (i)) (b := 105) (tgt := 23) dX9_fits_16 (by decide) (by omega) (by omega) (fun c16 => ?_) (fun c16 => ?_)
      · refine aw_iconst (v := 0) dX9_fits_23 rfl ?_
        rw [if_neg (show ¬ q_pl (b i) by omega)] at hk; exact hk
      · refine aw_iconst (v := 1) dX9_fits_19 rfl ?_
        refine aw_goto (tgt := 24) dX9_fits_20 (by decide) ?_
        rw [if_pos (show q_pl (b i) by omega)] at hk; exact hk
theorem w_fitsW3 (G : aw_G) {n c : Nat} {I : Nat → Nat → Int32} {L : Nat → Nat → Int64} {b : Nat → Nat} {l i : Nat} (hb : zTbW b l I) (hi : i < 49) (hc : i % 5 = 3) : aw_Met G mX9_fits [.ref 4, .int (nI 3), .int (nI i)] (zH n I L c) (fun v h2 => v = some (.int (if q_w b i = true then 1 else 0)) ∧ h2 = zH n I L c) := by
  obtain ⟨hp0, hp1, hp2, hp3, hp4⟩ := hb.1
  have hbi := (hb.2.1 i hi).2
  have hbj := (hb.2.1 (i - 1) (by omega)).2
  have hq0 : q_w b i = decide (b i = 117 ∨ b i = 102 ∨ b i = 100) := by
    unfold q_w
    rw [if_neg (by omega), if_neg (by omega), if_neg (by omega), if_pos hc]
  refine aw_Met.of okX9_fits (Nat.le_of_ble_eq_true rfl) ?_
  show aw_W G mX9_fits 0 [.ref 4, .int (nI 3), .int (nI i), aw_x, aw_x, aw_x] [] (zH n I L c) (0, 0) _
  refine aw_jn (pc2 := 24) (ls2 := [.ref 4, .int (nI 3), .int (nI i), .int (nI (b i)), aw_x, aw_x]) (st2 := [.int (if q_pl (b i) then 1 else 0)]) (h2 := zH n I L c) ?_ (fun hk => ?_)
  · refine aw_istore (ls2 := [_, _, _, _, _, _]) dX9_fits_24 (by decide) rfl rfl ?_
    refine aw_jn (pc2 := 43) (ls2 := [.ref 4, .int (nI 3), .int (nI i), .int (nI (b i)), .int (if q_pl (b i) then 1 else 0), aw_x]) (st2 := [.int (if q_fg (b i) then 1 else 0)]) (h2 := zH n I L c) ?_ (fun hk => ?_)
    · refine aw_istore (ls2 := [_, _, _, _, _, _]) dX9_fits_43 (by decide) rfl rfl ?_
      refine aw_aload_n dX9_fits_45 rfl ?_
      refine aw_getR dX9_fits_46 f9_21 rfl ⟨Nat.le_of_ble_eq_true rfl, Nat.le_of_ble_eq_true rfl⟩ rfl rfl ?_
      refine aw_iload_n dX9_fits_49 rfl ?_
      refine aw_iald_n (j := 3) dX9_fits_50 rfl (Nat.le_of_ble_eq_true rfl) (by decide) (by omega) ?_
      refine aw_top hp3 ?_
      refine aw_swIn (off := 87) (tgt := 138) dX9_fits_51 (by decide) (by decide) rfl (by decide) ?_
      refine aw_iload_n dX9_fits_138 rfl ?_
      refine aw_bipush (v := 117) dX9_fits_139 (by decide) ?_
      refine aw_ic_eq_n (a := b i) (b := 117) (tgt := 156) dX9_fits_141 (by decide) (by omega) (by omega) (fun c141 => ?_) (fun c141 => ?_)
      · refine aw_iconst (v := 1) dX9_fits_156 rfl ?_
        refine aw_goto (tgt := 161) dX9_fits_157 (by decide) ?_
        refine aw_reti dX9_fits_161 rfl rfl ⟨Nat.le_of_ble_eq_true rfl, Nat.le_of_ble_eq_true rfl⟩ ?_
        refine ⟨?_, rfl⟩
        rw [hq0]
        simp only [decide_eq_true_eq]
        first
        | (exfalso; omega)
        | (rw [if_pos (by omega)])
        | (rw [if_neg (by omega)])
      · refine aw_iload_n dX9_fits_144 rfl ?_
        refine aw_bipush (v := 102) dX9_fits_145 (by decide) ?_
        refine aw_ic_eq_n (a := b i) (b := 102) (tgt := 156) dX9_fits_147 (by decide) (by omega) (by omega) (fun c147 => ?_) (fun c147 => ?_)
        · refine aw_iconst (v := 1) dX9_fits_156 rfl ?_
          refine aw_goto (tgt := 161) dX9_fits_157 (by decide) ?_
          refine aw_reti dX9_fits_161 rfl rfl ⟨Nat.le_of_ble_eq_true rfl, Nat.le_of_ble_eq_true rfl⟩ ?_
          refine ⟨?_, rfl⟩
          rw [hq0]
          simp only [decide_eq_true_eq]
          first
          | (exfalso; omega)
          | (rw [if_pos (by omega)])
          | (rw [if_neg (by omega)])
        · refine aw_iload_n dX9_fits_150 rfl ?_
          refine aw_bipush (v := 100) dX9_fits_151 (by decide) ?_
          refine aw_ic_ne_n (a := b i) (b := 100) (tgt := 160) dX9_fits_153 (by decide) (by omega) (by omega) (fun c153 => ?_) (fun c153 => ?_)
          · refine aw_iconst (v := 0) dX9_fits_160 rfl ?_
            refine aw_reti dX9_fits_161 rfl rfl ⟨Nat.le_of_ble_eq_true rfl, Nat.le_of_ble_eq_true rfl⟩ ?_
            refine ⟨?_, rfl⟩
            rw [hq0]
            simp only [decide_eq_true_eq]
            first
            | (exfalso; omega)
            | (rw [if_pos (by omega)])
            | (rw [if_neg (by omega)])
          · refine aw_iconst (v := 1) dX9_fits_156 rfl ?_
            refine aw_goto (tgt := 161) dX9_fits_157 (by decide) ?_
            refine aw_reti dX9_fits_161 rfl rfl ⟨Nat.le_of_ble_eq_true rfl, Nat.le_of_ble_eq_true rfl⟩ ?_
            refine ⟨?_, rfl⟩
            rw [hq0]
            simp only [decide_eq_true_eq]
            first
            | (exfalso; omega)
            | (rw [if_pos (by omega)])
            | (rw [if_neg (by omega)])
    · refine aw_iload_n dX9_fits_26 rfl ?_
      refine aw_bipush (v := 48) dX9_fits_27 (by decide) ?_
      refine aw_ic_lt_n (a := b i) (b := 48) (tgt := 42) dX9_fits_29 (by decide) (by omega) (by omega) (fun c29 => ?_) (fun c29 => ?_)
      · refine aw_iconst (v := 0) dX9_fits_42 rfl ?_
        rw [if_neg (show ¬ q_fg (b i) by omega)] at hk; exact hk
      · refine aw_iload_n dX9_fits_32 rfl ?_
        refine aw_bipush (v := 57) dX9_fits_33 (by decide) ?_
        refine aw_ic_gt_n (a := b i) (b := 57) (tgt := 42) dX9_fits_35 (by decide) (by omega) (by omega) (fun c35 => ?_) (fun c35 => ?_)
        · refine aw_iconst (v := 0) dX9_fits_42 rfl ?_
          rw [if_neg (show ¬ q_fg (b i) by omega)] at hk; exact hk
        · refine aw_iconst (v := 1) dX9_fits_38 rfl ?_
          refine aw_goto (tgt := 43) dX9_fits_39 (by decide) ?_
          rw [if_pos (show q_fg (b i) by omega)] at hk; exact hk
  · refine aw_aload_n dX9_fits_0 rfl ?_
    refine aw_getR dX9_fits_1 f9_34 rfl ⟨Nat.le_of_ble_eq_true rfl, Nat.le_of_ble_eq_true rfl⟩ rfl rfl ?_
    refine aw_iload_n dX9_fits_4 rfl ?_
    refine aw_iald_n (j := i) dX9_fits_5 rfl (Nat.le_of_ble_eq_true rfl) (by decide) (by omega) ?_
    refine aw_top (hb.2.1 (i) (by omega)).1 ?_
    refine aw_istore_n (ls2 := [_, _, _, _, _, _]) dX9_fits_6 (by decide) rfl rfl ?_
    refine aw_iload_n dX9_fits_7 rfl ?_
    refine aw_bipush (v := 97) dX9_fits_8 (by decide) ?_
    refine aw_ic_lt_n (a := b (i)) (b := 97) (tgt := 23) dX9_fits_10 (by decide) (by omega) (by omega) (fun c10 => ?_) (fun c10 => ?_)
    · refine aw_iconst (v := 0) dX9_fits_23 rfl ?_
      rw [if_neg (show ¬ q_pl (b i) by omega)] at hk; exact hk
    · refine aw_iload_n dX9_fits_13 rfl ?_
      refine aw_bipush (v := 105) dX9_fits_14 (by decide) ?_
      refine aw_ic_ge_n (a := b (i)) (b := 105) (tgt := 23) dX9_fits_16 (by decide) (by omega) (by omega) (fun c16 => ?_) (fun c16 => ?_)
      · refine aw_iconst (v := 0) dX9_fits_23 rfl ?_
        rw [if_neg (show ¬ q_pl (b i) by omega)] at hk; exact hk
      · refine aw_iconst (v := 1) dX9_fits_19 rfl ?_
        refine aw_goto (tgt := 24) dX9_fits_20 (by decide) ?_
        rw [if_pos (show q_pl (b i) by omega)] at hk; exact hk
theorem w_fitsW4 (G : aw_G) {n c : Nat} {I : Nat → Nat → Int32} {L : Nat → Nat → Int64} {b : Nat → Nat} {l i : Nat} (hb : zTbW b l I) (hi : i < 49) (hc : i % 5 = 4) : aw_Met G mX9_fits [.ref 4, .int (nI 4), .int (nI i)] (zH n I L c) (fun v h2 => v = some (.int (if q_w b i = true then 1 else 0)) ∧ h2 = zH n I L c) := by
  obtain ⟨hp0, hp1, hp2, hp3, hp4⟩ := hb.1
  have hbi := (hb.2.1 i hi).2
  have hq0 : q_w b i = decide (b i = 59) := by
    unfold q_w
    rw [if_neg (by omega), if_neg (by omega), if_neg (by omega), if_neg (by omega)]
  refine aw_Met.of okX9_fits (Nat.le_of_ble_eq_true rfl) ?_
  show aw_W G mX9_fits 0 [.ref 4, .int (nI 4), .int (nI i), aw_x, aw_x, aw_x] [] (zH n I L c) (0, 0) _
  refine aw_jn (pc2 := 24) (ls2 := [.ref 4, .int (nI 4), .int (nI i), .int (nI (b i)), aw_x, aw_x]) (st2 := [.int (if q_pl (b i) then 1 else 0)]) (h2 := zH n I L c) ?_ (fun hk => ?_)
  · refine aw_istore (ls2 := [_, _, _, _, _, _]) dX9_fits_24 (by decide) rfl rfl ?_
    refine aw_jn (pc2 := 43) (ls2 := [.ref 4, .int (nI 4), .int (nI i), .int (nI (b i)), .int (if q_pl (b i) then 1 else 0), aw_x]) (st2 := [.int (if q_fg (b i) then 1 else 0)]) (h2 := zH n I L c) ?_ (fun hk => ?_)
    · refine aw_istore (ls2 := [_, _, _, _, _, _]) dX9_fits_43 (by decide) rfl rfl ?_
      refine aw_aload_n dX9_fits_45 rfl ?_
      refine aw_getR dX9_fits_46 f9_21 rfl ⟨Nat.le_of_ble_eq_true rfl, Nat.le_of_ble_eq_true rfl⟩ rfl rfl ?_
      refine aw_iload_n dX9_fits_49 rfl ?_
      refine aw_iald_n (j := 4) dX9_fits_50 rfl (Nat.le_of_ble_eq_true rfl) (by decide) (by omega) ?_
      refine aw_top hp4 ?_
      refine aw_swOut (tgt := 186) dX9_fits_51 (by decide) (by decide) ?_
      refine aw_iload_n dX9_fits_186 rfl ?_
      refine aw_bipush (v := 59) dX9_fits_187 (by decide) ?_
      refine aw_ic_ne_n (a := b i) (b := 59) (tgt := 196) dX9_fits_189 (by decide) (by omega) (by omega) (fun c189 => ?_) (fun c189 => ?_)
      · refine aw_iconst (v := 0) dX9_fits_196 rfl ?_
        refine aw_reti dX9_fits_197 rfl rfl ⟨Nat.le_of_ble_eq_true rfl, Nat.le_of_ble_eq_true rfl⟩ ?_
        refine ⟨?_, rfl⟩
        rw [hq0]
        simp only [decide_eq_true_eq]
        first
        | (exfalso; omega)
        | (rw [if_pos (by omega)])
        | (rw [if_neg (by omega)])
      · refine aw_iconst (v := 1) dX9_fits_192 rfl ?_
        refine aw_goto (tgt := 197) dX9_fits_193 (by decide) ?_
        refine aw_reti dX9_fits_197 rfl rfl ⟨Nat.le_of_ble_eq_true rfl, Nat.le_of_ble_eq_true rfl⟩ ?_
        refine ⟨?_, rfl⟩
        rw [hq0]
        simp only [decide_eq_true_eq]
        first
        | (exfalso; omega)
        | (rw [if_pos (by omega)])
        | (rw [if_neg (by omega)])
    · refine aw_iload_n dX9_fits_26 rfl ?_
      refine aw_bipush (v := 48) dX9_fits_27 (by decide) ?_
      refine aw_ic_lt_n (a := b i) (b := 48) (tgt := 42) dX9_fits_29 (by decide) (by omega) (by omega) (fun c29 => ?_) (fun c29 => ?_)
      · refine aw_iconst (v := 0) dX9_fits_42 rfl ?_
        rw [if_neg (show ¬ q_fg (b i) by omega)] at hk; exact hk
      · refine aw_iload_n dX9_fits_32 rfl ?_
        refine aw_bipush (v := 57) dX9_fits_33 (by decide) ?_
        refine aw_ic_gt_n (a := b i) (b := 57) (tgt := 42) dX9_fits_35 (by decide) (by omega) (by omega) (fun c35 => ?_) (fun c35 => ?_)
        · refine aw_iconst (v := 0) dX9_fits_42 rfl ?_
          rw [if_neg (show ¬ q_fg (b i) by omega)] at hk; exact hk
        · refine aw_iconst (v := 1) dX9_fits_38 rfl ?_
          refine aw_goto (tgt := 43) dX9_fits_39 (by decide) ?_
          rw [if_pos (show q_fg (b i) by omega)] at hk; exact hk
  · refine aw_aload_n dX9_fits_0 rfl ?_
    refine aw_getR dX9_fits_1 f9_34 rfl ⟨Nat.le_of_ble_eq_true rfl, Nat.le_of_ble_eq_true rfl⟩ rfl rfl ?_
    refine aw_iload_n dX9_fits_4 rfl ?_
    refine aw_iald_n (j := i) dX9_fits_5 rfl (Nat.le_of_ble_eq_true rfl) (by decide) (by omega) ?_
    refine aw_top (hb.2.1 (i) (by omega)).1 ?_
    refine aw_istore_n (ls2 := [_, _, _, _, _, _]) dX9_fits_6 (by decide) rfl rfl ?_
    refine aw_iload_n dX9_fits_7 rfl ?_
    refine aw_bipush (v := 97) dX9_fits_8 (by decide) ?_
    refine aw_ic_lt_n (a := b (i)) (b := 97) (tgt := 23) dX9_fits_10 (by decide) (by omega) (by omega) (fun c10 => ?_) (fun c10 => ?_)
    · refine aw_iconst (v := 0) dX9_fits_23 rfl ?_
      rw [if_neg (show ¬ q_pl (b i) by omega)] at hk; exact hk
    · refine aw_iload_n dX9_fits_13 rfl ?_
      refine aw_bipush (v := 105) dX9_fits_14 (by decide) ?_
      refine aw_ic_ge_n (a := b (i)) (b := 105) (tgt := 23) dX9_fits_16 (by decide) (by omega) (by omega) (fun c16 => ?_) (fun c16 => ?_)
      · refine aw_iconst (v := 0) dX9_fits_23 rfl ?_
        rw [if_neg (show ¬ q_pl (b i) by omega)] at hk; exact hk
      · refine aw_iconst (v := 1) dX9_fits_19 rfl ?_
        refine aw_goto (tgt := 24) dX9_fits_20 (by decide) ?_
        rw [if_pos (show q_pl (b i) by omega)] at hk; exact hk
theorem w_fitsW (G : aw_G) {n c : Nat} {I : Nat → Nat → Int32} {L : Nat → Nat → Int64} {b : Nat → Nat} {l i : Nat} (hb : zTbW b l I) (hi : i < 49) : aw_Met G mX9_fits [.ref 4, .int (nI (i % 5)), .int (nI i)] (zH n I L c) (fun v h2 => v = some (.int (if q_w b i = true then 1 else 0)) ∧ h2 = zH n I L c) := by
  have h : i % 5 = 0 ∨ i % 5 = 1 ∨ i % 5 = 2 ∨ i % 5 = 3 ∨ i % 5 = 4 := by omega
  rcases h with h | h | h | h | h
  · rw [h]; exact w_fitsW0 G hb hi h
  · rw [h]; exact w_fitsW1 G hb hi h
  · rw [h]; exact w_fitsW2 G hb hi h
  · rw [h]; exact w_fitsW3 G hb hi h
  · rw [h]; exact w_fitsW4 G hb hi h
def zTbC (b : Nat → Nat) (l : Nat) (I : Nat → Nat → Int32) : Prop := (I 2 0 = 0 ∧ I 2 1 = 0 ∧ I 2 2 = 5 ∧ I 2 3 = 3 ∧ I 2 4 = 3 ∧ I 2 5 = 3 ∧ I 2 6 = 6) ∧ (∀ j, j < 55 → I 7 j = nI (b j) ∧ b j < 256) ∧ I 6 3 = nI l ∧ I 6 1 = nI 8 ∧ l ≤ 55
def zTxC (b : Nat → Nat) (l : Nat) (I : Nat → Nat → Int32) : Prop := zTbC b l I ∧ I 6 4 = nI (q_f (q_c b) 7 l) - 1 ∧ I 6 5 = nI (q_k (q_c b) 7 l)
theorem zTbC.mv {b : Nat → Nat} {l : Nat} {I I2 : Nat → Nat → Int32} (h : zTbC b l I) (h1 : I2 2 = I 2) (h2 : I2 7 = I 7) (h3 : I2 6 = I 6) : zTbC b l I2 := by
  unfold zTbC at *; rw [h1, h2, h3]; exact h
theorem zTxC.mv {b : Nat → Nat} {l : Nat} {I I2 : Nat → Nat → Int32} (h : zTxC b l I) (h1 : I2 2 = I 2) (h2 : I2 7 = I 7) (h3 : I2 6 = I 6) : zTxC b l I2 :=
  ⟨h.1.mv h1 h2 h3, by rw [h3]; exact h.2.1, by rw [h3]; exact h.2.2⟩
theorem zTbC.u {b : Nat → Nat} {l j : Nat} {I : Nat → Nat → Int32} {x : Int32} (h : zTbC b l I) (hj : j = 4 ∨ j = 5) : zTbC b l (aw_u I 6 j x) := by
  unfold zTbC at *
  rw [aw_u_ne (show 2 ≠ 6 by decide), aw_u_ne (show 7 ≠ 6 by decide), aw_u_nj (show 3 ≠ j by omega), aw_u_nj (show 1 ≠ j by omega)]
  exact h
theorem w_fitsC0 (G : aw_G) {n c : Nat} {I : Nat → Nat → Int32} {L : Nat → Nat → Int64} {b : Nat → Nat} {l i : Nat} (hb : zTbC b l I) (hi : i < 55) (hc : i % 7 = 0) : aw_Met G mX9_fits [.ref 6, .int (nI 0), .int (nI i)] (zH n I L c) (fun v h2 => v = some (.int (if q_c b i = true then 1 else 0)) ∧ h2 = zH n I L c) := by
  obtain ⟨hp0, hp1, hp2, hp3, hp4, hp5, hp6⟩ := hb.1
  have hbi := (hb.2.1 i hi).2
  have hbj := (hb.2.1 (i - 1) (by omega)).2
  have hq0 : q_c b i = decide (q_pl (b i)) := by
    unfold q_c
    rw [if_pos hc]
  refine aw_Met.of okX9_fits (Nat.le_of_ble_eq_true rfl) ?_
  show aw_W G mX9_fits 0 [.ref 6, .int (nI 0), .int (nI i), aw_x, aw_x, aw_x] [] (zH n I L c) (0, 0) _
  refine aw_jn (pc2 := 24) (ls2 := [.ref 6, .int (nI 0), .int (nI i), .int (nI (b i)), aw_x, aw_x]) (st2 := [.int (if q_pl (b i) then 1 else 0)]) (h2 := zH n I L c) ?_ (fun hk => ?_)
  · refine aw_istore (ls2 := [_, _, _, _, _, _]) dX9_fits_24 (by decide) rfl rfl ?_
    refine aw_jn (pc2 := 43) (ls2 := [.ref 6, .int (nI 0), .int (nI i), .int (nI (b i)), .int (if q_pl (b i) then 1 else 0), aw_x]) (st2 := [.int (if q_fg (b i) then 1 else 0)]) (h2 := zH n I L c) ?_ (fun hk => ?_)
    · refine aw_istore (ls2 := [_, _, _, _, _, _]) dX9_fits_43 (by decide) rfl rfl ?_
      refine aw_aload_n dX9_fits_45 rfl ?_
      refine aw_getR dX9_fits_46 f9_21 rfl ⟨Nat.le_of_ble_eq_true rfl, Nat.le_of_ble_eq_true rfl⟩ rfl rfl ?_
      refine aw_iload_n dX9_fits_49 rfl ?_
      refine aw_iald_n (j := 0) dX9_fits_50 rfl (Nat.le_of_ble_eq_true rfl) (by decide) (by omega) ?_
      refine aw_top hp0 ?_
      refine aw_swIn (off := 37) (tgt := 88) dX9_fits_51 (by decide) (by decide) rfl (by decide) ?_
      refine aw_iload dX9_fits_88 rfl ?_
      refine aw_reti dX9_fits_90 rfl (by split <;> rfl) ⟨Nat.le_of_ble_eq_true rfl, Nat.le_of_ble_eq_true rfl⟩ ?_
      refine ⟨?_, rfl⟩
      rw [hq0]
      simp only [decide_eq_true_eq]
    · refine aw_iload_n dX9_fits_26 rfl ?_
      refine aw_bipush (v := 48) dX9_fits_27 (by decide) ?_
      refine aw_ic_lt_n (a := b i) (b := 48) (tgt := 42) dX9_fits_29 (by decide) (by omega) (by omega) (fun c29 => ?_) (fun c29 => ?_)
      · refine aw_iconst (v := 0) dX9_fits_42 rfl ?_
        rw [if_neg (show ¬ q_fg (b i) by omega)] at hk; exact hk
      · refine aw_iload_n dX9_fits_32 rfl ?_
        refine aw_bipush (v := 57) dX9_fits_33 (by decide) ?_
        refine aw_ic_gt_n (a := b i) (b := 57) (tgt := 42) dX9_fits_35 (by decide) (by omega) (by omega) (fun c35 => ?_) (fun c35 => ?_)
        · refine aw_iconst (v := 0) dX9_fits_42 rfl ?_
          rw [if_neg (show ¬ q_fg (b i) by omega)] at hk; exact hk
        · refine aw_iconst (v := 1) dX9_fits_38 rfl ?_
          refine aw_goto (tgt := 43) dX9_fits_39 (by decide) ?_
          rw [if_pos (show q_fg (b i) by omega)] at hk; exact hk
  · refine aw_aload_n dX9_fits_0 rfl ?_
    refine aw_getR dX9_fits_1 f9_34 rfl ⟨Nat.le_of_ble_eq_true rfl, Nat.le_of_ble_eq_true rfl⟩ rfl rfl ?_
    refine aw_iload_n dX9_fits_4 rfl ?_
    refine aw_iald_n (j := i) dX9_fits_5 rfl (Nat.le_of_ble_eq_true rfl) (by decide) (by omega) ?_
    refine aw_top (hb.2.1 (i) (by omega)).1 ?_
    refine aw_istore_n (ls2 := [_, _, _, _, _, _]) dX9_fits_6 (by decide) rfl rfl ?_
    refine aw_iload_n dX9_fits_7 rfl ?_
    refine aw_bipush (v := 97) dX9_fits_8 (by decide) ?_
    refine aw_ic_lt_n (a := b (i)) (b := 97) (tgt := 23) dX9_fits_10 (by decide) (by omega) (by omega) (fun c10 => ?_) (fun c10 => ?_)
    · refine aw_iconst (v := 0) dX9_fits_23 rfl ?_
      rw [if_neg (show ¬ q_pl (b i) by omega)] at hk; exact hk
    · refine aw_iload_n dX9_fits_13 rfl ?_
      refine aw_bipush (v := 105) dX9_fits_14 (by decide) ?_
      refine aw_ic_ge_n (a := b (i)) (b := 105) (tgt := 23) dX9_fits_16 (by decide) (by omega) (by omega) (fun c16 => ?_) (fun c16 => ?_)
      · refine aw_iconst (v := 0) dX9_fits_23 rfl ?_
        rw [if_neg (show ¬ q_pl (b i) by omega)] at hk; exact hk
      · refine aw_iconst (v := 1) dX9_fits_19 rfl ?_
        refine aw_goto (tgt := 24) dX9_fits_20 (by decide) ?_
        rw [if_pos (show q_pl (b i) by omega)] at hk; exact hk
theorem w_fitsC1 (G : aw_G) {n c : Nat} {I : Nat → Nat → Int32} {L : Nat → Nat → Int64} {b : Nat → Nat} {l i : Nat} (hb : zTbC b l I) (hi : i < 55) (hc : i % 7 = 1) : aw_Met G mX9_fits [.ref 6, .int (nI 1), .int (nI i)] (zH n I L c) (fun v h2 => v = some (.int (if q_c b i = true then 1 else 0)) ∧ h2 = zH n I L c) := by
  obtain ⟨hp0, hp1, hp2, hp3, hp4, hp5, hp6⟩ := hb.1
  have hbi := (hb.2.1 i hi).2
  have hbj := (hb.2.1 (i - 1) (by omega)).2
  have hq0 : q_c b i = decide (q_pl (b i)) := by
    unfold q_c
    rw [if_neg (by omega), if_pos hc]
  refine aw_Met.of okX9_fits (Nat.le_of_ble_eq_true rfl) ?_
  show aw_W G mX9_fits 0 [.ref 6, .int (nI 1), .int (nI i), aw_x, aw_x, aw_x] [] (zH n I L c) (0, 0) _
  refine aw_jn (pc2 := 24) (ls2 := [.ref 6, .int (nI 1), .int (nI i), .int (nI (b i)), aw_x, aw_x]) (st2 := [.int (if q_pl (b i) then 1 else 0)]) (h2 := zH n I L c) ?_ (fun hk => ?_)
  · refine aw_istore (ls2 := [_, _, _, _, _, _]) dX9_fits_24 (by decide) rfl rfl ?_
    refine aw_jn (pc2 := 43) (ls2 := [.ref 6, .int (nI 1), .int (nI i), .int (nI (b i)), .int (if q_pl (b i) then 1 else 0), aw_x]) (st2 := [.int (if q_fg (b i) then 1 else 0)]) (h2 := zH n I L c) ?_ (fun hk => ?_)
    · refine aw_istore (ls2 := [_, _, _, _, _, _]) dX9_fits_43 (by decide) rfl rfl ?_
      refine aw_aload_n dX9_fits_45 rfl ?_
      refine aw_getR dX9_fits_46 f9_21 rfl ⟨Nat.le_of_ble_eq_true rfl, Nat.le_of_ble_eq_true rfl⟩ rfl rfl ?_
      refine aw_iload_n dX9_fits_49 rfl ?_
      refine aw_iald_n (j := 1) dX9_fits_50 rfl (Nat.le_of_ble_eq_true rfl) (by decide) (by omega) ?_
      refine aw_top hp1 ?_
      refine aw_swIn (off := 37) (tgt := 88) dX9_fits_51 (by decide) (by decide) rfl (by decide) ?_
      refine aw_iload dX9_fits_88 rfl ?_
      refine aw_reti dX9_fits_90 rfl (by split <;> rfl) ⟨Nat.le_of_ble_eq_true rfl, Nat.le_of_ble_eq_true rfl⟩ ?_
      refine ⟨?_, rfl⟩
      rw [hq0]
      simp only [decide_eq_true_eq]
    · refine aw_iload_n dX9_fits_26 rfl ?_
      refine aw_bipush (v := 48) dX9_fits_27 (by decide) ?_
      refine aw_ic_lt_n (a := b i) (b := 48) (tgt := 42) dX9_fits_29 (by decide) (by omega) (by omega) (fun c29 => ?_) (fun c29 => ?_)
      · refine aw_iconst (v := 0) dX9_fits_42 rfl ?_
        rw [if_neg (show ¬ q_fg (b i) by omega)] at hk; exact hk
      · refine aw_iload_n dX9_fits_32 rfl ?_
        refine aw_bipush (v := 57) dX9_fits_33 (by decide) ?_
        refine aw_ic_gt_n (a := b i) (b := 57) (tgt := 42) dX9_fits_35 (by decide) (by omega) (by omega) (fun c35 => ?_) (fun c35 => ?_)
        · refine aw_iconst (v := 0) dX9_fits_42 rfl ?_
          rw [if_neg (show ¬ q_fg (b i) by omega)] at hk; exact hk
        · refine aw_iconst (v := 1) dX9_fits_38 rfl ?_
          refine aw_goto (tgt := 43) dX9_fits_39 (by decide) ?_
          rw [if_pos (show q_fg (b i) by omega)] at hk; exact hk
  · refine aw_aload_n dX9_fits_0 rfl ?_
    refine aw_getR dX9_fits_1 f9_34 rfl ⟨Nat.le_of_ble_eq_true rfl, Nat.le_of_ble_eq_true rfl⟩ rfl rfl ?_
    refine aw_iload_n dX9_fits_4 rfl ?_
    refine aw_iald_n (j := i) dX9_fits_5 rfl (Nat.le_of_ble_eq_true rfl) (by decide) (by omega) ?_
    refine aw_top (hb.2.1 (i) (by omega)).1 ?_
    refine aw_istore_n (ls2 := [_, _, _, _, _, _]) dX9_fits_6 (by decide) rfl rfl ?_
    refine aw_iload_n dX9_fits_7 rfl ?_
    refine aw_bipush (v := 97) dX9_fits_8 (by decide) ?_
    refine aw_ic_lt_n (a := b (i)) (b := 97) (tgt := 23) dX9_fits_10 (by decide) (by omega) (by omega) (fun c10 => ?_) (fun c10 => ?_)
    · refine aw_iconst (v := 0) dX9_fits_23 rfl ?_
      rw [if_neg (show ¬ q_pl (b i) by omega)] at hk; exact hk
    · refine aw_iload_n dX9_fits_13 rfl ?_
      refine aw_bipush (v := 105) dX9_fits_14 (by decide) ?_
      refine aw_ic_ge_n (a := b (i)) (b := 105) (tgt := 23) dX9_fits_16 (by decide) (by omega) (by omega) (fun c16 => ?_) (fun c16 => ?_)
      · refine aw_iconst (v := 0) dX9_fits_23 rfl ?_
        rw [if_neg (show ¬ q_pl (b i) by omega)] at hk; exact hk
      · refine aw_iconst (v := 1) dX9_fits_19 rfl ?_
        refine aw_goto (tgt := 24) dX9_fits_20 (by decide) ?_
        rw [if_pos (show q_pl (b i) by omega)] at hk; exact hk
theorem w_fitsC2 (G : aw_G) {n c : Nat} {I : Nat → Nat → Int32} {L : Nat → Nat → Int64} {b : Nat → Nat} {l i : Nat} (hb : zTbC b l I) (hi : i < 55) (hc : i % 7 = 2) : aw_Met G mX9_fits [.ref 6, .int (nI 2), .int (nI i)] (zH n I L c) (fun v h2 => v = some (.int (if q_c b i = true then 1 else 0)) ∧ h2 = zH n I L c) := by
  obtain ⟨hp0, hp1, hp2, hp3, hp4, hp5, hp6⟩ := hb.1
  have hbi := (hb.2.1 i hi).2
  have hbj := (hb.2.1 (i - 1) (by omega)).2
  have hq0 : q_c b i = decide (b i = 111 ∨ b i = 99 ∨ b i = 114) := by
    unfold q_c
    rw [if_neg (by omega), if_neg (by omega), if_pos hc]
  refine aw_Met.of okX9_fits (Nat.le_of_ble_eq_true rfl) ?_
  show aw_W G mX9_fits 0 [.ref 6, .int (nI 2), .int (nI i), aw_x, aw_x, aw_x] [] (zH n I L c) (0, 0) _
  refine aw_jn (pc2 := 24) (ls2 := [.ref 6, .int (nI 2), .int (nI i), .int (nI (b i)), aw_x, aw_x]) (st2 := [.int (if q_pl (b i) then 1 else 0)]) (h2 := zH n I L c) ?_ (fun hk => ?_)
  · refine aw_istore (ls2 := [_, _, _, _, _, _]) dX9_fits_24 (by decide) rfl rfl ?_
    refine aw_jn (pc2 := 43) (ls2 := [.ref 6, .int (nI 2), .int (nI i), .int (nI (b i)), .int (if q_pl (b i) then 1 else 0), aw_x]) (st2 := [.int (if q_fg (b i) then 1 else 0)]) (h2 := zH n I L c) ?_ (fun hk => ?_)
    · refine aw_istore (ls2 := [_, _, _, _, _, _]) dX9_fits_43 (by decide) rfl rfl ?_
      refine aw_aload_n dX9_fits_45 rfl ?_
      refine aw_getR dX9_fits_46 f9_21 rfl ⟨Nat.le_of_ble_eq_true rfl, Nat.le_of_ble_eq_true rfl⟩ rfl rfl ?_
      refine aw_iload_n dX9_fits_49 rfl ?_
      refine aw_iald_n (j := 2) dX9_fits_50 rfl (Nat.le_of_ble_eq_true rfl) (by decide) (by omega) ?_
      refine aw_top hp2 ?_
      refine aw_swIn (off := 111) (tgt := 162) dX9_fits_51 (by decide) (by decide) rfl (by decide) ?_
      refine aw_iload_n dX9_fits_162 rfl ?_
      refine aw_bipush (v := 111) dX9_fits_163 (by decide) ?_
      refine aw_ic_eq_n (a := b i) (b := 111) (tgt := 180) dX9_fits_165 (by decide) (by omega) (by omega) (fun c165 => ?_) (fun c165 => ?_)
      · refine aw_iconst (v := 1) dX9_fits_180 rfl ?_
        refine aw_goto (tgt := 185) dX9_fits_181 (by decide) ?_
        refine aw_reti dX9_fits_185 rfl rfl ⟨Nat.le_of_ble_eq_true rfl, Nat.le_of_ble_eq_true rfl⟩ ?_
        refine ⟨?_, rfl⟩
        rw [hq0]
        simp only [decide_eq_true_eq]
        first
        | (exfalso; omega)
        | (rw [if_pos (by omega)])
        | (rw [if_neg (by omega)])
      · refine aw_iload_n dX9_fits_168 rfl ?_
        refine aw_bipush (v := 99) dX9_fits_169 (by decide) ?_
        refine aw_ic_eq_n (a := b i) (b := 99) (tgt := 180) dX9_fits_171 (by decide) (by omega) (by omega) (fun c171 => ?_) (fun c171 => ?_)
        · refine aw_iconst (v := 1) dX9_fits_180 rfl ?_
          refine aw_goto (tgt := 185) dX9_fits_181 (by decide) ?_
          refine aw_reti dX9_fits_185 rfl rfl ⟨Nat.le_of_ble_eq_true rfl, Nat.le_of_ble_eq_true rfl⟩ ?_
          refine ⟨?_, rfl⟩
          rw [hq0]
          simp only [decide_eq_true_eq]
          first
          | (exfalso; omega)
          | (rw [if_pos (by omega)])
          | (rw [if_neg (by omega)])
        · refine aw_iload_n dX9_fits_174 rfl ?_
          refine aw_bipush (v := 114) dX9_fits_175 (by decide) ?_
          refine aw_ic_ne_n (a := b i) (b := 114) (tgt := 184) dX9_fits_177 (by decide) (by omega) (by omega) (fun c177 => ?_) (fun c177 => ?_)
          · refine aw_iconst (v := 0) dX9_fits_184 rfl ?_
            refine aw_reti dX9_fits_185 rfl rfl ⟨Nat.le_of_ble_eq_true rfl, Nat.le_of_ble_eq_true rfl⟩ ?_
            refine ⟨?_, rfl⟩
            rw [hq0]
            simp only [decide_eq_true_eq]
            first
            | (exfalso; omega)
            | (rw [if_pos (by omega)])
            | (rw [if_neg (by omega)])
          · refine aw_iconst (v := 1) dX9_fits_180 rfl ?_
            refine aw_goto (tgt := 185) dX9_fits_181 (by decide) ?_
            refine aw_reti dX9_fits_185 rfl rfl ⟨Nat.le_of_ble_eq_true rfl, Nat.le_of_ble_eq_true rfl⟩ ?_
            refine ⟨?_, rfl⟩
            rw [hq0]
            simp only [decide_eq_true_eq]
            first
            | (exfalso; omega)
            | (rw [if_pos (by omega)])
            | (rw [if_neg (by omega)])
    · refine aw_iload_n dX9_fits_26 rfl ?_
      refine aw_bipush (v := 48) dX9_fits_27 (by decide) ?_
      refine aw_ic_lt_n (a := b i) (b := 48) (tgt := 42) dX9_fits_29 (by decide) (by omega) (by omega) (fun c29 => ?_) (fun c29 => ?_)
      · refine aw_iconst (v := 0) dX9_fits_42 rfl ?_
        rw [if_neg (show ¬ q_fg (b i) by omega)] at hk; exact hk
      · refine aw_iload_n dX9_fits_32 rfl ?_
        refine aw_bipush (v := 57) dX9_fits_33 (by decide) ?_
        refine aw_ic_gt_n (a := b i) (b := 57) (tgt := 42) dX9_fits_35 (by decide) (by omega) (by omega) (fun c35 => ?_) (fun c35 => ?_)
        · refine aw_iconst (v := 0) dX9_fits_42 rfl ?_
          rw [if_neg (show ¬ q_fg (b i) by omega)] at hk; exact hk
        · refine aw_iconst (v := 1) dX9_fits_38 rfl ?_
          refine aw_goto (tgt := 43) dX9_fits_39 (by decide) ?_
          rw [if_pos (show q_fg (b i) by omega)] at hk; exact hk
  · refine aw_aload_n dX9_fits_0 rfl ?_
    refine aw_getR dX9_fits_1 f9_34 rfl ⟨Nat.le_of_ble_eq_true rfl, Nat.le_of_ble_eq_true rfl⟩ rfl rfl ?_
    refine aw_iload_n dX9_fits_4 rfl ?_
    refine aw_iald_n (j := i) dX9_fits_5 rfl (Nat.le_of_ble_eq_true rfl) (by decide) (by omega) ?_
    refine aw_top (hb.2.1 (i) (by omega)).1 ?_
    refine aw_istore_n (ls2 := [_, _, _, _, _, _]) dX9_fits_6 (by decide) rfl rfl ?_
    refine aw_iload_n dX9_fits_7 rfl ?_
    refine aw_bipush (v := 97) dX9_fits_8 (by decide) ?_
    refine aw_ic_lt_n (a := b (i)) (b := 97) (tgt := 23) dX9_fits_10 (by decide) (by omega) (by omega) (fun c10 => ?_) (fun c10 => ?_)
    · refine aw_iconst (v := 0) dX9_fits_23 rfl ?_
      rw [if_neg (show ¬ q_pl (b i) by omega)] at hk; exact hk
    · refine aw_iload_n dX9_fits_13 rfl ?_
      refine aw_bipush (v := 105) dX9_fits_14 (by decide) ?_
      refine aw_ic_ge_n (a := b (i)) (b := 105) (tgt := 23) dX9_fits_16 (by decide) (by omega) (by omega) (fun c16 => ?_) (fun c16 => ?_)
      · refine aw_iconst (v := 0) dX9_fits_23 rfl ?_
        rw [if_neg (show ¬ q_pl (b i) by omega)] at hk; exact hk
      · refine aw_iconst (v := 1) dX9_fits_19 rfl ?_
        refine aw_goto (tgt := 24) dX9_fits_20 (by decide) ?_
        rw [if_pos (show q_pl (b i) by omega)] at hk; exact hk
theorem w_fitsC3 (G : aw_G) {n c : Nat} {I : Nat → Nat → Int32} {L : Nat → Nat → Int64} {b : Nat → Nat} {l i : Nat} (hb : zTbC b l I) (hi : i < 55) (hc : i % 7 = 3) : aw_Met G mX9_fits [.ref 6, .int (nI 3), .int (nI i)] (zH n I L c) (fun v h2 => v = some (.int (if q_c b i = true then 1 else 0)) ∧ h2 = zH n I L c) := by
  obtain ⟨hp0, hp1, hp2, hp3, hp4, hp5, hp6⟩ := hb.1
  have hbi := (hb.2.1 i hi).2
  have hbj := (hb.2.1 (i - 1) (by omega)).2
  have hq0 : q_c b i = decide (q_fg (b i)) := by
    unfold q_c
    rw [if_neg (by omega), if_neg (by omega), if_neg (by omega), if_pos hc]
  refine aw_Met.of okX9_fits (Nat.le_of_ble_eq_true rfl) ?_
  show aw_W G mX9_fits 0 [.ref 6, .int (nI 3), .int (nI i), aw_x, aw_x, aw_x] [] (zH n I L c) (0, 0) _
  refine aw_jn (pc2 := 24) (ls2 := [.ref 6, .int (nI 3), .int (nI i), .int (nI (b i)), aw_x, aw_x]) (st2 := [.int (if q_pl (b i) then 1 else 0)]) (h2 := zH n I L c) ?_ (fun hk => ?_)
  · refine aw_istore (ls2 := [_, _, _, _, _, _]) dX9_fits_24 (by decide) rfl rfl ?_
    refine aw_jn (pc2 := 43) (ls2 := [.ref 6, .int (nI 3), .int (nI i), .int (nI (b i)), .int (if q_pl (b i) then 1 else 0), aw_x]) (st2 := [.int (if q_fg (b i) then 1 else 0)]) (h2 := zH n I L c) ?_ (fun hk => ?_)
    · refine aw_istore (ls2 := [_, _, _, _, _, _]) dX9_fits_43 (by decide) rfl rfl ?_
      refine aw_aload_n dX9_fits_45 rfl ?_
      refine aw_getR dX9_fits_46 f9_21 rfl ⟨Nat.le_of_ble_eq_true rfl, Nat.le_of_ble_eq_true rfl⟩ rfl rfl ?_
      refine aw_iload_n dX9_fits_49 rfl ?_
      refine aw_iald_n (j := 3) dX9_fits_50 rfl (Nat.le_of_ble_eq_true rfl) (by decide) (by omega) ?_
      refine aw_top hp3 ?_
      refine aw_swIn (off := 84) (tgt := 135) dX9_fits_51 (by decide) (by decide) rfl (by decide) ?_
      refine aw_iload dX9_fits_135 rfl ?_
      refine aw_reti dX9_fits_137 rfl (by split <;> rfl) ⟨Nat.le_of_ble_eq_true rfl, Nat.le_of_ble_eq_true rfl⟩ ?_
      refine ⟨?_, rfl⟩
      rw [hq0]
      simp only [decide_eq_true_eq]
    · refine aw_iload_n dX9_fits_26 rfl ?_
      refine aw_bipush (v := 48) dX9_fits_27 (by decide) ?_
      refine aw_ic_lt_n (a := b i) (b := 48) (tgt := 42) dX9_fits_29 (by decide) (by omega) (by omega) (fun c29 => ?_) (fun c29 => ?_)
      · refine aw_iconst (v := 0) dX9_fits_42 rfl ?_
        rw [if_neg (show ¬ q_fg (b i) by omega)] at hk; exact hk
      · refine aw_iload_n dX9_fits_32 rfl ?_
        refine aw_bipush (v := 57) dX9_fits_33 (by decide) ?_
        refine aw_ic_gt_n (a := b i) (b := 57) (tgt := 42) dX9_fits_35 (by decide) (by omega) (by omega) (fun c35 => ?_) (fun c35 => ?_)
        · refine aw_iconst (v := 0) dX9_fits_42 rfl ?_
          rw [if_neg (show ¬ q_fg (b i) by omega)] at hk; exact hk
        · refine aw_iconst (v := 1) dX9_fits_38 rfl ?_
          refine aw_goto (tgt := 43) dX9_fits_39 (by decide) ?_
          rw [if_pos (show q_fg (b i) by omega)] at hk; exact hk
  · refine aw_aload_n dX9_fits_0 rfl ?_
    refine aw_getR dX9_fits_1 f9_34 rfl ⟨Nat.le_of_ble_eq_true rfl, Nat.le_of_ble_eq_true rfl⟩ rfl rfl ?_
    refine aw_iload_n dX9_fits_4 rfl ?_
    refine aw_iald_n (j := i) dX9_fits_5 rfl (Nat.le_of_ble_eq_true rfl) (by decide) (by omega) ?_
    refine aw_top (hb.2.1 (i) (by omega)).1 ?_
    refine aw_istore_n (ls2 := [_, _, _, _, _, _]) dX9_fits_6 (by decide) rfl rfl ?_
    refine aw_iload_n dX9_fits_7 rfl ?_
    refine aw_bipush (v := 97) dX9_fits_8 (by decide) ?_
    refine aw_ic_lt_n (a := b (i)) (b := 97) (tgt := 23) dX9_fits_10 (by decide) (by omega) (by omega) (fun c10 => ?_) (fun c10 => ?_)
    · refine aw_iconst (v := 0) dX9_fits_23 rfl ?_
      rw [if_neg (show ¬ q_pl (b i) by omega)] at hk; exact hk
    · refine aw_iload_n dX9_fits_13 rfl ?_
      refine aw_bipush (v := 105) dX9_fits_14 (by decide) ?_
      refine aw_ic_ge_n (a := b (i)) (b := 105) (tgt := 23) dX9_fits_16 (by decide) (by omega) (by omega) (fun c16 => ?_) (fun c16 => ?_)
      · refine aw_iconst (v := 0) dX9_fits_23 rfl ?_
        rw [if_neg (show ¬ q_pl (b i) by omega)] at hk; exact hk
      · refine aw_iconst (v := 1) dX9_fits_19 rfl ?_
        refine aw_goto (tgt := 24) dX9_fits_20 (by decide) ?_
        rw [if_pos (show q_pl (b i) by omega)] at hk; exact hk
theorem w_fitsC4 (G : aw_G) {n c : Nat} {I : Nat → Nat → Int32} {L : Nat → Nat → Int64} {b : Nat → Nat} {l i : Nat} (hb : zTbC b l I) (hi : i < 55) (hc : i % 7 = 4) : aw_Met G mX9_fits [.ref 6, .int (nI 4), .int (nI i)] (zH n I L c) (fun v h2 => v = some (.int (if q_c b i = true then 1 else 0)) ∧ h2 = zH n I L c) := by
  obtain ⟨hp0, hp1, hp2, hp3, hp4, hp5, hp6⟩ := hb.1
  have hbi := (hb.2.1 i hi).2
  have hbj := (hb.2.1 (i - 1) (by omega)).2
  have hq0 : q_c b i = decide (q_fg (b i)) := by
    unfold q_c
    rw [if_neg (by omega), if_neg (by omega), if_neg (by omega), if_neg (by omega), if_pos hc]
  refine aw_Met.of okX9_fits (Nat.le_of_ble_eq_true rfl) ?_
  show aw_W G mX9_fits 0 [.ref 6, .int (nI 4), .int (nI i), aw_x, aw_x, aw_x] [] (zH n I L c) (0, 0) _
  refine aw_jn (pc2 := 24) (ls2 := [.ref 6, .int (nI 4), .int (nI i), .int (nI (b i)), aw_x, aw_x]) (st2 := [.int (if q_pl (b i) then 1 else 0)]) (h2 := zH n I L c) ?_ (fun hk => ?_)
  · refine aw_istore (ls2 := [_, _, _, _, _, _]) dX9_fits_24 (by decide) rfl rfl ?_
    refine aw_jn (pc2 := 43) (ls2 := [.ref 6, .int (nI 4), .int (nI i), .int (nI (b i)), .int (if q_pl (b i) then 1 else 0), aw_x]) (st2 := [.int (if q_fg (b i) then 1 else 0)]) (h2 := zH n I L c) ?_ (fun hk => ?_)
    · refine aw_istore (ls2 := [_, _, _, _, _, _]) dX9_fits_43 (by decide) rfl rfl ?_
      refine aw_aload_n dX9_fits_45 rfl ?_
      refine aw_getR dX9_fits_46 f9_21 rfl ⟨Nat.le_of_ble_eq_true rfl, Nat.le_of_ble_eq_true rfl⟩ rfl rfl ?_
      refine aw_iload_n dX9_fits_49 rfl ?_
      refine aw_iald_n (j := 4) dX9_fits_50 rfl (Nat.le_of_ble_eq_true rfl) (by decide) (by omega) ?_
      refine aw_top hp4 ?_
      refine aw_swIn (off := 84) (tgt := 135) dX9_fits_51 (by decide) (by decide) rfl (by decide) ?_
      refine aw_iload dX9_fits_135 rfl ?_
      refine aw_reti dX9_fits_137 rfl (by split <;> rfl) ⟨Nat.le_of_ble_eq_true rfl, Nat.le_of_ble_eq_true rfl⟩ ?_
      refine ⟨?_, rfl⟩
      rw [hq0]
      simp only [decide_eq_true_eq]
    · refine aw_iload_n dX9_fits_26 rfl ?_
      refine aw_bipush (v := 48) dX9_fits_27 (by decide) ?_
      refine aw_ic_lt_n (a := b i) (b := 48) (tgt := 42) dX9_fits_29 (by decide) (by omega) (by omega) (fun c29 => ?_) (fun c29 => ?_)
      · refine aw_iconst (v := 0) dX9_fits_42 rfl ?_
        rw [if_neg (show ¬ q_fg (b i) by omega)] at hk; exact hk
      · refine aw_iload_n dX9_fits_32 rfl ?_
        refine aw_bipush (v := 57) dX9_fits_33 (by decide) ?_
        refine aw_ic_gt_n (a := b i) (b := 57) (tgt := 42) dX9_fits_35 (by decide) (by omega) (by omega) (fun c35 => ?_) (fun c35 => ?_)
        · refine aw_iconst (v := 0) dX9_fits_42 rfl ?_
          rw [if_neg (show ¬ q_fg (b i) by omega)] at hk; exact hk
        · refine aw_iconst (v := 1) dX9_fits_38 rfl ?_
          refine aw_goto (tgt := 43) dX9_fits_39 (by decide) ?_
          rw [if_pos (show q_fg (b i) by omega)] at hk; exact hk
  · refine aw_aload_n dX9_fits_0 rfl ?_
    refine aw_getR dX9_fits_1 f9_34 rfl ⟨Nat.le_of_ble_eq_true rfl, Nat.le_of_ble_eq_true rfl⟩ rfl rfl ?_
    refine aw_iload_n dX9_fits_4 rfl ?_
    refine aw_iald_n (j := i) dX9_fits_5 rfl (Nat.le_of_ble_eq_true rfl) (by decide) (by omega) ?_
    refine aw_top (hb.2.1 (i) (by omega)).1 ?_
    refine aw_istore_n (ls2 := [_, _, _, _, _, _]) dX9_fits_6 (by decide) rfl rfl ?_
    refine aw_iload_n dX9_fits_7 rfl ?_
    refine aw_bipush (v := 97) dX9_fits_8 (by decide) ?_
    refine aw_ic_lt_n (a := b (i)) (b := 97) (tgt := 23) dX9_fits_10 (by decide) (by omega) (by omega) (fun c10 => ?_) (fun c10 => ?_)
    · refine aw_iconst (v := 0) dX9_fits_23 rfl ?_
      rw [if_neg (show ¬ q_pl (b i) by omega)] at hk; exact hk
    · refine aw_iload_n dX9_fits_13 rfl ?_
      refine aw_bipush (v := 105) dX9_fits_14 (by decide) ?_
      refine aw_ic_ge_n (a := b (i)) (b := 105) (tgt := 23) dX9_fits_16 (by decide) (by omega) (by omega) (fun c16 => ?_) (fun c16 => ?_)
      · refine aw_iconst (v := 0) dX9_fits_23 rfl ?_
        rw [if_neg (show ¬ q_pl (b i) by omega)] at hk; exact hk
      · refine aw_iconst (v := 1) dX9_fits_19 rfl ?_
        refine aw_goto (tgt := 24) dX9_fits_20 (by decide) ?_
        rw [if_pos (show q_pl (b i) by omega)] at hk; exact hk
theorem w_fitsC5 (G : aw_G) {n c : Nat} {I : Nat → Nat → Int32} {L : Nat → Nat → Int64} {b : Nat → Nat} {l i : Nat} (hb : zTbC b l I) (hi : i < 55) (hc : i % 7 = 5) : aw_Met G mX9_fits [.ref 6, .int (nI 5), .int (nI i)] (zH n I L c) (fun v h2 => v = some (.int (if q_c b i = true then 1 else 0)) ∧ h2 = zH n I L c) := by
  obtain ⟨hp0, hp1, hp2, hp3, hp4, hp5, hp6⟩ := hb.1
  have hbi := (hb.2.1 i hi).2
  have hbj := (hb.2.1 (i - 1) (by omega)).2
  have hq0 : q_c b i = decide (q_fg (b i)) := by
    unfold q_c
    rw [if_neg (by omega), if_neg (by omega), if_neg (by omega), if_neg (by omega), if_neg (by omega), if_pos hc]
  refine aw_Met.of okX9_fits (Nat.le_of_ble_eq_true rfl) ?_
  show aw_W G mX9_fits 0 [.ref 6, .int (nI 5), .int (nI i), aw_x, aw_x, aw_x] [] (zH n I L c) (0, 0) _
  refine aw_jn (pc2 := 24) (ls2 := [.ref 6, .int (nI 5), .int (nI i), .int (nI (b i)), aw_x, aw_x]) (st2 := [.int (if q_pl (b i) then 1 else 0)]) (h2 := zH n I L c) ?_ (fun hk => ?_)
  · refine aw_istore (ls2 := [_, _, _, _, _, _]) dX9_fits_24 (by decide) rfl rfl ?_
    refine aw_jn (pc2 := 43) (ls2 := [.ref 6, .int (nI 5), .int (nI i), .int (nI (b i)), .int (if q_pl (b i) then 1 else 0), aw_x]) (st2 := [.int (if q_fg (b i) then 1 else 0)]) (h2 := zH n I L c) ?_ (fun hk => ?_)
    · refine aw_istore (ls2 := [_, _, _, _, _, _]) dX9_fits_43 (by decide) rfl rfl ?_
      refine aw_aload_n dX9_fits_45 rfl ?_
      refine aw_getR dX9_fits_46 f9_21 rfl ⟨Nat.le_of_ble_eq_true rfl, Nat.le_of_ble_eq_true rfl⟩ rfl rfl ?_
      refine aw_iload_n dX9_fits_49 rfl ?_
      refine aw_iald_n (j := 5) dX9_fits_50 rfl (Nat.le_of_ble_eq_true rfl) (by decide) (by omega) ?_
      refine aw_top hp5 ?_
      refine aw_swIn (off := 84) (tgt := 135) dX9_fits_51 (by decide) (by decide) rfl (by decide) ?_
      refine aw_iload dX9_fits_135 rfl ?_
      refine aw_reti dX9_fits_137 rfl (by split <;> rfl) ⟨Nat.le_of_ble_eq_true rfl, Nat.le_of_ble_eq_true rfl⟩ ?_
      refine ⟨?_, rfl⟩
      rw [hq0]
      simp only [decide_eq_true_eq]
    · refine aw_iload_n dX9_fits_26 rfl ?_
      refine aw_bipush (v := 48) dX9_fits_27 (by decide) ?_
      refine aw_ic_lt_n (a := b i) (b := 48) (tgt := 42) dX9_fits_29 (by decide) (by omega) (by omega) (fun c29 => ?_) (fun c29 => ?_)
      · refine aw_iconst (v := 0) dX9_fits_42 rfl ?_
        rw [if_neg (show ¬ q_fg (b i) by omega)] at hk; exact hk
      · refine aw_iload_n dX9_fits_32 rfl ?_
        refine aw_bipush (v := 57) dX9_fits_33 (by decide) ?_
        refine aw_ic_gt_n (a := b i) (b := 57) (tgt := 42) dX9_fits_35 (by decide) (by omega) (by omega) (fun c35 => ?_) (fun c35 => ?_)
        · refine aw_iconst (v := 0) dX9_fits_42 rfl ?_
          rw [if_neg (show ¬ q_fg (b i) by omega)] at hk; exact hk
        · refine aw_iconst (v := 1) dX9_fits_38 rfl ?_
          refine aw_goto (tgt := 43) dX9_fits_39 (by decide) ?_
          rw [if_pos (show q_fg (b i) by omega)] at hk; exact hk
  · refine aw_aload_n dX9_fits_0 rfl ?_
    refine aw_getR dX9_fits_1 f9_34 rfl ⟨Nat.le_of_ble_eq_true rfl, Nat.le_of_ble_eq_true rfl⟩ rfl rfl ?_
    refine aw_iload_n dX9_fits_4 rfl ?_
    refine aw_iald_n (j := i) dX9_fits_5 rfl (Nat.le_of_ble_eq_true rfl) (by decide) (by omega) ?_
    refine aw_top (hb.2.1 (i) (by omega)).1 ?_
    refine aw_istore_n (ls2 := [_, _, _, _, _, _]) dX9_fits_6 (by decide) rfl rfl ?_
    refine aw_iload_n dX9_fits_7 rfl ?_
    refine aw_bipush (v := 97) dX9_fits_8 (by decide) ?_
    refine aw_ic_lt_n (a := b (i)) (b := 97) (tgt := 23) dX9_fits_10 (by decide) (by omega) (by omega) (fun c10 => ?_) (fun c10 => ?_)
    · refine aw_iconst (v := 0) dX9_fits_23 rfl ?_
      rw [if_neg (show ¬ q_pl (b i) by omega)] at hk; exact hk
    · refine aw_iload_n dX9_fits_13 rfl ?_
      refine aw_bipush (v := 105) dX9_fits_14 (by decide) ?_
      refine aw_ic_ge_n (a := b (i)) (b := 105) (tgt := 23) dX9_fits_16 (by decide) (by omega) (by omega) (fun c16 => ?_) (fun c16 => ?_)
      · refine aw_iconst (v := 0) dX9_fits_23 rfl ?_
        rw [if_neg (show ¬ q_pl (b i) by omega)] at hk; exact hk
      · refine aw_iconst (v := 1) dX9_fits_19 rfl ?_
        refine aw_goto (tgt := 24) dX9_fits_20 (by decide) ?_
        rw [if_pos (show q_pl (b i) by omega)] at hk; exact hk
theorem w_fitsC6 (G : aw_G) {n c : Nat} {I : Nat → Nat → Int32} {L : Nat → Nat → Int64} {b : Nat → Nat} {l i : Nat} (hb : zTbC b l I) (hi : i < 55) (hc : i % 7 = 6) : aw_Met G mX9_fits [.ref 6, .int (nI 6), .int (nI i)] (zH n I L c) (fun v h2 => v = some (.int (if q_c b i = true then 1 else 0)) ∧ h2 = zH n I L c) := by
  obtain ⟨hp0, hp1, hp2, hp3, hp4, hp5, hp6⟩ := hb.1
  have hbi := (hb.2.1 i hi).2
  have hq0 : q_c b i = decide (b i = 59) := by
    unfold q_c
    rw [if_neg (by omega), if_neg (by omega), if_neg (by omega), if_neg (by omega), if_neg (by omega), if_neg (by omega)]
  refine aw_Met.of okX9_fits (Nat.le_of_ble_eq_true rfl) ?_
  show aw_W G mX9_fits 0 [.ref 6, .int (nI 6), .int (nI i), aw_x, aw_x, aw_x] [] (zH n I L c) (0, 0) _
  refine aw_jn (pc2 := 24) (ls2 := [.ref 6, .int (nI 6), .int (nI i), .int (nI (b i)), aw_x, aw_x]) (st2 := [.int (if q_pl (b i) then 1 else 0)]) (h2 := zH n I L c) ?_ (fun hk => ?_)
  · refine aw_istore (ls2 := [_, _, _, _, _, _]) dX9_fits_24 (by decide) rfl rfl ?_
    refine aw_jn (pc2 := 43) (ls2 := [.ref 6, .int (nI 6), .int (nI i), .int (nI (b i)), .int (if q_pl (b i) then 1 else 0), aw_x]) (st2 := [.int (if q_fg (b i) then 1 else 0)]) (h2 := zH n I L c) ?_ (fun hk => ?_)
    · refine aw_istore (ls2 := [_, _, _, _, _, _]) dX9_fits_43 (by decide) rfl rfl ?_
      refine aw_aload_n dX9_fits_45 rfl ?_
      refine aw_getR dX9_fits_46 f9_21 rfl ⟨Nat.le_of_ble_eq_true rfl, Nat.le_of_ble_eq_true rfl⟩ rfl rfl ?_
      refine aw_iload_n dX9_fits_49 rfl ?_
      refine aw_iald_n (j := 6) dX9_fits_50 rfl (Nat.le_of_ble_eq_true rfl) (by decide) (by omega) ?_
      refine aw_top hp6 ?_
      refine aw_swOut (tgt := 186) dX9_fits_51 (by decide) (by decide) ?_
      refine aw_iload_n dX9_fits_186 rfl ?_
      refine aw_bipush (v := 59) dX9_fits_187 (by decide) ?_
      refine aw_ic_ne_n (a := b i) (b := 59) (tgt := 196) dX9_fits_189 (by decide) (by omega) (by omega) (fun c189 => ?_) (fun c189 => ?_)
      · refine aw_iconst (v := 0) dX9_fits_196 rfl ?_
        refine aw_reti dX9_fits_197 rfl rfl ⟨Nat.le_of_ble_eq_true rfl, Nat.le_of_ble_eq_true rfl⟩ ?_
        refine ⟨?_, rfl⟩
        rw [hq0]
        simp only [decide_eq_true_eq]
        first
        | (exfalso; omega)
        | (rw [if_pos (by omega)])
        | (rw [if_neg (by omega)])
      · refine aw_iconst (v := 1) dX9_fits_192 rfl ?_
        refine aw_goto (tgt := 197) dX9_fits_193 (by decide) ?_
        refine aw_reti dX9_fits_197 rfl rfl ⟨Nat.le_of_ble_eq_true rfl, Nat.le_of_ble_eq_true rfl⟩ ?_
        refine ⟨?_, rfl⟩
        rw [hq0]
        simp only [decide_eq_true_eq]
        first
        | (exfalso; omega)
        | (rw [if_pos (by omega)])
        | (rw [if_neg (by omega)])
    · refine aw_iload_n dX9_fits_26 rfl ?_
      refine aw_bipush (v := 48) dX9_fits_27 (by decide) ?_
      refine aw_ic_lt_n (a := b i) (b := 48) (tgt := 42) dX9_fits_29 (by decide) (by omega) (by omega) (fun c29 => ?_) (fun c29 => ?_)
      · refine aw_iconst (v := 0) dX9_fits_42 rfl ?_
        rw [if_neg (show ¬ q_fg (b i) by omega)] at hk; exact hk
      · refine aw_iload_n dX9_fits_32 rfl ?_
        refine aw_bipush (v := 57) dX9_fits_33 (by decide) ?_
        refine aw_ic_gt_n (a := b i) (b := 57) (tgt := 42) dX9_fits_35 (by decide) (by omega) (by omega) (fun c35 => ?_) (fun c35 => ?_)
        · refine aw_iconst (v := 0) dX9_fits_42 rfl ?_
          rw [if_neg (show ¬ q_fg (b i) by omega)] at hk; exact hk
        · refine aw_iconst (v := 1) dX9_fits_38 rfl ?_
          refine aw_goto (tgt := 43) dX9_fits_39 (by decide) ?_
          rw [if_pos (show q_fg (b i) by omega)] at hk; exact hk
  · refine aw_aload_n dX9_fits_0 rfl ?_
    refine aw_getR dX9_fits_1 f9_34 rfl ⟨Nat.le_of_ble_eq_true rfl, Nat.le_of_ble_eq_true rfl⟩ rfl rfl ?_
    refine aw_iload_n dX9_fits_4 rfl ?_
    refine aw_iald_n (j := i) dX9_fits_5 rfl (Nat.le_of_ble_eq_true rfl) (by decide) (by omega) ?_
    refine aw_top (hb.2.1 (i) (by omega)).1 ?_
    refine aw_istore_n (ls2 := [_, _, _, _, _, _]) dX9_fits_6 (by decide) rfl rfl ?_
    refine aw_iload_n dX9_fits_7 rfl ?_
    refine aw_bipush (v := 97) dX9_fits_8 (by decide) ?_
    refine aw_ic_lt_n (a := b (i)) (b := 97) (tgt := 23) dX9_fits_10 (by decide) (by omega) (by omega) (fun c10 => ?_) (fun c10 => ?_)
    · refine aw_iconst (v := 0) dX9_fits_23 rfl ?_
      rw [if_neg (show ¬ q_pl (b i) by omega)] at hk; exact hk
    · refine aw_iload_n dX9_fits_13 rfl ?_
      refine aw_bipush (v := 105) dX9_fits_14 (by decide) ?_
      refine aw_ic_ge_n (a := b (i)) (b := 105) (tgt := 23) dX9_fits_16 (by decide) (by omega) (by omega) (fun c16 => ?_) (fun c16 => ?_)
      · refine aw_iconst (v := 0) dX9_fits_23 rfl ?_
        rw [if_neg (show ¬ q_pl (b i) by omega)] at hk; exact hk
      · refine aw_iconst (v := 1) dX9_fits_19 rfl ?_
        refine aw_goto (tgt := 24) dX9_fits_20 (by decide) ?_
        rw [if_pos (show q_pl (b i) by omega)] at hk; exact hk
theorem w_fitsC (G : aw_G) {n c : Nat} {I : Nat → Nat → Int32} {L : Nat → Nat → Int64} {b : Nat → Nat} {l i : Nat} (hb : zTbC b l I) (hi : i < 55) : aw_Met G mX9_fits [.ref 6, .int (nI (i % 7)), .int (nI i)] (zH n I L c) (fun v h2 => v = some (.int (if q_c b i = true then 1 else 0)) ∧ h2 = zH n I L c) := by
  have h : i % 7 = 0 ∨ i % 7 = 1 ∨ i % 7 = 2 ∨ i % 7 = 3 ∨ i % 7 = 4 ∨ i % 7 = 5 ∨ i % 7 = 6 := by omega
  rcases h with h | h | h | h | h | h | h
  · rw [h]; exact w_fitsC0 G hb hi h
  · rw [h]; exact w_fitsC1 G hb hi h
  · rw [h]; exact w_fitsC2 G hb hi h
  · rw [h]; exact w_fitsC3 G hb hi h
  · rw [h]; exact w_fitsC4 G hb hi h
  · rw [h]; exact w_fitsC5 G hb hi h
  · rw [h]; exact w_fitsC6 G hb hi h
