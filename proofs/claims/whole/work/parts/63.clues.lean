/-! CLUES, and the least strength -/
/-- what was seen: hours, who, places (one higher), how many -/
def zCl (g : Nat → Nat → Nat) (I : Nat → Nat → Int32) : Prop := I 64 9 = nI (g 3 0) ∧ g 3 0 ≤ 8 ∧ ∀ i, i < 8 → (I 65 i = nI (g 0 i) ∧ I 66 i = nI (g 1 i) ∧ I 67 i = nI (g 2 i) - 1) ∧ g 0 i < 40 ∧ g 1 i < 8 ∧ g 2 i ≤ 8
theorem zCl.mv {g : Nat → Nat → Nat} {I0 I : Nat → Nat → Int32} (h : zCl g I0) (hF : zFt I0 I) : zCl g I := by
  obtain ⟨h1, h2, h3⟩ := h
  exact ⟨by rw [hF.2.2.2.2]; exact h1, h2, fun i hi => by rw [hF.2.1, hF.2.2.1, hF.2.2.2.1]; exact h3 i hi⟩
def z_fi (x u g t : Nat → Nat → Nat) : Nat → Bool
  | 0 => true
  | i + 1 => z_fi x u g t i && (decide (g 1 i < t 6 0) && decide (o_sb x u t (g 1 i) (g 0 i) = g 2 i))
def z_fit (x u g t : Nat → Nat → Nat) : Bool := z_fi x u g t (g 3 0)
theorem z_fi_stop {x u g t : Nat → Nat → Nat} {i : Nat} (h : z_fi x u g t i = false) (d : Nat) : z_fi x u g t (i + d) = false := by
  induction d with
  | zero => exact h
  | succ d ih => rw [← Nat.add_assoc, z_fi, ih]; rfl
theorem o_sb_teq {t t2 u x : Nat → Nat → Nat} (h : zTeq t t2) : o_sb x u t2 = o_sb x u t := by
  funext k h0
  unfold o_sb
  rw [(o_teq h).2.1, (o_teq h).2.2]
theorem z_fi_teq {t t2 u x g : Nat → Nat → Nat} {i : Nat} (h : zTeq t t2) : z_fi x u g t2 i = z_fi x u g t i := by
  induction i with
  | zero => rfl
  | succ i ih => rw [z_fi, z_fi, ih, o_sb_teq h, h.1]
theorem z_fit_teq {t t2 u x g : Nat → Nat → Nat} (h : zTeq t t2) : z_fit x u g t2 = z_fit x u g t := z_fi_teq h
theorem z_fi_congr {t t2 u x g : Nat → Nat → Nat} {i : Nat} (h0 : t2 6 0 = t 6 0) (h : ∀ k h, k < t 6 0 → o_sb x u t2 k h = o_sb x u t k h) : z_fi x u g t2 i = z_fi x u g t i := by
  induction i with
  | zero => rfl
  | succ i ih =>
    rw [z_fi, z_fi, ih, h0]
    by_cases hk : g 1 i < t 6 0
    · rw [h _ _ hk]
    · rw [decide_eq_false hk, Bool.false_and, Bool.false_and]
/-- the last one for which f holds, one higher -/
def z_la (f : Nat → Bool) : Nat → Nat
  | 0 => 0
  | i + 1 => if f i = true then i + 1 else z_la f i
theorem z_la_le {f : Nat → Bool} {i : Nat} : z_la f i ≤ i := by
  induction i with
  | zero => exact Nat.le_refl _
  | succ i ih => rw [z_la]; split <;> omega
theorem zfst_le {f : Nat → Bool} {i : Nat} : zfst f i ≤ i := by
  by_cases h : zfst f i = 0
  · omega
  · exact (zfst_spec h).2
/-- a block in which f is the same -/
theorem z_block {f : Nat → Bool} {v : Nat} (d : Nat) (h : ∀ w, v ≤ w → w < v + (d + 1) → f w = f v) :
    zc f (v + (d + 1)) = zc f v + (if f v = true then d + 1 else 0) ∧ zfst f (v + (d + 1)) = (if zfst f v ≠ 0 then zfst f v else if f v = true then v + 1 else 0) ∧ z_la f (v + (d + 1)) = (if f v = true then v + (d + 1) else z_la f v) := by
  induction d with
  | zero =>
    rw [zc, zfst, z_la]
    refine ⟨?_, rfl, rfl⟩
    split <;> omega
  | succ d ih =>
    obtain ⟨h1, h2, h3⟩ := ih (fun w a b => h w a (by omega))
    have hv := h (v + (d + 1)) (by omega) (by omega)
    rw [← Nat.add_assoc v (d + 1) 1, zc, zfst, z_la, h1, h2, h3, hv]
    refine ⟨?_, ?_, ?_⟩
    · split <;> omega
    · by_cases hz : zfst f v ≠ 0
      · rw [if_pos hz, if_pos hz]
      · rw [if_neg hz]
        by_cases hf : f v = true
        · rw [if_pos hf, if_pos (by omega)]
        · rw [if_neg hf, if_neg (fun z => z rfl), if_neg hf]
    · by_cases hf : f v = true
      · rw [if_pos hf, if_pos hf]
      · rw [if_neg hf, if_neg hf, if_neg hf]
theorem zfst_at {f : Nat → Bool} {v n : Nat} (h : ∀ w, w < v → f w = false) (hv : f v = true) (hn : v < n) : zfst f n = v + 1 := by
  refine zfst_st (i := v + 1) ?_ hn
  rw [zfst, if_neg (fun z => z (zfst_0.mpr h)), if_pos hv]
section ENO
variable {s t u x y : Nat → Nat → Nat} {k v w : Nat}
theorem zEnO (hT : zTok t) (hG : zGo x y) (h40 : ∀ k, k < t 6 0 → t 5 k < 40) (hO : zOld s 8) (hk : k < t 6 0) (hv : v ≤ w) (hw : w < p_play s (aw_u t 3 k v) u x 8 k) (h100 : w < 1000) : ∀ c, c < t 6 0 → o_st x u (aw_u t 3 k w) c = o_st x u (aw_u t 3 k v) c ∧ o_en x u (aw_u t 3 k w) c = o_en x u (aw_u t 3 k v) c ∧ o_pl x u (aw_u t 3 k w) c = o_pl x u (aw_u t 3 k v) c := by
  intro c hc
  obtain ⟨d, rfl⟩ : ∃ d, w = v + d := ⟨w - v, by omega⟩
  have h6 : ∀ z, aw_u t 3 k z 6 0 = t 6 0 := fun z => by rw [aw_u_ne (by decide)]
  have h5 : ∀ z, ∀ k', k' < aw_u t 3 k z 6 0 → aw_u t 3 k z 5 k' < 40 := fun z k' hk' => by rw [h6] at hk'; rw [aw_u_ne (by decide)]; exact h40 k' hk'
  have a1 := zCan (u := u) (hT.u (i := 3) (j := k) (v := v + d) (by decide) h100) hG hO (h5 _) (k := c) (by rw [h6]; exact hc)
  have a2 := zCan (u := u) (hT.u (i := 3) (j := k) (v := v) (by decide) (show v < 1000 by omega)) hG hO (h5 _) (k := c) (by rw [h6]; exact hc)
  have e6 := zEn (s := s) (u := u) (x := x) (d := d) (r := 6) hk hw (by decide) (by decide)
  have e7 := zEn (s := s) (u := u) (x := x) (d := d) (r := 7) hk hw (by decide) (by decide)
  have e5 := zEn (s := s) (u := u) (x := x) (d := d) (r := 5) hk hw (by decide) (by decide)
  rw [← a1.1, ← a1.2.1, ← a1.2.2, ← a2.1, ← a2.2.1, ← a2.2.2, e6, e7, e5]
  exact ⟨rfl, rfl, rfl⟩
end ENO
/-- what is enough is no great number -/
theorem zEnLe {s t u x : Nat → Nat → Nat} (hT : zTok t) (hX : zXok x) (hO : zOld s 8) {k : Nat} (hk : k < t 6 0) : p_play s t u x 8 k ≤ 5000 := by
  have hz : zWf (p_begin s t) t 8 := zWf.begin hT hO
  have key : ∀ i, p_ev (p_begin s t) t u x i 8 k ≤ 5000 := by
    intro i
    induction i with
    | zero =>
      have e := (p_b2_lt (s := p_b1 (aw_u (aw_u (aw_u s 0 0 (t 6 0)) 0 10 0) 0 11 0) 8) (t := t) hk).2.2.2.2.2.1
      show p_b2 _ _ _ 8 k ≤ 5000
      rw [e]; decide
    | succ i ih =>
      rw [p_ev]
      split
      · rename_i hm
        have hw := (hz.ev (u := u) hX hT (i := i)).gather (h := p_min (p_ev (p_begin s t) t u x i 1) (p_begin s t 0 0)) (by omega)
        rw [p_hour, p_sw_col (by decide)]
        have hg : p_gather (p_ev (p_begin s t) t u x i) (p_min (p_ev (p_begin s t) t u x i 1) (p_begin s t 0 0)) 8 k ≤ 5000 := by rw [p_gather_row (by decide) (by decide)]; exact ih
        split
        · have hk8 : k < 8 := by have := hT.1; omega
          have h5 := (hw.2.2.2.1 k hk8).2.2.1
          have ht := hT.2.2 k hk8
          unfold p_settle
          repeat' split
          · rw [p_fin_row (by decide) (by decide) (by decide), aw_u_ne (by decide), aw_u_ne (by decide)]; exact hg
          · rw [p_fin_row (by decide) (by decide) (by decide), aw_u_ne (by decide), aw_u_ne (by decide)]; exact hg
          · rw [p_fin_row (by decide) (by decide) (by decide), aw_u_ne (by decide), aw_u_ne (by decide)]; exact hg
          · rw [p_fin_row (by decide) (by decide) (by decide), aw_u_eq]
            have hx := (hX (p_gather (p_ev (p_begin s t) t u x i) (p_min (p_ev (p_begin s t) t u x i 1) (p_begin s t 0 0)) 5 k * 8 + t 1 k) (by omega)).2
            have hx0 := (hX (p_gather (p_ev (p_begin s t) t u x i) (p_min (p_ev (p_begin s t) t u x i 1) (p_begin s t 0 0)) 5 k * 8 + (x 2 (p_gather (p_ev (p_begin s t) t u x i) (p_min (p_ev (p_begin s t) t u x i 1) (p_begin s t 0 0)) 5 k * 8 + t 1 k) - 1)) (by omega)).1
            omega
          · rw [p_note_row (by decide), aw_u_ne (by decide), aw_u_ne (by decide), aw_u_ne (by decide), aw_u_ne (by decide)]; exact hg
        · exact hg
      · exact ih
  exact key 40
theorem w_least (G : aw_G) {n c : Nat} {I I0 : Nat → Nat → Int32} {L : Nat → Nat → Int64} {t u x y t2 s : Nat → Nat → Nat} {k : Nat} (hF : zFx t u x y I0) (hD : zDy t2 s I0 I) (hk : k < t 6 0) : aw_Met G mX5_leastStrength [.ref 59, .int (nI k)] (zH n I L c) (fun v h2 => v = some (.int (nI (zfst (fun w => o_st x u (aw_u t 3 k w) k == 2) 100) - 1)) ∧ ∃ I2, h2 = zH n I2 L 12 ∧ ∃ t3 s3, zDy t3 s3 I0 I2) := by
  refine aw_Met.of okX5_leastStrength (Nat.le_of_ble_eq_true rfl) ?_
  show aw_W G mX5_leastStrength 0 [.ref 59, .int (nI k), aw_x, aw_x] [] (zH n I L c) (0, 0) _
  refine aw_aload_n dX5_leastStrength_0 rfl ?_
  refine aw_getR dX5_leastStrength_1 f5_32 rfl ⟨Nat.le_of_ble_eq_true rfl, Nat.le_of_ble_eq_true rfl⟩ rfl rfl ?_
  refine aw_aload_n dX5_leastStrength_4 rfl ?_
  refine aw_getR dX5_leastStrength_5 f5_28 rfl ⟨Nat.le_of_ble_eq_true rfl, Nat.le_of_ble_eq_true rfl⟩ rfl rfl ?_
  refine aw_V0c (As := [_]) dX5_leastStrength_8 k5_39 rfl rfl rfl ⟨Nat.le_of_ble_eq_true rfl, Nat.le_of_ble_eq_true rfl⟩ (Nat.le_of_ble_eq_true rfl) ⟨⟨Nat.le_of_ble_eq_true rfl, Nat.le_of_ble_eq_true rfl⟩, ⟨Nat.le_of_ble_eq_true rfl, Nat.le_of_ble_eq_true rfl⟩⟩ ⟨rfl, rfl⟩ (w_become G (I0 := I) (hD.fx hF).1 hF.2.1 (zSx.of hD.1) hD.2.1) (fun v h2 hq => ?_)
  obtain ⟨rfl, I2, rfl, t3, hS, hE, hT3⟩ := hq
  have hD3 : zDy t3 s I0 I2 := hD.sx hS hT3 (hF.h40 hE)
  refine aw_iconst (v := 0) dX5_leastStrength_11 rfl ?_
  refine aw_istore_n (ls2 := [_, _, _, _]) dX5_leastStrength_12 (by decide) rfl rfl ?_
  refine aw_iconst (v := 0) dX5_leastStrength_13 rfl ?_
  refine aw_istore_n (ls2 := [_, _, _, _]) dX5_leastStrength_14 (by decide) rfl rfl ?_
  have h8 := hF.2.1.1
  refine aw_up (X := fun i => ∀ I t2 s v, (∀ v, zTeq (aw_u t 3 k v) (aw_u t2 3 k v)) ∧ zDy t2 s I0 I ∧ (∀ w, w < v → w < 100 → (fun w => o_st x u (aw_u t 3 k w) k == 2) w = false) ∧ i ≤ v ∧ v ≤ 5000 → aw_W G mX5_leastStrength 15 [.ref 59, .int (nI k), .int (nI v), .int (nI i)] [] (zH n I L 12) (0, 0) _) (Nat.zero_le 100) (fun I t2 s v hh => ?_) (fun i _ hi ih I t2 s v hh => ?_) _ _ _ 0 ⟨fun v => hE.u (by decide), hD3, fun w hw => absurd hw (by omega), Nat.le_refl _, Nat.zero_le _⟩
  · obtain ⟨hE, hD, hn, hiv, hv5⟩ := hh
    refine aw_iload_n dX5_leastStrength_15 rfl ?_
    refine aw_bipush (v := 100) dX5_leastStrength_16 (by decide) ?_
    refine aw_ic_ge_n (a := 100) (b := 100) (tgt := 79) dX5_leastStrength_18 (by decide) (by omega) (by omega) (fun c18 => ?_) (fun z => absurd z (by omega))
    refine aw_iconst (v := -1) dX5_leastStrength_79 rfl ?_
    refine aw_reti dX5_leastStrength_80 rfl rfl ⟨Nat.le_of_ble_eq_true rfl, Nat.le_of_ble_eq_true rfl⟩ ?_
    refine ⟨?_, _, rfl, _, _, hD⟩
    rw [zfst_0.mpr (fun w hw => hn w (by omega) hw)]; rfl
  · obtain ⟨hE, hD, hn, hiv, hv5⟩ := hh
    refine aw_iload_n dX5_leastStrength_15 rfl ?_
    refine aw_bipush (v := 100) dX5_leastStrength_16 (by decide) ?_
    refine aw_ic_ge_n (a := i) (b := 100) (tgt := 79) dX5_leastStrength_18 (by decide) (by omega) (by omega) (fun z => absurd z (by omega)) (fun c18 => ?_)
    refine aw_iload_n dX5_leastStrength_21 rfl ?_
    refine aw_bipush (v := 100) dX5_leastStrength_22 (by decide) ?_
    refine aw_ic_ge_n (a := v) (b := 100) (tgt := 79) dX5_leastStrength_24 (by decide) (by omega) (by omega) (fun c24 => ?_) (fun c24 => ?_)
    · refine aw_iconst (v := -1) dX5_leastStrength_79 rfl ?_
      refine aw_reti dX5_leastStrength_80 rfl rfl ⟨Nat.le_of_ble_eq_true rfl, Nat.le_of_ble_eq_true rfl⟩ ?_
      refine ⟨?_, _, rfl, _, _, hD⟩
      rw [zfst_0.mpr (fun w hw => hn w (by omega) hw)]; rfl
    · refine aw_aload_n dX5_leastStrength_27 rfl ?_
      refine aw_getR dX5_leastStrength_28 f5_32 rfl ⟨Nat.le_of_ble_eq_true rfl, Nat.le_of_ble_eq_true rfl⟩ rfl rfl ?_
      refine aw_getR dX5_leastStrength_31 f5_45 rfl ⟨Nat.le_of_ble_eq_true rfl, Nat.le_of_ble_eq_true rfl⟩ rfl rfl ?_
      refine aw_iload_n dX5_leastStrength_34 rfl ?_
      refine aw_iload_n dX5_leastStrength_35 rfl ?_
      refine aw_iast_n (j := k) dX5_leastStrength_36 rfl ⟨Nat.le_of_ble_eq_true rfl, Nat.le_of_ble_eq_true rfl⟩ (by decide) (by omega) ?_
      have hD1 := hD.st (i := 3) (j := k) (v := v) (by decide) (show v < 1000 by omega)
      refine aw_aload_n dX5_leastStrength_37 rfl ?_
      refine aw_getR dX5_leastStrength_38 f5_35 rfl ⟨Nat.le_of_ble_eq_true rfl, Nat.le_of_ble_eq_true rfl⟩ rfl rfl ?_
      refine aw_aload_n dX5_leastStrength_41 rfl ?_
      refine aw_getR dX5_leastStrength_42 f5_32 rfl ⟨Nat.le_of_ble_eq_true rfl, Nat.le_of_ble_eq_true rfl⟩ rfl rfl ?_
      refine aw_V0c (As := [_]) dX5_leastStrength_45 k5_49 rfl rfl rfl ⟨Nat.le_of_ble_eq_true rfl, Nat.le_of_ble_eq_true rfl⟩ (Nat.le_of_ble_eq_true rfl) ⟨⟨Nat.le_of_ble_eq_true rfl, Nat.le_of_ble_eq_true rfl⟩, ⟨Nat.le_of_ble_eq_true rfl, Nat.le_of_ble_eq_true rfl⟩⟩ ⟨rfl, rfl⟩ (w_playB G hD1.2.2.2.1 hD1.1 (hD1.fx hF).2.2.2.2.2.1 (hD1.fx hF).2.2.2.1 hD1.2.1 hF.2.2.2.2.2.2.2.1 hF.2.2.2.2.1 hD1.2.2.2.2.1.1) (fun v h2 hq => ?_)
      obtain ⟨rfl, I2, rfl, hR2⟩ := hq
      have hD2 := hD1.play (t := t) hF.2.2.2.2.2.2 hR2
      have e6 : aw_u t2 3 k v 6 0 = t 6 0 := by rw [aw_u_ne (by decide)]; have := (hE v).1; rw [aw_u_ne (by decide), aw_u_ne (by decide)] at this; exact this
      have hc := zCan (u := u) hD1.2.1 hF.2.2.2.2.2.2 hD1.2.2.2.2.1.1 hD1.2.2.1 (k := k) (by rw [e6]; exact hk)
      have hst6 : I2 50 k = nI (o_st x u (aw_u t 3 k v) k) := by
        rw [← (o_teq (hE v)).1, ← hc.1]
        exact hR2.at 6 k (by decide) (by decide) (by decide) (by omega)
      have hle := o_st_le (u := u) (t := aw_u t 3 k v) (x := x) (hF.2.1.u (by decide) (show v < 1000 by omega)) hF.2.2.2.2.2.2 (k := k) (by rw [aw_u_ne (by decide)]; exact hk)
      have hen := zEnLe (s := s) (u := u) (x := x) hD1.2.1 hF.2.2.2.2.2.2.2.1 hD1.2.2.2.2.1.1 (k := k) (by rw [e6]; exact hk)
      have hgt := zEnGt (s := s) (t := t) (u := u) (x := x) (k := k) (v := v) hk (by omega)
      rw [← p_play_teq (hE v)] at hgt
      refine aw_aload_n dX5_leastStrength_48 rfl ?_
      refine aw_getR dX5_leastStrength_49 f5_35 rfl ⟨Nat.le_of_ble_eq_true rfl, Nat.le_of_ble_eq_true rfl⟩ rfl rfl ?_
      refine aw_getR dX5_leastStrength_52 f5_54 rfl ⟨Nat.le_of_ble_eq_true rfl, Nat.le_of_ble_eq_true rfl⟩ rfl rfl ?_
      refine aw_iload_n dX5_leastStrength_55 rfl ?_
      refine aw_iald_n (j := k) dX5_leastStrength_56 rfl (Nat.le_of_ble_eq_true rfl) (by decide) (by omega) ?_
      refine aw_top hst6 ?_
      refine aw_iconst (v := 2) dX5_leastStrength_57 rfl ?_
      refine aw_ic_ne_n (a := o_st x u (aw_u t 3 k v) k) (b := 2) (tgt := 63) dX5_leastStrength_58 (by decide) (by omega) (by omega) (fun c58 => ?_) (fun c58 => ?_)
      · refine aw_aload_n dX5_leastStrength_63 rfl ?_
        refine aw_getR dX5_leastStrength_64 f5_35 rfl ⟨Nat.le_of_ble_eq_true rfl, Nat.le_of_ble_eq_true rfl⟩ rfl rfl ?_
        refine aw_getR dX5_leastStrength_67 f5_57 rfl ⟨Nat.le_of_ble_eq_true rfl, Nat.le_of_ble_eq_true rfl⟩ rfl rfl ?_
        refine aw_iload_n dX5_leastStrength_70 rfl ?_
        refine aw_iald_n (j := k) dX5_leastStrength_71 rfl (Nat.le_of_ble_eq_true rfl) (by decide) (by omega) ?_
        refine aw_top (show _ = nI (p_play s (aw_u t2 3 k v) u x 8 k) from hR2.at 8 k (by decide) (by decide) (by decide) (by omega)) ?_
        refine aw_istore_n (ls2 := [_, _, _, _]) dX5_leastStrength_72 (by decide) rfl rfl ?_
        refine aw_iinc_n (ls2 := [_, _, _, _]) dX5_leastStrength_73 rfl (by decide) rfl rfl ?_
        refine aw_goto (tgt := 15) dX5_leastStrength_76 (by decide) ?_
        refine ih _ _ _ _ ⟨fun w => by rw [aw_u_uu]; exact hE w, hD2, fun w hw h1 => ?_, by omega, hen⟩
        by_cases hwv : w < v
        · exact hn w hwv h1
        · have := (zEnO (s := s) (u := u) hF.2.1 hF.2.2.2.2.2.2 (fun k hk => hF.2.2.1 k (by omega)) hD1.2.2.2.2.1.1 hk (show v ≤ w by omega) (by rw [← p_play_teq (hE v)]; exact hw) (by omega) k hk).1
          show (o_st x u (aw_u t 3 k w) k == 2) = false
          rw [this]
          exact beq_eq_false_iff_ne.mpr c58
      · refine aw_iload_n dX5_leastStrength_61 rfl ?_
        refine aw_reti dX5_leastStrength_62 rfl rfl ⟨Nat.le_of_ble_eq_true rfl, Nat.le_of_ble_eq_true rfl⟩ ?_
        refine ⟨?_, _, rfl, _, _, hD2⟩
        rw [zfst_at (v := v) (fun w hw => hn w hw (by omega)) (by show (o_st x u (aw_u t 3 k v) k == 2) = true; rw [c58]; rfl) (by omega), nI_pred]
theorem w_fitsT (G : aw_G) {n : Nat} {I I0 : Nat → Nat → Int32} {L : Nat → Nat → Int64} {t u x y g t2 s : Nat → Nat → Nat} (hF : zFx t u x y I0) (hC : zCl g I0) (hD1 : zDy t2 s I0 I) : aw_Met G mX3_trialFits [.ref 64] (zH n I L 12) (fun v h2 => v = some (.int (if z_fit x u g t2 = true then 1 else 0)) ∧ ∃ I2, h2 = zH n I2 L 12 ∧ zDy t2 (p_play s t2 u x) I0 I2 ∧ ∀ o, (o < 44 ∨ 58 < o) → I2 o = I o) := by
  refine aw_Met.of okX3_trialFits (Nat.le_of_ble_eq_true rfl) ?_
  show aw_W G mX3_trialFits 0 [.ref 64, aw_x] [] (zH n I L 12) (0, 0) _
  refine aw_aload_n dX3_trialFits_0 rfl ?_
  refine aw_getR dX3_trialFits_1 f3_50 rfl ⟨Nat.le_of_ble_eq_true rfl, Nat.le_of_ble_eq_true rfl⟩ rfl rfl ?_
  refine aw_aload_n dX3_trialFits_4 rfl ?_
  refine aw_getR dX3_trialFits_5 f3_47 rfl ⟨Nat.le_of_ble_eq_true rfl, Nat.le_of_ble_eq_true rfl⟩ rfl rfl ?_
  refine aw_V0c (As := [_]) dX3_trialFits_8 k3_54 rfl rfl rfl ⟨Nat.le_of_ble_eq_true rfl, Nat.le_of_ble_eq_true rfl⟩ (Nat.le_of_ble_eq_true rfl) ⟨⟨Nat.le_of_ble_eq_true rfl, Nat.le_of_ble_eq_true rfl⟩, ⟨Nat.le_of_ble_eq_true rfl, Nat.le_of_ble_eq_true rfl⟩⟩ ⟨rfl, rfl⟩ (w_playB G hD1.2.2.2.1 hD1.1 (hD1.fx hF).2.2.2.2.2.1 (hD1.fx hF).2.2.2.1 hD1.2.1 hF.2.2.2.2.2.2.2.1 hF.2.2.2.2.1 hD1.2.2.2.2.1.1) (fun v h2 hq => ?_)
  obtain ⟨rfl, I2, rfl, hR2⟩ := hq
  have hD2 := hD1.play (t := t) hF.2.2.2.2.2.2 hR2
  refine aw_iconst (v := 0) dX3_trialFits_11 rfl ?_
  refine aw_istore_n (ls2 := [_, _]) dX3_trialFits_12 (by decide) rfl rfl ?_
  have h8 := hD1.2.1.1
  have hC2 : zCl g I2 := hC.mv hD2.2.2.2.2.2
  have hg8 := hC2.2.1
  have hbd := zBd (m := z0) (u := u) hD1.2.1 hF.2.2.2.2.2.2.1 hF.2.2.2.2.2.2.2.1 hF.2.2.2.2.2.2.2.2 hD1.2.2.2.2.1.1
  refine aw_up (X := fun i => z_fi x u g t2 i = true → aw_W G mX3_trialFits 13 [.ref 64, .int (nI i)] [] (zH n I2 L 12) (0, 0) _) (Nat.zero_le (g 3 0)) (fun hz => ?_) (fun i _ hi ih hz => ?_) rfl
  · refine aw_iload_n dX3_trialFits_13 rfl ?_
    refine aw_aload_n dX3_trialFits_14 rfl ?_
    refine aw_getI dX3_trialFits_15 f3_31 rfl ⟨Nat.le_of_ble_eq_true rfl, Nat.le_of_ble_eq_true rfl⟩ rfl ?_
    refine aw_top hC2.1 ?_
    refine aw_ic_ge_n (a := g 3 0) (b := g 3 0) (tgt := 73) dX3_trialFits_18 (by decide) (by omega) (by omega) (fun c18 => ?_) (fun z => absurd z (by omega))
    refine aw_iconst (v := 1) dX3_trialFits_73 rfl ?_
    refine aw_reti dX3_trialFits_74 rfl rfl ⟨Nat.le_of_ble_eq_true rfl, Nat.le_of_ble_eq_true rfl⟩ ?_
    exact ⟨by rw [if_pos (show z_fit x u g t2 = true from hz)], _, rfl, hD2, fun o ho => hR2.2 o (by omega)⟩
  · have hgi := (hC2.2.2 i (by omega)).2
    refine aw_iload_n dX3_trialFits_13 rfl ?_
    refine aw_aload_n dX3_trialFits_14 rfl ?_
    refine aw_getI dX3_trialFits_15 f3_31 rfl ⟨Nat.le_of_ble_eq_true rfl, Nat.le_of_ble_eq_true rfl⟩ rfl ?_
    refine aw_top hC2.1 ?_
    refine aw_ic_ge_n (a := i) (b := g 3 0) (tgt := 73) dX3_trialFits_18 (by decide) (by omega) (by omega) (fun z => absurd z (by omega)) (fun c18 => ?_)
    refine aw_aload_n dX3_trialFits_21 rfl ?_
    refine aw_getR dX3_trialFits_22 f3_15 rfl ⟨Nat.le_of_ble_eq_true rfl, Nat.le_of_ble_eq_true rfl⟩ rfl rfl ?_
    refine aw_iload_n dX3_trialFits_25 rfl ?_
    refine aw_iald_n (j := i) dX3_trialFits_26 rfl (Nat.le_of_ble_eq_true rfl) (by decide) (by omega) ?_
    refine aw_top (hC2.2.2 i (by omega)).1.2.1 ?_
    refine aw_aload_n dX3_trialFits_27 rfl ?_
    refine aw_getR dX3_trialFits_28 f3_47 rfl ⟨Nat.le_of_ble_eq_true rfl, Nat.le_of_ble_eq_true rfl⟩ rfl rfl ?_
    refine aw_getI dX3_trialFits_31 f3_60 rfl ⟨Nat.le_of_ble_eq_true rfl, Nat.le_of_ble_eq_true rfl⟩ rfl ?_
    refine aw_top hD2.1.2.1 ?_
    refine aw_ic_ge_n (a := g 1 i) (b := t2 6 0) (tgt := 65) dX3_trialFits_34 (by decide) (by omega) (by omega) (fun c34 => ?_) (fun c34 => ?_)
    · refine aw_iconst (v := 0) dX3_trialFits_65 rfl ?_
      refine aw_reti dX3_trialFits_66 rfl rfl ⟨Nat.le_of_ble_eq_true rfl, Nat.le_of_ble_eq_true rfl⟩ ?_
      refine ⟨?_, _, rfl, hD2, fun o ho => hR2.2 o (by omega)⟩
      have e : z_fi x u g t2 (i + 1) = false := by
        rw [z_fi, decide_eq_false (show ¬ g 1 i < t2 6 0 by omega)]; simp
      have e2 := z_fi_stop e (g 3 0 - (i + 1))
      rw [show i + 1 + (g 3 0 - (i + 1)) = g 3 0 by omega] at e2
      rw [if_neg (by rw [z_fit, e2]; decide)]
    · refine aw_aload_n dX3_trialFits_37 rfl ?_
      refine aw_getR dX3_trialFits_38 f3_50 rfl ⟨Nat.le_of_ble_eq_true rfl, Nat.le_of_ble_eq_true rfl⟩ rfl rfl ?_
      refine aw_aload_n dX3_trialFits_41 rfl ?_
      refine aw_getR dX3_trialFits_42 f3_15 rfl ⟨Nat.le_of_ble_eq_true rfl, Nat.le_of_ble_eq_true rfl⟩ rfl rfl ?_
      refine aw_iload_n dX3_trialFits_45 rfl ?_
      refine aw_iald_n (j := i) dX3_trialFits_46 rfl (Nat.le_of_ble_eq_true rfl) (by decide) (by omega) ?_
      refine aw_top (hC2.2.2 i (by omega)).1.2.1 ?_
      refine aw_aload_n dX3_trialFits_47 rfl ?_
      refine aw_getR dX3_trialFits_48 f3_9 rfl ⟨Nat.le_of_ble_eq_true rfl, Nat.le_of_ble_eq_true rfl⟩ rfl rfl ?_
      refine aw_iload_n dX3_trialFits_51 rfl ?_
      refine aw_iald_n (j := i) dX3_trialFits_52 rfl (Nat.le_of_ble_eq_true rfl) (by decide) (by omega) ?_
      refine aw_top (hC2.2.2 i (by omega)).1.1 ?_
      refine aw_V0c (As := [_, _]) dX3_trialFits_53 k3_63 rfl rfl rfl ⟨Nat.le_of_ble_eq_true rfl, Nat.le_of_ble_eq_true rfl⟩ (Nat.le_of_ble_eq_true rfl) ⟨⟨Nat.le_of_ble_eq_true rfl, Nat.le_of_ble_eq_true rfl⟩, ⟨Nat.le_of_ble_eq_true rfl, Nat.le_of_ble_eq_true rfl⟩⟩ ⟨rfl, rfl⟩ (w_stay44 G hR2 (k := g 1 i) (h := g 0 i) (by omega) (by omega) (by have := (hbd.1.2.2.2.1 (g 1 i) (by omega)).2.1; omega) (hbd.1.2.2.2.1 (g 1 i) (by omega)).2.2.1) (fun v h2 hq => ?_)
      obtain ⟨rfl, rfl⟩ := hq
      have hc := zCan (u := u) hD1.2.1 hF.2.2.2.2.2.2 hD1.2.2.2.2.1.1 hD1.2.2.1 (k := g 1 i) c34
      have hsb : (if p_play s t2 u x 7 (g 1 i) ≠ 0 ∧ p_play s t2 u x 7 (g 1 i) ≤ g 0 i + 1 then p_play s t2 u x 5 (g 1 i) + 1 else 0) = o_sb x u t2 (g 1 i) (g 0 i) := by
        unfold o_sb z_sb; rw [← hc.2.1, ← hc.2.2]
      have hsl : o_sb x u t2 (g 1 i) (g 0 i) ≤ 8 := by
        rw [← hsb]; have := (hbd.1.2.2.2.1 (g 1 i) (by omega)).2.2.1; split <;> omega
      rw [hsb]
      refine aw_aload_n dX3_trialFits_56 rfl ?_
      refine aw_getR dX3_trialFits_57 f3_18 rfl ⟨Nat.le_of_ble_eq_true rfl, Nat.le_of_ble_eq_true rfl⟩ rfl rfl ?_
      refine aw_iload_n dX3_trialFits_60 rfl ?_
      refine aw_iald_n (j := i) dX3_trialFits_61 rfl (Nat.le_of_ble_eq_true rfl) (by decide) (by omega) ?_
      refine aw_top (hC2.2.2 i (by omega)).1.2.2 ?_
      refine aw_ic_eq_p (a := o_sb x u t2 (g 1 i) (g 0 i)) (b := g 2 i) (tgt := 67) dX3_trialFits_62 (by decide) (by omega) (by omega) (fun c62 => ?_) (fun c62 => ?_)
      · refine aw_iinc_n (ls2 := [_, _]) dX3_trialFits_67 rfl (by decide) rfl rfl ?_
        refine aw_goto (tgt := 13) dX3_trialFits_70 (by decide) ?_
        refine ih ?_
        rw [z_fi, hz, decide_eq_true c34, decide_eq_true c62]; rfl
      · refine aw_iconst (v := 0) dX3_trialFits_65 rfl ?_
        refine aw_reti dX3_trialFits_66 rfl rfl ⟨Nat.le_of_ble_eq_true rfl, Nat.le_of_ble_eq_true rfl⟩ ?_
        refine ⟨?_, _, rfl, hD2, fun o ho => hR2.2 o (by omega)⟩
        have e : z_fi x u g t2 (i + 1) = false := by
          rw [z_fi, decide_eq_false (show ¬ o_sb x u t2 (g 1 i) (g 0 i) = g 2 i from c62)]; simp
        have e2 := z_fi_stop e (g 3 0 - (i + 1))
        rw [show i + 1 + (g 3 0 - (i + 1)) = g 3 0 by omega] at e2
        rw [if_neg (by rw [z_fit, e2]; decide)]
theorem w_never (G : aw_G) {n c : Nat} {I I0 : Nat → Nat → Int32} {L : Nat → Nat → Int64} {t u x y g t2 s : Nat → Nat → Nat} (hF : zFx t u x y I0) (hC : zCl g I0) (hD : zDy t2 s I0 I)  : aw_Met G mX3_answersThatNeverWere [.ref 64] (zH n I L c) (fun v h2 => v = some (.int (nI (z_who (fun a => z_fit x u g (aw_u t 6 1 (2 ^ a))) (u 2 0)))) ∧ ∃ I2, h2 = zH n I2 L 12 ∧ ∃ t3 s3, zDy t3 s3 I0 I2) := by
  refine aw_Met.of okX3_answersThatNeverWere (Nat.le_of_ble_eq_true rfl) ?_
  show aw_W G mX3_answersThatNeverWere 0 [.ref 64, aw_x, aw_x] [] (zH n I L c) (0, 0) _
  refine aw_aload_n dX3_answersThatNeverWere_0 rfl ?_
  refine aw_getR dX3_answersThatNeverWere_1 f3_47 rfl ⟨Nat.le_of_ble_eq_true rfl, Nat.le_of_ble_eq_true rfl⟩ rfl rfl ?_
  refine aw_aload_n dX3_answersThatNeverWere_4 rfl ?_
  refine aw_getR dX3_answersThatNeverWere_5 f3_43 rfl ⟨Nat.le_of_ble_eq_true rfl, Nat.le_of_ble_eq_true rfl⟩ rfl rfl ?_
  refine aw_V0c (As := [_]) dX3_answersThatNeverWere_8 k3_67 rfl rfl rfl ⟨Nat.le_of_ble_eq_true rfl, Nat.le_of_ble_eq_true rfl⟩ (Nat.le_of_ble_eq_true rfl) ⟨⟨Nat.le_of_ble_eq_true rfl, Nat.le_of_ble_eq_true rfl⟩, ⟨Nat.le_of_ble_eq_true rfl, Nat.le_of_ble_eq_true rfl⟩⟩ ⟨rfl, rfl⟩ (w_become G (I0 := I) (hD.fx hF).1 hF.2.1 (zSx.of hD.1) hD.2.1) (fun v h2 hq => ?_)
  obtain ⟨rfl, I2, rfl, t3, hS, hE, hT3⟩ := hq
  have hD3 : zDy t3 s I0 I2 := hD.sx hS hT3 (hF.h40 hE)
  refine aw_iconst (v := 0) dX3_answersThatNeverWere_11 rfl ?_
  refine aw_istore_n (ls2 := [_, _, _]) dX3_answersThatNeverWere_12 (by decide) rfl rfl ?_
  refine aw_iconst (v := 0) dX3_answersThatNeverWere_13 rfl ?_
  refine aw_istore_n (ls2 := [_, _, _]) dX3_answersThatNeverWere_14 (by decide) rfl rfl ?_
  have hu8 := hF.2.2.2.2.1.1
  refine aw_up (X := fun i => ∀ I t2 s, (∀ v, zTeq (aw_u t 6 1 v) (aw_u t2 6 1 v)) ∧ zDy t2 s I0 I → aw_W G mX3_answersThatNeverWere 15 [.ref 64, .int (nI (z_who (fun a => z_fit x u g (aw_u t 6 1 (2 ^ a))) i)), .int (nI i)] [] (zH n I L 12) (0, 0) _) (Nat.zero_le (u 2 0)) (fun I t2 s hh => ?_) (fun i _ hi ih I t2 s hh => ?_) _ _ _ ⟨fun v => hE.w, hD3⟩
  · obtain ⟨hE, hD⟩ := hh
    refine aw_iload_n dX3_answersThatNeverWere_15 rfl ?_
    refine aw_aload_n dX3_answersThatNeverWere_16 rfl ?_
    refine aw_getR dX3_answersThatNeverWere_17 f3_43 rfl ⟨Nat.le_of_ble_eq_true rfl, Nat.le_of_ble_eq_true rfl⟩ rfl rfl ?_
    refine aw_getR dX3_answersThatNeverWere_20 f3_70 rfl ⟨Nat.le_of_ble_eq_true rfl, Nat.le_of_ble_eq_true rfl⟩ rfl rfl ?_
    refine aw_getI dX3_answersThatNeverWere_23 f3_74 rfl ⟨Nat.le_of_ble_eq_true rfl, Nat.le_of_ble_eq_true rfl⟩ rfl ?_
    refine aw_top ((hD.fx hF).2.2.2.1.1) ?_
    refine aw_ic_ge_n (a := u 2 0) (b := u 2 0) (tgt := 58) dX3_answersThatNeverWere_26 (by decide) (by omega) (by omega) (fun c26 => ?_) (fun z => absurd z (by omega))
    refine aw_iload_n dX3_answersThatNeverWere_58 rfl ?_
    refine aw_reti dX3_answersThatNeverWere_59 rfl rfl ⟨Nat.le_of_ble_eq_true rfl, Nat.le_of_ble_eq_true rfl⟩ ?_
    exact ⟨rfl, _, rfl, _, _, hD⟩
  · obtain ⟨hE, hD⟩ := hh
    have hp2 : 2 ^ i ≤ 2 ^ 8 := Nat.pow_le_pow_right (by decide) (by omega)
    refine aw_iload_n dX3_answersThatNeverWere_15 rfl ?_
    refine aw_aload_n dX3_answersThatNeverWere_16 rfl ?_
    refine aw_getR dX3_answersThatNeverWere_17 f3_43 rfl ⟨Nat.le_of_ble_eq_true rfl, Nat.le_of_ble_eq_true rfl⟩ rfl rfl ?_
    refine aw_getR dX3_answersThatNeverWere_20 f3_70 rfl ⟨Nat.le_of_ble_eq_true rfl, Nat.le_of_ble_eq_true rfl⟩ rfl rfl ?_
    refine aw_getI dX3_answersThatNeverWere_23 f3_74 rfl ⟨Nat.le_of_ble_eq_true rfl, Nat.le_of_ble_eq_true rfl⟩ rfl ?_
    refine aw_top ((hD.fx hF).2.2.2.1.1) ?_
    refine aw_ic_ge_n (a := i) (b := u 2 0) (tgt := 58) dX3_answersThatNeverWere_26 (by decide) (by omega) (by omega) (fun z => absurd z (by omega)) (fun c26 => ?_)
    refine aw_aload_n dX3_answersThatNeverWere_29 rfl ?_
    refine aw_getR dX3_answersThatNeverWere_30 f3_47 rfl ⟨Nat.le_of_ble_eq_true rfl, Nat.le_of_ble_eq_true rfl⟩ rfl rfl ?_
    refine aw_iconst (v := 1) dX3_answersThatNeverWere_33 rfl ?_
    refine aw_iload_n dX3_answersThatNeverWere_34 rfl ?_
    refine aw_ishl dX3_answersThatNeverWere_35 ?_
    refine aw_top (zi_sh1 i (by omega)) ?_
    refine aw_putI dX3_answersThatNeverWere_36 f3_77 rfl ⟨Nat.le_of_ble_eq_true rfl, Nat.le_of_ble_eq_true rfl⟩ (Or.inl rfl) rfl ?_
    have hD1 := hD.w (v := 2 ^ i) (by omega)
    refine aw_aload_n dX3_answersThatNeverWere_39 rfl ?_
    refine aw_V0c (As := []) dX3_answersThatNeverWere_40 k3_80 rfl rfl rfl ⟨Nat.le_of_ble_eq_true rfl, Nat.le_of_ble_eq_true rfl⟩ (Nat.le_of_ble_eq_true rfl) ⟨⟨Nat.le_of_ble_eq_true rfl, Nat.le_of_ble_eq_true rfl⟩, ⟨Nat.le_of_ble_eq_true rfl, Nat.le_of_ble_eq_true rfl⟩⟩ ⟨rfl, rfl⟩ (w_fitsT G hF hC hD1) (fun v h2 hq => ?_)
    obtain ⟨rfl, I2, rfl, hD2, hfr⟩ := hq
    rw [z_fit_teq (hE _)]
    refine aw_if_eq_B (tgt := 52) dX3_answersThatNeverWere_43 (by decide) (fun c43 => ?_) (fun c43 => ?_)
    · refine aw_iinc_n (ls2 := [_, _, _]) dX3_answersThatNeverWere_52 rfl (by decide) rfl rfl ?_
      refine aw_goto (tgt := 15) dX3_answersThatNeverWere_55 (by decide) ?_
      have e : z_who (fun a => z_fit x u g (aw_u t 6 1 (2 ^ a))) (i + 1) = z_who (fun a => z_fit x u g (aw_u t 6 1 (2 ^ a))) i := by rw [z_who, if_neg c43]
      rw [e] at ih
      exact ih _ _ _ ⟨fun v => by rw [aw_u_uu]; exact hE v, hD2⟩
    · refine aw_iload_n dX3_answersThatNeverWere_46 rfl ?_
      refine aw_iconst (v := 1) dX3_answersThatNeverWere_47 rfl ?_
      refine aw_iload_n dX3_answersThatNeverWere_48 rfl ?_
      refine aw_ishl dX3_answersThatNeverWere_49 ?_
      refine aw_ior dX3_answersThatNeverWere_50 ?_
      refine aw_istore_n (ls2 := [_, _, _]) dX3_answersThatNeverWere_51 (by decide) rfl rfl ?_
      refine aw_iinc_n (ls2 := [_, _, _]) dX3_answersThatNeverWere_52 rfl (by decide) rfl rfl ?_
      refine aw_goto (tgt := 15) dX3_answersThatNeverWere_55 (by decide) ?_
      have e : z_who (fun a => z_fit x u g (aw_u t 6 1 (2 ^ a))) (i + 1) = z_who (fun a => z_fit x u g (aw_u t 6 1 (2 ^ a))) i + 2 ^ i := by rw [z_who, if_pos c43]
      rw [e] at ih
      rw [zi_or i (by omega) _ (z_who_256 (by omega)) z_who_lt]
      exact ih _ _ _ ⟨fun v => by rw [aw_u_uu]; exact hE v, hD2⟩
/-- the rows of those sorts that fit -/
def zEr (f : Nat → Bool) (p e : Nat → Nat) (i : Nat) (I : Nat → Nat → Int32) : Prop := I 64 8 = nI (zc f i) ∧ ∀ v, v < i → f v = true → I 68 (zc f v) = nI (p v) ∧ I 69 (zc f v) = nI (e v) - 1
theorem zc_mono2 {f : Nat → Bool} {i j : Nat} (h : i ≤ j) : zc f i ≤ zc f j := by
  induction j with
  | zero => rw [show i = 0 by omega]; exact Nat.le_refl _
  | succ j ih =>
    by_cases hij : i = j + 1
    · rw [hij]; exact Nat.le_refl _
    · have := ih (by omega)
      rw [zc]; split <;> omega
theorem zc_lt2 {f : Nat → Bool} {v i : Nat} (h : v < i) (hf : f v = true) : zc f v < zc f i := by
  have h1 : zc f (v + 1) ≤ zc f i := zc_mono2 h
  rw [zc, if_pos hf] at h1
  omega
theorem w_sortsOf (G : aw_G) {n c : Nat} {I I0 : Nat → Nat → Int32} {L : Nat → Nat → Int64} {t u x y g t2 s : Nat → Nat → Nat} (hF : zFx t u x y I0) (hC : zCl g I0) (hD : zDy t2 s I0 I) {k : Nat} (hk : k < t 6 0) : aw_Met G mX3_sortsOf [.ref 64, .int (nI k)] (zH n I L c) (fun v h2 => v = some (.int (nI (z_who (fun v => z_fit x u g (aw_u t 2 k v)) 3))) ∧ ∃ I2, h2 = zH n I2 L 12 ∧ (∃ t3 s3, zDy t3 s3 I0 I2) ∧ zEr (fun v => z_fit x u g (aw_u t 2 k v)) (fun v => o_pl x u (aw_u t 2 k v) k) (fun v => o_en x u (aw_u t 2 k v) k) 3 I2) := by
  refine aw_Met.of okX3_sortsOf (Nat.le_of_ble_eq_true rfl) ?_
  show aw_W G mX3_sortsOf 0 [.ref 64, .int (nI k), aw_x, aw_x] [] (zH n I L c) (0, 0) _
  refine aw_aload_n dX3_sortsOf_0 rfl ?_
  refine aw_getR dX3_sortsOf_1 f3_47 rfl ⟨Nat.le_of_ble_eq_true rfl, Nat.le_of_ble_eq_true rfl⟩ rfl rfl ?_
  refine aw_aload_n dX3_sortsOf_4 rfl ?_
  refine aw_getR dX3_sortsOf_5 f3_43 rfl ⟨Nat.le_of_ble_eq_true rfl, Nat.le_of_ble_eq_true rfl⟩ rfl rfl ?_
  refine aw_V0c (As := [_]) dX3_sortsOf_8 k3_67 rfl rfl rfl ⟨Nat.le_of_ble_eq_true rfl, Nat.le_of_ble_eq_true rfl⟩ (Nat.le_of_ble_eq_true rfl) ⟨⟨Nat.le_of_ble_eq_true rfl, Nat.le_of_ble_eq_true rfl⟩, ⟨Nat.le_of_ble_eq_true rfl, Nat.le_of_ble_eq_true rfl⟩⟩ ⟨rfl, rfl⟩ (w_become G (I0 := I) (hD.fx hF).1 hF.2.1 (zSx.of hD.1) hD.2.1) (fun v h2 hq => ?_)
  obtain ⟨rfl, I2, rfl, t3, hS, hE, hT3⟩ := hq
  have hD3 : zDy t3 s I0 I2 := hD.sx hS hT3 (hF.h40 hE)
  refine aw_iconst (v := 0) dX3_sortsOf_11 rfl ?_
  refine aw_istore_n (ls2 := [_, _, _, _]) dX3_sortsOf_12 (by decide) rfl rfl ?_
  refine aw_aload_n dX3_sortsOf_13 rfl ?_
  refine aw_iconst (v := 0) dX3_sortsOf_14 rfl ?_
  refine aw_putI dX3_sortsOf_15 f3_27 rfl ⟨Nat.le_of_ble_eq_true rfl, Nat.le_of_ble_eq_true rfl⟩ (Or.inl rfl) rfl ?_
  refine aw_iconst (v := 0) dX3_sortsOf_18 rfl ?_
  refine aw_istore_n (ls2 := [_, _, _, _]) dX3_sortsOf_19 (by decide) rfl rfl ?_
  have h8 := hF.2.1.1
  refine aw_up (X := fun i => ∀ I t2 s, (∀ v, zTeq (aw_u t 2 k v) (aw_u t2 2 k v)) ∧ zDy t2 s I0 I ∧ zEr (fun v => z_fit x u g (aw_u t 2 k v)) (fun v => o_pl x u (aw_u t 2 k v) k) (fun v => o_en x u (aw_u t 2 k v) k) i I → aw_W G mX3_sortsOf 20 [.ref 64, .int (nI k), .int (nI (z_who (fun v => z_fit x u g (aw_u t 2 k v)) i)), .int (nI i)] [] (zH n I L 12) (0, 0) _) (Nat.zero_le 3) (fun I t2 s hh => ?_) (fun i _ hi ih I t2 s hh => ?_) _ _ _ ⟨fun v => hE.u (by decide), hD3.f (Or.inr (Or.inr (Or.inr ⟨rfl, by decide⟩))), by rw [aw_u_eq]; rfl, fun v hv => absurd hv (by omega)⟩
  · obtain ⟨hE, hD, hEr⟩ := hh
    refine aw_iload_n dX3_sortsOf_20 rfl ?_
    refine aw_iconst (v := 3) dX3_sortsOf_21 rfl ?_
    refine aw_ic_ge_n (a := 3) (b := 3) (tgt := 100) dX3_sortsOf_22 (by decide) (by omega) (by omega) (fun c22 => ?_) (fun z => absurd z (by omega))
    refine aw_iload_n dX3_sortsOf_100 rfl ?_
    refine aw_reti dX3_sortsOf_101 rfl rfl ⟨Nat.le_of_ble_eq_true rfl, Nat.le_of_ble_eq_true rfl⟩ ?_
    exact ⟨rfl, _, rfl, ⟨_, _, hD⟩, hEr⟩
  · obtain ⟨hE, hD, hEr⟩ := hh
    refine aw_iload_n dX3_sortsOf_20 rfl ?_
    refine aw_iconst (v := 3) dX3_sortsOf_21 rfl ?_
    refine aw_ic_ge_n (a := i) (b := 3) (tgt := 100) dX3_sortsOf_22 (by decide) (by omega) (by omega) (fun z => absurd z (by omega)) (fun c22 => ?_)
    refine aw_aload_n dX3_sortsOf_25 rfl ?_
    refine aw_getR dX3_sortsOf_26 f3_47 rfl ⟨Nat.le_of_ble_eq_true rfl, Nat.le_of_ble_eq_true rfl⟩ rfl rfl ?_
    refine aw_getR dX3_sortsOf_29 f3_84 rfl ⟨Nat.le_of_ble_eq_true rfl, Nat.le_of_ble_eq_true rfl⟩ rfl rfl ?_
    refine aw_iload_n dX3_sortsOf_32 rfl ?_
    refine aw_iload_n dX3_sortsOf_33 rfl ?_
    refine aw_iast_n (j := k) dX3_sortsOf_34 rfl ⟨Nat.le_of_ble_eq_true rfl, Nat.le_of_ble_eq_true rfl⟩ (by decide) (by omega) ?_
    have hD1 := hD.st (i := 2) (j := k) (v := i) (by decide) (show i < 3 by omega)
    refine aw_aload_n dX3_sortsOf_35 rfl ?_
    refine aw_V0c (As := []) dX3_sortsOf_36 k3_80 rfl rfl rfl ⟨Nat.le_of_ble_eq_true rfl, Nat.le_of_ble_eq_true rfl⟩ (Nat.le_of_ble_eq_true rfl) ⟨⟨Nat.le_of_ble_eq_true rfl, Nat.le_of_ble_eq_true rfl⟩, ⟨Nat.le_of_ble_eq_true rfl, Nat.le_of_ble_eq_true rfl⟩⟩ ⟨rfl, rfl⟩ (w_fitsT G hF hC hD1) (fun v h2 hq => ?_)
    obtain ⟨rfl, I2, rfl, hD2, hfr⟩ := hq
    rw [z_fit_teq (hE _)]
    have hEr2 : zEr (fun v => z_fit x u g (aw_u t 2 k v)) (fun v => o_pl x u (aw_u t 2 k v) k) (fun v => o_en x u (aw_u t 2 k v) k) i I2 := by
      obtain ⟨e1, e2⟩ := hEr
      refine ⟨by rw [hfr 64 (by omega), aw_u_ne (by decide)]; exact e1, fun v hv hf => ?_⟩
      rw [hfr 68 (by omega), hfr 69 (by omega), aw_u_ne (by decide), aw_u_ne (by decide)]
      exact e2 v hv hf
    have e6 : aw_u t2 2 k i 6 0 = t 6 0 := by rw [aw_u_ne (by decide)]; have := (hE i).1; rw [aw_u_ne (by decide), aw_u_ne (by decide)] at this; exact this
    have hc := zCan (u := u) hD1.2.1 hF.2.2.2.2.2.2 hD1.2.2.2.2.1.1 hD1.2.2.1 (k := k) (by rw [e6]; exact hk)
    have hp5 : I2 49 k = nI (o_pl x u (aw_u t 2 k i) k) := by
      rw [← (o_teq (hE i)).2.2, ← hc.2.2]
      exact hD2.2.2.2.1.at 5 k (by decide) (by decide) (by decide) (by omega)
    have hp7 : I2 51 k = nI (o_en x u (aw_u t 2 k i) k) - 1 := by
      rw [← (o_teq (hE i)).2.1, ← hc.2.1]
      exact hD2.2.2.2.1.at 7 k (by decide) (by decide) (by decide) (by omega)
    have hz3 : zc (fun v => z_fit x u g (aw_u t 2 k v)) i ≤ i := zc_le0
    refine aw_if_eq_B (tgt := 94) dX3_sortsOf_39 (by decide) (fun c39 => ?_) (fun c39 => ?_)
    · refine aw_iinc_n (ls2 := [_, _, _, _]) dX3_sortsOf_94 rfl (by decide) rfl rfl ?_
      refine aw_goto (tgt := 20) dX3_sortsOf_97 (by decide) ?_
      have e : z_who (fun v => z_fit x u g (aw_u t 2 k v)) (i + 1) = z_who (fun v => z_fit x u g (aw_u t 2 k v)) i := by rw [z_who, if_neg c39]
      rw [e] at ih
      refine ih _ _ _ ⟨fun v => by rw [aw_u_uu]; exact hE v, hD2, ?_, fun v hv hf => ?_⟩
      · rw [zc, if_neg c39]; exact hEr2.1
      · by_cases hvi : v = i
        · subst hvi; exact absurd hf c39
        · exact hEr2.2 v (by omega) hf
    · refine aw_iload_n dX3_sortsOf_42 rfl ?_
      refine aw_iconst (v := 1) dX3_sortsOf_43 rfl ?_
      refine aw_iload_n dX3_sortsOf_44 rfl ?_
      refine aw_ishl dX3_sortsOf_45 ?_
      refine aw_ior dX3_sortsOf_46 ?_
      refine aw_istore_n (ls2 := [_, _, _, _]) dX3_sortsOf_47 (by decide) rfl rfl ?_
      refine aw_aload_n dX3_sortsOf_48 rfl ?_
      refine aw_getR dX3_sortsOf_49 f3_21 rfl ⟨Nat.le_of_ble_eq_true rfl, Nat.le_of_ble_eq_true rfl⟩ rfl rfl ?_
      refine aw_aload_n dX3_sortsOf_52 rfl ?_
      refine aw_getI dX3_sortsOf_53 f3_27 rfl ⟨Nat.le_of_ble_eq_true rfl, Nat.le_of_ble_eq_true rfl⟩ rfl ?_
      refine aw_top hEr2.1 ?_
      refine aw_aload_n dX3_sortsOf_56 rfl ?_
      refine aw_getR dX3_sortsOf_57 f3_50 rfl ⟨Nat.le_of_ble_eq_true rfl, Nat.le_of_ble_eq_true rfl⟩ rfl rfl ?_
      refine aw_getR dX3_sortsOf_60 f3_87 rfl ⟨Nat.le_of_ble_eq_true rfl, Nat.le_of_ble_eq_true rfl⟩ rfl rfl ?_
      refine aw_iload_n dX3_sortsOf_63 rfl ?_
      refine aw_iald_n (j := k) dX3_sortsOf_64 rfl (Nat.le_of_ble_eq_true rfl) (by decide) (by omega) ?_
      refine aw_top hp5 ?_
      refine aw_iast_n (j := zc (fun v => z_fit x u g (aw_u t 2 k v)) i) dX3_sortsOf_65 rfl ⟨Nat.le_of_ble_eq_true rfl, Nat.le_of_ble_eq_true rfl⟩ (by decide) (by omega) ?_
      refine aw_aload_n dX3_sortsOf_66 rfl ?_
      refine aw_getR dX3_sortsOf_67 f3_24 rfl ⟨Nat.le_of_ble_eq_true rfl, Nat.le_of_ble_eq_true rfl⟩ rfl rfl ?_
      refine aw_aload_n dX3_sortsOf_70 rfl ?_
      refine aw_getI dX3_sortsOf_71 f3_27 rfl ⟨Nat.le_of_ble_eq_true rfl, Nat.le_of_ble_eq_true rfl⟩ rfl ?_
      refine aw_top ((congrFun (aw_u_ne (show 64 ≠ 68 by decide)) 8).trans hEr2.1) ?_
      refine aw_aload_n dX3_sortsOf_74 rfl ?_
      refine aw_getR dX3_sortsOf_75 f3_50 rfl ⟨Nat.le_of_ble_eq_true rfl, Nat.le_of_ble_eq_true rfl⟩ rfl rfl ?_
      refine aw_getR dX3_sortsOf_78 f3_88 rfl ⟨Nat.le_of_ble_eq_true rfl, Nat.le_of_ble_eq_true rfl⟩ rfl rfl ?_
      refine aw_iload_n dX3_sortsOf_81 rfl ?_
      refine aw_iald_n (j := k) dX3_sortsOf_82 rfl (Nat.le_of_ble_eq_true rfl) (by decide) (by omega) ?_
      refine aw_top ((congrFun (aw_u_ne (show 51 ≠ 68 by decide)) k).trans hp7) ?_
      refine aw_iast_n (j := zc (fun v => z_fit x u g (aw_u t 2 k v)) i) dX3_sortsOf_83 rfl ⟨Nat.le_of_ble_eq_true rfl, Nat.le_of_ble_eq_true rfl⟩ (by decide) (by omega) ?_
      refine aw_aload_n dX3_sortsOf_84 rfl ?_
      refine aw_dup dX3_sortsOf_85 rfl ?_
      refine aw_getI dX3_sortsOf_86 f3_27 rfl ⟨Nat.le_of_ble_eq_true rfl, Nat.le_of_ble_eq_true rfl⟩ rfl ?_
      refine aw_top ((congrFun (aw_u_ne (show 64 ≠ 69 by decide)) 8).trans ((congrFun (aw_u_ne (show 64 ≠ 68 by decide)) 8).trans hEr2.1)) ?_
      refine aw_iconst (v := 1) dX3_sortsOf_89 rfl ?_
      refine aw_iadd_n (a := zc (fun v => z_fit x u g (aw_u t 2 k v)) i) (b := 1) dX3_sortsOf_90 ?_
      refine aw_putI dX3_sortsOf_91 f3_27 rfl ⟨Nat.le_of_ble_eq_true rfl, Nat.le_of_ble_eq_true rfl⟩ (Or.inl rfl) rfl ?_
      refine aw_iinc_n (ls2 := [_, _, _, _]) dX3_sortsOf_94 rfl (by decide) rfl rfl ?_
      refine aw_goto (tgt := 20) dX3_sortsOf_97 (by decide) ?_
      have e : z_who (fun v => z_fit x u g (aw_u t 2 k v)) (i + 1) = z_who (fun v => z_fit x u g (aw_u t 2 k v)) i + 2 ^ i := by rw [z_who, if_pos c39]
      rw [e] at ih
      rw [zi_or i (by omega) _ (z_who_256 (by omega)) z_who_lt]
      refine ih _ _ _ ⟨fun v => by rw [aw_u_uu]; exact hE v, ((hD2.f (Or.inr (Or.inl rfl))).f (Or.inr (Or.inr (Or.inl rfl)))).f (Or.inr (Or.inr (Or.inr ⟨rfl, by decide⟩))), ?_, fun v hv hf => ?_⟩
      · rw [zc, if_pos c39, aw_u_eq]
      · rw [aw_u_ne (show 68 ≠ 64 by decide), aw_u_ne (show 69 ≠ 64 by decide), aw_u_ne (show 68 ≠ 69 by decide)]
        by_cases hvi : v = i
        · subst hvi; rw [aw_u_eq, aw_u_eq]; exact ⟨rfl, rfl⟩
        · have hl := zc_lt2 (f := (fun v => z_fit x u g (aw_u t 2 k v))) (v := v) (i := i) (by omega) hf
          rw [aw_u_nj (by omega), aw_u_nj (by omega), aw_u_ne (show 69 ≠ 68 by decide)]
          exact hEr2.2 v (by omega) hf
theorem w_strengthsOf (G : aw_G) {n c : Nat} {I I0 : Nat → Nat → Int32} {L : Nat → Nat → Int64} {t u x y g t2 s : Nat → Nat → Nat} (hF : zFx t u x y I0) (hC : zCl g I0) (hD : zDy t2 s I0 I) {k : Nat} (hk : k < t 6 0) : aw_Met G mX3_strengthsOf [.ref 64, .int (nI k)] (zH n I L c) (fun v h2 => v = none ∧ ∃ I2, h2 = zH n I2 L 12 ∧ (∃ t3 s3, zDy t3 s3 I0 I2) ∧ I2 64 10 = nI (zc (fun v => z_fit x u g (aw_u t 3 k v)) 100) ∧ I2 64 11 = nI (zfst (fun v => z_fit x u g (aw_u t 3 k v)) 100) - 1 ∧ I2 64 12 = nI (z_la (fun v => z_fit x u g (aw_u t 3 k v)) 100) - 1) := by
  refine aw_Met.of okX3_strengthsOf (Nat.le_of_ble_eq_true rfl) ?_
  show aw_W G mX3_strengthsOf 0 [.ref 64, .int (nI k), aw_x, aw_x, aw_x, aw_x] [] (zH n I L c) (0, 0) _
  refine aw_aload_n dX3_strengthsOf_0 rfl ?_
  refine aw_getR dX3_strengthsOf_1 f3_47 rfl ⟨Nat.le_of_ble_eq_true rfl, Nat.le_of_ble_eq_true rfl⟩ rfl rfl ?_
  refine aw_aload_n dX3_strengthsOf_4 rfl ?_
  refine aw_getR dX3_strengthsOf_5 f3_43 rfl ⟨Nat.le_of_ble_eq_true rfl, Nat.le_of_ble_eq_true rfl⟩ rfl rfl ?_
  refine aw_V0c (As := [_]) dX3_strengthsOf_8 k3_67 rfl rfl rfl ⟨Nat.le_of_ble_eq_true rfl, Nat.le_of_ble_eq_true rfl⟩ (Nat.le_of_ble_eq_true rfl) ⟨⟨Nat.le_of_ble_eq_true rfl, Nat.le_of_ble_eq_true rfl⟩, ⟨Nat.le_of_ble_eq_true rfl, Nat.le_of_ble_eq_true rfl⟩⟩ ⟨rfl, rfl⟩ (w_become G (I0 := I) (hD.fx hF).1 hF.2.1 (zSx.of hD.1) hD.2.1) (fun v h2 hq => ?_)
  obtain ⟨rfl, I2, rfl, t3, hS, hE, hT3⟩ := hq
  have hD3 : zDy t3 s I0 I2 := hD.sx hS hT3 (hF.h40 hE)
  refine aw_aload_n dX3_strengthsOf_11 rfl ?_
  refine aw_iconst (v := 0) dX3_strengthsOf_12 rfl ?_
  refine aw_putI dX3_strengthsOf_13 f3_34 rfl ⟨Nat.le_of_ble_eq_true rfl, Nat.le_of_ble_eq_true rfl⟩ (Or.inl rfl) rfl ?_
  refine aw_aload_n dX3_strengthsOf_16 rfl ?_
  refine aw_iconst (v := -1) dX3_strengthsOf_17 rfl ?_
  refine aw_putI dX3_strengthsOf_18 f3_37 rfl ⟨Nat.le_of_ble_eq_true rfl, Nat.le_of_ble_eq_true rfl⟩ (Or.inl rfl) rfl ?_
  refine aw_aload_n dX3_strengthsOf_21 rfl ?_
  refine aw_iconst (v := -1) dX3_strengthsOf_22 rfl ?_
  refine aw_putI dX3_strengthsOf_23 f3_40 rfl ⟨Nat.le_of_ble_eq_true rfl, Nat.le_of_ble_eq_true rfl⟩ (Or.inl rfl) rfl ?_
  refine aw_iconst (v := 0) dX3_strengthsOf_26 rfl ?_
  refine aw_istore_n (ls2 := [_, _, _, _, _, _]) dX3_strengthsOf_27 (by decide) rfl rfl ?_
  refine aw_iconst (v := 0) dX3_strengthsOf_28 rfl ?_
  refine aw_istore_n (ls2 := [_, _, _, _, _, _]) dX3_strengthsOf_29 (by decide) rfl rfl ?_
  have h8 := hF.2.1.1
  refine aw_up (X := fun i => ∀ I t2 s v, (∀ v, zTeq (aw_u t 3 k v) (aw_u t2 3 k v)) ∧ zDy t2 s I0 I ∧ (I 64 10 = nI (zc (fun v => z_fit x u g (aw_u t 3 k v)) v) ∧ I 64 11 = nI (zfst (fun v => z_fit x u g (aw_u t 3 k v)) v) - 1 ∧ I 64 12 = nI (z_la (fun v => z_fit x u g (aw_u t 3 k v)) v) - 1) ∧ i ≤ v ∧ v ≤ 100 → aw_W G mX3_strengthsOf 30 [.ref 64, .int (nI k), .int (nI v), .int (nI i), aw_x, aw_x] [] (zH n I L 12) (0, 0) _) (Nat.zero_le 100) (fun I t2 s v hh => ?_) (fun i _ hi ih I t2 s v hh => ?_) _ _ _ 0 ⟨fun v => hE.u (by decide), ((hD3.f (Or.inr (Or.inr (Or.inr ⟨rfl, by decide⟩)))).f (Or.inr (Or.inr (Or.inr ⟨rfl, by decide⟩)))).f (Or.inr (Or.inr (Or.inr ⟨rfl, by decide⟩))), ⟨by rw [aw_u_nj (by decide), aw_u_nj (by decide), aw_u_eq]; rfl, by rw [aw_u_nj (by decide), aw_u_eq]; rfl, by rw [aw_u_eq]; rfl⟩, Nat.le_refl _, Nat.zero_le _⟩
  · obtain ⟨hE, hD, hf, hiv, hv5⟩ := hh
    refine aw_iload_n dX3_strengthsOf_30 rfl ?_
    refine aw_bipush (v := 100) dX3_strengthsOf_31 (by decide) ?_
    refine aw_ic_ge_n (a := 100) (b := 100) (tgt := 129) dX3_strengthsOf_33 (by decide) (by omega) (by omega) (fun c33 => ?_) (fun z => absurd z (by omega))
    refine aw_ret0 dX3_strengthsOf_129 rfl ⟨Nat.le_of_ble_eq_true rfl, Nat.le_of_ble_eq_true rfl⟩ ?_
    obtain rfl : v = 100 := by omega
    exact ⟨rfl, _, rfl, ⟨_, _, hD⟩, hf⟩
  · obtain ⟨hE, hD, hf, hiv, hv5⟩ := hh
    refine aw_iload_n dX3_strengthsOf_30 rfl ?_
    refine aw_bipush (v := 100) dX3_strengthsOf_31 (by decide) ?_
    refine aw_ic_ge_n (a := i) (b := 100) (tgt := 129) dX3_strengthsOf_33 (by decide) (by omega) (by omega) (fun z => absurd z (by omega)) (fun c33 => ?_)
    refine aw_iload_n dX3_strengthsOf_36 rfl ?_
    refine aw_bipush (v := 100) dX3_strengthsOf_37 (by decide) ?_
    refine aw_ic_ge_n (a := v) (b := 100) (tgt := 129) dX3_strengthsOf_39 (by decide) (by omega) (by omega) (fun c39 => ?_) (fun c39 => ?_)
    · refine aw_ret0 dX3_strengthsOf_129 rfl ⟨Nat.le_of_ble_eq_true rfl, Nat.le_of_ble_eq_true rfl⟩ ?_
      obtain rfl : v = 100 := by omega
      exact ⟨rfl, _, rfl, ⟨_, _, hD⟩, hf⟩
    · refine aw_aload_n dX3_strengthsOf_42 rfl ?_
      refine aw_getR dX3_strengthsOf_43 f3_47 rfl ⟨Nat.le_of_ble_eq_true rfl, Nat.le_of_ble_eq_true rfl⟩ rfl rfl ?_
      refine aw_getR dX3_strengthsOf_46 f3_91 rfl ⟨Nat.le_of_ble_eq_true rfl, Nat.le_of_ble_eq_true rfl⟩ rfl rfl ?_
      refine aw_iload_n dX3_strengthsOf_49 rfl ?_
      refine aw_iload_n dX3_strengthsOf_50 rfl ?_
      refine aw_iast_n (j := k) dX3_strengthsOf_51 rfl ⟨Nat.le_of_ble_eq_true rfl, Nat.le_of_ble_eq_true rfl⟩ (by decide) (by omega) ?_
      have hD1 := hD.st (i := 3) (j := k) (v := v) (by decide) (show v < 1000 by omega)
      refine aw_aload_n dX3_strengthsOf_52 rfl ?_
      refine aw_V0c (As := []) dX3_strengthsOf_53 k3_80 rfl rfl rfl ⟨Nat.le_of_ble_eq_true rfl, Nat.le_of_ble_eq_true rfl⟩ (Nat.le_of_ble_eq_true rfl) ⟨⟨Nat.le_of_ble_eq_true rfl, Nat.le_of_ble_eq_true rfl⟩, ⟨Nat.le_of_ble_eq_true rfl, Nat.le_of_ble_eq_true rfl⟩⟩ ⟨rfl, rfl⟩ (w_fitsT G hF hC hD1) (fun v h2 hq => ?_)
      obtain ⟨rfl, I2, rfl, hD2, hfr⟩ := hq
      rw [z_fit_teq (hE _)]
      have hf2 : I2 64 10 = nI (zc (fun v => z_fit x u g (aw_u t 3 k v)) v) ∧ I2 64 11 = nI (zfst (fun v => z_fit x u g (aw_u t 3 k v)) v) - 1 ∧ I2 64 12 = nI (z_la (fun v => z_fit x u g (aw_u t 3 k v)) v) - 1 := by
        rw [hfr 64 (by omega), aw_u_ne (by decide)]; exact hf
      have e6 : aw_u t2 3 k v 6 0 = t 6 0 := by rw [aw_u_ne (by decide)]; have := (hE v).1; rw [aw_u_ne (by decide), aw_u_ne (by decide)] at this; exact this
      have hen := zEnLe (s := s) (u := u) (x := x) hD1.2.1 hF.2.2.2.2.2.2.2.1 hD1.2.2.2.2.1.1 (k := k) (by rw [e6]; exact hk)
      have hgt := zEnGt (s := s) (t := t) (u := u) (x := x) (k := k) (v := v) hk (by omega)
      rw [← p_play_teq (hE v)] at hgt
      obtain ⟨N, hN⟩ : ∃ N, N = if p_play s (aw_u t2 3 k v) u x 8 k < 100 then p_play s (aw_u t2 3 k v) u x 8 k else 100 := ⟨_, rfl⟩
      have hNv : v < N ∧ N ≤ 100 := by rw [hN]; split <;> omega
      have hb := z_block (f := (fun v => z_fit x u g (aw_u t 3 k v))) (v := v) (N - v - 1) (fun w h1 h2 => by
        have h3 := zEnO (s := s) (u := u) hF.2.1 hF.2.2.2.2.2.2 (fun k hk => hF.2.2.1 k (by omega)) hD1.2.2.2.2.1.1 hk h1 (by rw [← p_play_teq (hE v)]; split at hN <;> omega) (by omega)
        show z_fit x u g (aw_u t 3 k w) = z_fit x u g (aw_u t 3 k v)
        unfold z_fit
        refine z_fi_congr (by rw [aw_u_ne (by decide), aw_u_ne (by decide)]) (fun c hh hc => ?_)
        rw [aw_u_ne (by decide)] at hc
        unfold o_sb
        rw [(h3 c hc).2.1, (h3 c hc).2.2])
      rw [show v + (N - v - 1 + 1) = N by omega] at hb
      have hcl : zc (fun v => z_fit x u g (aw_u t 3 k v)) v ≤ v := zc_le0
      have hfl : zfst (fun v => z_fit x u g (aw_u t 3 k v)) v ≤ v := zfst_le
      have hll : z_la (fun v => z_fit x u g (aw_u t 3 k v)) v ≤ v := z_la_le
      refine aw_istore (ls2 := [_, _, _, _, _, _]) dX3_strengthsOf_56 (by decide) rfl rfl ?_
      refine aw_bipush (v := 100) dX3_strengthsOf_58 (by decide) ?_
      refine aw_aload_n dX3_strengthsOf_60 rfl ?_
      refine aw_getR dX3_strengthsOf_61 f3_50 rfl ⟨Nat.le_of_ble_eq_true rfl, Nat.le_of_ble_eq_true rfl⟩ rfl rfl ?_
      refine aw_getR dX3_strengthsOf_64 f3_94 rfl ⟨Nat.le_of_ble_eq_true rfl, Nat.le_of_ble_eq_true rfl⟩ rfl rfl ?_
      refine aw_iload_n dX3_strengthsOf_67 rfl ?_
      refine aw_iald_n (j := k) dX3_strengthsOf_68 rfl (Nat.le_of_ble_eq_true rfl) (by decide) (by omega) ?_
      refine aw_top (show _ = nI (p_play s (aw_u t2 3 k v) u x 8 k) from hD2.2.2.2.1.at 8 k (by decide) (by decide) (by decide) (by omega)) ?_
      refine aw_min dX3_strengthsOf_69 mm3_97 ⟨Nat.le_of_ble_eq_true rfl, Nat.le_of_ble_eq_true rfl⟩ ⟨Nat.le_of_ble_eq_true rfl, Nat.le_of_ble_eq_true rfl⟩ ?_
      refine aw_top ((zi_min (a := 100) (b := p_play s (aw_u t2 3 k v) u x 8 k) (by omega) (by omega)).trans (congrArg nI hN.symm)) ?_
      refine aw_istore (ls2 := [_, _, _, _, _, _]) dX3_strengthsOf_72 (by decide) rfl rfl ?_
      refine aw_iload dX3_strengthsOf_74 rfl ?_
      refine aw_if_eq_B (tgt := 120) dX3_strengthsOf_76 (by decide) (fun c76 => ?_) (fun c76 => ?_)
      · refine aw_iload dX3_strengthsOf_120 rfl ?_
        refine aw_istore_n (ls2 := [_, _, _, _, _, _]) dX3_strengthsOf_122 (by decide) rfl rfl ?_
        refine aw_iinc_n (ls2 := [_, _, _, _, _, _]) dX3_strengthsOf_123 rfl (by decide) rfl rfl ?_
        refine aw_goto (tgt := 30) dX3_strengthsOf_126 (by decide) ?_
        refine aw_kill (j := 4) (ls2 := [_, _, _, _, aw_x, _]) rfl (aw_kill (j := 5) (ls2 := [_, _, _, _, _, aw_x]) rfl ?_)
        rw [if_neg c76, if_neg c76, if_neg c76, Nat.add_zero] at hb
        refine ih _ _ _ N ⟨fun w => by rw [aw_u_uu]; exact hE w, hD2, ⟨by rw [hb.1]; exact hf2.1, ?_, by rw [hb.2.2]; exact hf2.2.2⟩, by omega, hNv.2⟩
        rw [hb.2.1]
        by_cases hz : zfst (fun v => z_fit x u g (aw_u t 3 k v)) v ≠ 0
        · rw [if_pos hz]; exact hf2.2.1
        · rw [if_neg hz, show (0 : Nat) = zfst (fun v => z_fit x u g (aw_u t 3 k v)) v by omega]; exact hf2.2.1
      · refine aw_aload_n dX3_strengthsOf_79 rfl ?_
        refine aw_aload_n dX3_strengthsOf_80 rfl ?_
        refine aw_getI dX3_strengthsOf_81 f3_37 rfl ⟨Nat.le_of_ble_eq_true rfl, Nat.le_of_ble_eq_true rfl⟩ rfl ?_
        refine aw_top hf2.2.1 ?_
        refine aw_iconst (v := -1) dX3_strengthsOf_84 rfl ?_
        refine aw_ic_ne_p (a := zfst (fun v => z_fit x u g (aw_u t 3 k v)) v) (b := 0) (tgt := 92) dX3_strengthsOf_85 (by decide) (by omega) (by omega) (fun c85 => ?_) (fun c85 => ?_)
        · refine aw_aload_n dX3_strengthsOf_92 rfl ?_
          refine aw_getI dX3_strengthsOf_93 f3_37 rfl ⟨Nat.le_of_ble_eq_true rfl, Nat.le_of_ble_eq_true rfl⟩ rfl ?_
          refine aw_top hf2.2.1 ?_
          refine aw_putI dX3_strengthsOf_96 f3_37 rfl ⟨Nat.le_of_ble_eq_true rfl, Nat.le_of_ble_eq_true rfl⟩ (Or.inl rfl) rfl ?_
          refine aw_aload_n dX3_strengthsOf_99 rfl ?_
          refine aw_iload dX3_strengthsOf_100 rfl ?_
          refine aw_iconst (v := 1) dX3_strengthsOf_102 rfl ?_
          refine aw_isub dX3_strengthsOf_103 ?_
          refine aw_putI dX3_strengthsOf_104 f3_40 rfl ⟨Nat.le_of_ble_eq_true rfl, Nat.le_of_ble_eq_true rfl⟩ (Or.inl rfl) rfl ?_
          refine aw_aload_n dX3_strengthsOf_107 rfl ?_
          refine aw_dup dX3_strengthsOf_108 rfl ?_
          refine aw_getI dX3_strengthsOf_109 f3_34 rfl ⟨Nat.le_of_ble_eq_true rfl, Nat.le_of_ble_eq_true rfl⟩ rfl ?_
          refine aw_top ((aw_u_nj (by decide)).trans ((aw_u_nj (by decide)).trans hf2.1)) ?_
          refine aw_iload dX3_strengthsOf_112 rfl ?_
          refine aw_iload_n dX3_strengthsOf_114 rfl ?_
          refine aw_isub_n (a := N) (b := v) dX3_strengthsOf_115 (by omega) ?_
          refine aw_iadd_n (a := zc (fun v => z_fit x u g (aw_u t 3 k v)) v) (b := N - v) dX3_strengthsOf_116 ?_
          refine aw_putI dX3_strengthsOf_117 f3_34 rfl ⟨Nat.le_of_ble_eq_true rfl, Nat.le_of_ble_eq_true rfl⟩ (Or.inl rfl) rfl ?_
          refine aw_iload dX3_strengthsOf_120 rfl ?_
          refine aw_istore_n (ls2 := [_, _, _, _, _, _]) dX3_strengthsOf_122 (by decide) rfl rfl ?_
          refine aw_iinc_n (ls2 := [_, _, _, _, _, _]) dX3_strengthsOf_123 rfl (by decide) rfl rfl ?_
          refine aw_goto (tgt := 30) dX3_strengthsOf_126 (by decide) ?_
          refine aw_kill (j := 4) (ls2 := [_, _, _, _, aw_x, _]) rfl (aw_kill (j := 5) (ls2 := [_, _, _, _, _, aw_x]) rfl ?_)
          rw [if_pos c76, if_pos c76, if_pos c76] at hb
          refine ih _ _ _ N ⟨fun w => by rw [aw_u_uu]; exact hE w, ((hD2.f (Or.inr (Or.inr (Or.inr ⟨rfl, by decide⟩)))).f (Or.inr (Or.inr (Or.inr ⟨rfl, by decide⟩)))).f (Or.inr (Or.inr (Or.inr ⟨rfl, by decide⟩))), ⟨?_, ?_, ?_⟩, by omega, hNv.2⟩
          · rw [aw_u_eq, hb.1]; congr 1; omega
          · rw [aw_u_nj (by decide), aw_u_nj (by decide), aw_u_eq, hb.2.1, if_pos c85]
          · rw [aw_u_nj (by decide), aw_u_eq, hb.2.2]
        · refine aw_iload_n dX3_strengthsOf_88 rfl ?_
          refine aw_goto (tgt := 96) dX3_strengthsOf_89 (by decide) ?_
          refine aw_putI dX3_strengthsOf_96 f3_37 rfl ⟨Nat.le_of_ble_eq_true rfl, Nat.le_of_ble_eq_true rfl⟩ (Or.inl rfl) rfl ?_
          refine aw_aload_n dX3_strengthsOf_99 rfl ?_
          refine aw_iload dX3_strengthsOf_100 rfl ?_
          refine aw_iconst (v := 1) dX3_strengthsOf_102 rfl ?_
          refine aw_isub dX3_strengthsOf_103 ?_
          refine aw_putI dX3_strengthsOf_104 f3_40 rfl ⟨Nat.le_of_ble_eq_true rfl, Nat.le_of_ble_eq_true rfl⟩ (Or.inl rfl) rfl ?_
          refine aw_aload_n dX3_strengthsOf_107 rfl ?_
          refine aw_dup dX3_strengthsOf_108 rfl ?_
          refine aw_getI dX3_strengthsOf_109 f3_34 rfl ⟨Nat.le_of_ble_eq_true rfl, Nat.le_of_ble_eq_true rfl⟩ rfl ?_
          refine aw_top ((aw_u_nj (by decide)).trans ((aw_u_nj (by decide)).trans hf2.1)) ?_
          refine aw_iload dX3_strengthsOf_112 rfl ?_
          refine aw_iload_n dX3_strengthsOf_114 rfl ?_
          refine aw_isub_n (a := N) (b := v) dX3_strengthsOf_115 (by omega) ?_
          refine aw_iadd_n (a := zc (fun v => z_fit x u g (aw_u t 3 k v)) v) (b := N - v) dX3_strengthsOf_116 ?_
          refine aw_putI dX3_strengthsOf_117 f3_34 rfl ⟨Nat.le_of_ble_eq_true rfl, Nat.le_of_ble_eq_true rfl⟩ (Or.inl rfl) rfl ?_
          refine aw_iload dX3_strengthsOf_120 rfl ?_
          refine aw_istore_n (ls2 := [_, _, _, _, _, _]) dX3_strengthsOf_122 (by decide) rfl rfl ?_
          refine aw_iinc_n (ls2 := [_, _, _, _, _, _]) dX3_strengthsOf_123 rfl (by decide) rfl rfl ?_
          refine aw_goto (tgt := 30) dX3_strengthsOf_126 (by decide) ?_
          refine aw_kill (j := 4) (ls2 := [_, _, _, _, aw_x, _]) rfl (aw_kill (j := 5) (ls2 := [_, _, _, _, _, aw_x]) rfl ?_)
          rw [if_pos c76, if_pos c76, if_pos c76] at hb
          refine ih _ _ _ N ⟨fun w => by rw [aw_u_uu]; exact hE w, ((hD2.f (Or.inr (Or.inr (Or.inr ⟨rfl, by decide⟩)))).f (Or.inr (Or.inr (Or.inr ⟨rfl, by decide⟩)))).f (Or.inr (Or.inr (Or.inr ⟨rfl, by decide⟩))), ⟨?_, ?_, ?_⟩, by omega, hNv.2⟩
          · rw [aw_u_eq, hb.1]; congr 1; omega
          · rw [aw_u_nj (by decide), aw_u_nj (by decide), aw_u_eq, hb.2.1, if_neg (fun z => z c85), nI_pred]
          · rw [aw_u_nj (by decide), aw_u_eq, hb.2.2]
