/-! THE TRIALS of the class -/
def zGo (x y : Nat → Nat → Nat) : Prop := zXY x y ∧ zXok x ∧ zYok y
def o_st (x u t : Nat → Nat → Nat) (k : Nat) : Nat := p_play z0 t u x 6 k
def o_en (x u t : Nat → Nat → Nat) (k : Nat) : Nat := p_play z0 t u x 7 k
def o_pl (x u t : Nat → Nat → Nat) (k : Nat) : Nat := p_play z0 t u x 5 k
/-- where a carter stays behind an hour, one higher -/
def z_sb (e p h : Nat) : Nat := if e ≠ 0 ∧ e ≤ h + 1 then p + 1 else 0
def o_sb (x u t : Nat → Nat → Nat) (k h : Nat) : Nat := z_sb (o_en x u t k) (o_pl x u t k) h
def o_who (x u t : Nat → Nat → Nat) (a : Nat) : Nat := z_who (fun k => o_st x u t k == a) (t 6 0)
def o_cm (x u t : Nat → Nat → Nat) : Nat := z_ones (o_who x u t 2)
theorem zCan {s t u x y : Nat → Nat → Nat} (hT : zTok t) (hG : zGo x y) (hO : zOld s 8) (h40 : ∀ k, k < t 6 0 → t 5 k < 40) {k : Nat} (hk : k < t 6 0) :
    p_play s t u x 6 k = o_st x u t k ∧ p_play s t u x 7 k = o_en x u t k ∧ p_play s t u x 5 k = o_pl x u t k := by
  have h1 := (zRuns (u := u) (m := z0) hT hG.1 hG.2.1 hG.2.2 hO z0_mo.1).1.1 k hk
  have h2 := (zRuns (u := u) (m := z0) hT hG.1 hG.2.1 hG.2.2 z0_old z0_mo.1).1.1 k hk
  have h4 := h40 k hk
  unfold o_st o_en o_pl
  rcases h1 with ⟨a1, a2, a3, a4, a5, -⟩ | ⟨b1, b2, b3, b4, b5, b6, b7, b8, b9, -⟩
  · rcases h2 with ⟨c1, c2, c3, c4, c5, -⟩ | ⟨d1, d2, d3, d4, d5, -⟩
    · exact ⟨by rw [← a5, ← c5], by rw [← a3, ← c3], by omega⟩
    · omega
  · rcases h2 with ⟨c1, c2, c3, c4, c5, -⟩ | ⟨d1, d2, d3, d4, d5, d6, d7, d8, d9, -⟩
    · omega
    · exact ⟨by rw [b8, d8], by rw [b1, d1], by omega⟩
theorem o_st_le {t u x y : Nat → Nat → Nat} (hT : zTok t) (hG : zGo x y) {k : Nat} (hk : k < t 6 0) : o_st x u t k ≤ 5 := ((zBd (m := z0) (u := u) hT hG.1 hG.2.1 hG.2.2 z0_old).2 k hk).1
theorem o_teq {t t2 u x : Nat → Nat → Nat} (h : zTeq t t2) : o_st x u t2 = o_st x u t ∧ o_en x u t2 = o_en x u t ∧ o_pl x u t2 = o_pl x u t := by
  unfold o_st o_en o_pl
  rw [p_play_teq h]
  exact ⟨rfl, rfl, rfl⟩
theorem o_cm_teq {t t2 u x : Nat → Nat → Nat} (h : zTeq t t2) : o_cm x u t2 = o_cm x u t := by
  unfold o_cm o_who
  rw [(o_teq h).1, h.1]
theorem o_cm_le {t u x : Nat → Nat → Nat} : o_cm x u t ≤ 8 := z_ones_le _
theorem aw_u_uu {α : Type} {F : Nat → Nat → α} {o j : Nat} {x y : α} : aw_u (aw_u F o j x) o j y = aw_u F o j y := by
  funext a b
  by_cases ha : a = o
  · subst ha
    by_cases hb : b = j
    · subst hb; rw [aw_u_eq, aw_u_eq]
    · rw [aw_u_nj hb, aw_u_nj hb, aw_u_nj hb]
  · rw [aw_u_ne ha, aw_u_ne ha, aw_u_ne ha]
/-- what stays: all but the trial's objects; of the clues all that was seen -/
def zFt (I0 I : Nat → Nat → Int32) : Prop := (∀ o, (o < 37 ∨ 71 < o) → I o = I0 o) ∧ I 65 = I0 65 ∧ I 66 = I0 66 ∧ I 67 = I0 67 ∧ I 64 9 = I0 64 9
theorem zFt.rfl (I : Nat → Nat → Int32) : zFt I I := ⟨fun _ _ => Eq.refl _, Eq.refl _, Eq.refl _, Eq.refl _, Eq.refl _⟩
theorem zFt.trans {I0 I1 I2 : Nat → Nat → Int32} (h : zFt I0 I1) (g : zFt I1 I2) : zFt I0 I2 :=
  ⟨fun o ho => (g.1 o ho).trans (h.1 o ho), g.2.1.trans h.2.1, g.2.2.1.trans h.2.2.1, g.2.2.2.1.trans h.2.2.2.1, g.2.2.2.2.trans h.2.2.2.2⟩
def zDy (t2 s : Nat → Nat → Nat) (I0 I : Nat → Nat → Int32) : Prop := zSet t2 37 38 I ∧ zTok t2 ∧ (∀ k, k < t2 6 0 → t2 5 k < 40) ∧ zRun s 44 I I ∧ zOk s ∧ zFt I0 I
theorem zRun.re {s : Nat → Nat → Nat} {r : Nat} {I0 I : Nat → Nat → Int32} (h : zRun s r I0 I) : zRun s r I I := ⟨h.1, fun _ _ => rfl⟩
theorem zRun.mv2 {s : Nat → Nat → Nat} {r : Nat} {I0 I I2 : Nat → Nat → Int32} (h : zRun s r I0 I) (h2 : ∀ i, i < 15 → I2 (r + i) = I (r + i)) : zRun s r I2 I2 := ⟨fun i j hi h9 h0 hj => by rw [h2 i hi]; exact h.1 i j hi h9 h0 hj, fun _ _ => rfl⟩
theorem zDy.st {t2 s : Nat → Nat → Nat} {I0 I : Nat → Nat → Int32} {i j v : Nat} (h : zDy t2 s I0 I) (hi : i < 6) (hv : v < [8, 8, 3, 1000, 1000, 40].getD i 0) : zDy (aw_u t2 i j v) s I0 (aw_u I (38 + i) j (nI v)) := by
  obtain ⟨h1, h2, h3, h4, h5, h6⟩ := h
  have hs : zSx (aw_u t2 i j v) 37 38 I (aw_u I (38 + i) j (nI v)) := zSx.u (I0 := I) ⟨h1, fun _ _ _ => rfl⟩ hi (by decide)
  refine ⟨hs.1, h2.u hi ?_, fun k hk => ?_, h4.mv2 (fun a ha => by rw [aw_u_ne (by omega)]), h5, h6.trans ⟨fun o ho => by rw [aw_u_ne (by omega)], by rw [aw_u_ne (by omega)], by rw [aw_u_ne (by omega)], by rw [aw_u_ne (by omega)], by rw [aw_u_ne (by omega)]⟩⟩
  · have h' : i = 0 ∨ i = 1 ∨ i = 2 ∨ i = 3 ∨ i = 4 ∨ i = 5 := by omega
    rcases h' with rfl | rfl | rfl | rfl | rfl | rfl <;> first | exact hv | (have hv : v < 40 := hv; show v < 100; omega)
  · rw [aw_u_ne (show 6 ≠ i by omega)] at hk
    by_cases hi5 : 5 = i
    · subst hi5
      by_cases hkj : k = j
      · subst hkj; rw [aw_u_eq]; exact hv
      · rw [aw_u_nj hkj]; exact h3 k hk
    · rw [aw_u_ne hi5]; exact h3 k hk
theorem zDy.w {t2 s : Nat → Nat → Nat} {I0 I : Nat → Nat → Int32} {v : Nat} (h : zDy t2 s I0 I) (hv : v < 100000) : zDy (aw_u t2 6 1 v) s I0 (aw_u I 37 9 (nI v)) := by
  obtain ⟨h1, h2, h3, h4, h5, h6⟩ := h
  have hs : zSx (aw_u t2 6 1 v) 37 38 I (aw_u I 37 9 (nI v)) := zSx.u9 (I0 := I) ⟨h1, fun _ _ _ => rfl⟩ (by decide)
  refine ⟨hs.1, ⟨by rw [aw_u_nj (by decide)]; exact h2.1, by rw [aw_u_eq]; exact hv, fun c hc => ?_⟩, fun k hk => by rw [aw_u_nj (by decide)] at hk; rw [aw_u_ne (by decide)]; exact h3 k hk, h4.mv2 (fun a ha => by rw [aw_u_ne (by omega)]), h5, h6.trans ⟨fun o ho => by rw [aw_u_ne (by omega)], by rw [aw_u_ne (by decide)], by rw [aw_u_ne (by decide)], by rw [aw_u_ne (by decide)], by rw [aw_u_ne (by decide)]⟩⟩
  simp only [aw_u_ne (show 0 ≠ 6 by decide), aw_u_ne (show 1 ≠ 6 by decide), aw_u_ne (show 2 ≠ 6 by decide), aw_u_ne (show 3 ≠ 6 by decide), aw_u_ne (show 4 ≠ 6 by decide), aw_u_ne (show 5 ≠ 6 by decide)]
  exact h2.2.2 c hc
theorem zDy.f {t2 s : Nat → Nat → Nat} {I0 I : Nat → Nat → Int32} {a j : Nat} {x : Int32} (h : zDy t2 s I0 I) (ha : a = 59 ∨ a = 68 ∨ a = 69 ∨ (a = 64 ∧ j ≠ 9)) : zDy t2 s I0 (aw_u I a j x) := by
  obtain ⟨h1, h2, h3, h4, h5, h6⟩ := h
  refine ⟨⟨fun p q hp hq => by rw [aw_u_ne (by omega)]; exact h1.1 p q hp hq, by rw [aw_u_ne (by omega)]; exact h1.2.1, by rw [aw_u_ne (by omega)]; exact h1.2.2⟩, h2, h3, h4.mv2 (fun b hb => by rw [aw_u_ne (by omega)]), h5, h6.trans ⟨fun o ho => by rw [aw_u_ne (by omega)], by rw [aw_u_ne (by omega)], by rw [aw_u_ne (by omega)], by rw [aw_u_ne (by omega)], ?_⟩⟩
  by_cases h64 : 64 = a
  · subst h64; rw [aw_u_nj (by omega)]
  · rw [aw_u_ne h64]
theorem zDy.sx {t2 t3 s : Nat → Nat → Nat} {I0 I I2 : Nat → Nat → Int32} (h : zDy t2 s I0 I) (hS : zSx t3 37 38 I I2) (hT : zTok t3) (h40 : ∀ k, k < t3 6 0 → t3 5 k < 40) : zDy t3 s I0 I2 := by
  obtain ⟨h1, h2, h3, h4, h5, h6⟩ := h
  exact ⟨hS.1, hT, h40, h4.mv2 (fun b hb => hS.2 _ (by omega) (by omega)), h5, h6.trans ⟨fun o ho => hS.2 o (by omega) (by omega), hS.2 _ (by decide) (by decide), hS.2 _ (by decide) (by decide), hS.2 _ (by decide) (by decide), by rw [hS.2 64 (by decide) (by decide)]⟩⟩
/-- a setting, answers and chart that stay -/
def zFx (t u x y : Nat → Nat → Nat) (I : Nat → Nat → Int32) : Prop := zSet t 11 16 I ∧ zTok t ∧ (∀ k, k < 8 → t 5 k < 40) ∧ zAn u I ∧ zUok u ∧ zCh x 12 I ∧ zGo x y
theorem zFx.mv {t u x y : Nat → Nat → Nat} {I I2 : Nat → Nat → Int32} (h : zFx t u x y I) (hF : ∀ o, o < 22 → I2 o = I o) : zFx t u x y I2 := by
  obtain ⟨h1, h2, h3, h4, h5, h6, h7⟩ := h
  refine ⟨⟨fun p q hp hq => by rw [hF _ (by omega)]; exact h1.1 p q hp hq, by rw [hF _ (by omega)]; exact h1.2.1, by rw [hF _ (by omega)]; exact h1.2.2⟩, h2, h3, ⟨by rw [hF _ (by omega)]; exact h4.1, fun a ha => by rw [hF _ (by omega), hF _ (by omega)]; exact h4.2 a ha⟩, h5, fun j hj => by rw [hF _ (by omega), hF _ (by omega), hF _ (by omega)]; exact h6 j hj, h7⟩
theorem zDy.fx {t u x y t2 s : Nat → Nat → Nat} {I0 I : Nat → Nat → Int32} (h : zDy t2 s I0 I) (hF : zFx t u x y I0) : zFx t u x y I := hF.mv (fun o ho => h.2.2.2.2.2.1 o (by omega))
theorem zDy.play {t u x y t2 s : Nat → Nat → Nat} {I0 I I2 : Nat → Nat → Int32} (h : zDy t2 s I0 I) (hG : zGo x y) (hR : zRun (p_play s t2 u x) 44 I I2) : zDy t2 (p_play s t2 u x) I0 I2 := by
  obtain ⟨h1, h2, h3, h4, h5, h6⟩ := h
  exact ⟨h1.mv hR (by decide) (by decide), h2, h3, hR.re, p_play_ok (m := z0) h2 hG.1 hG.2.1 hG.2.2 h5, h6.trans ⟨fun o ho => hR.2 o (by omega), hR.2 _ (by decide), hR.2 _ (by decide), hR.2 _ (by decide), by rw [hR.2 64 (by decide)]⟩⟩
theorem zSx.of {t : Nat → Nat → Nat} {s a : Nat} {I : Nat → Nat → Int32} (h : zSet t s a I) : zSx t s a I I := ⟨h, fun _ _ _ => rfl⟩
/-- a plan's answer: best, partner, and most, one higher -/
def zPl (b p : Int32) (m : Nat) (I : Nat → Nat → Int32) : Prop := I 59 4 = b ∧ I 59 5 = p ∧ I 59 6 = nI m - 1
theorem zPl.mv {b p : Int32} {m : Nat} {I I2 : Nat → Nat → Int32} (h : zPl b p m I) (e : I2 59 = I 59) : zPl b p m I2 := by unfold zPl at *; rw [e]; exact h
theorem zFx.h40 {t u x y t3 : Nat → Nat → Nat} {I : Nat → Nat → Int32} (hF : zFx t u x y I) (hE : zTeq t t3) : ∀ k, k < t3 6 0 → t3 5 k < 40 := fun k hk => by
  rw [hE.1] at hk
  rw [hE.2.2 5 k (by decide) hk]
  exact hF.2.2.1 k (by have := hF.2.1.1; omega)
def z_best (f : Nat → Nat) : Nat → Nat × Nat
  | 0 => (0, 0)
  | i + 1 => if (z_best f i).2 < f i + 1 then (i + 1, f i + 1) else z_best f i
theorem z_best_le {f : Nat → Nat} {i B : Nat} (h : ∀ j, j < i → f j ≤ B) : (z_best f i).2 ≤ B + 1 ∧ (z_best f i).1 ≤ i := by
  induction i with
  | zero => exact ⟨Nat.zero_le _, Nat.zero_le _⟩
  | succ i ih =>
    have h1 := ih (fun j hj => h j (by omega))
    have h2 := h i (by omega)
    rw [z_best]
    split
    · exact ⟨by show f i + 1 ≤ _; omega, Nat.le_refl _⟩
    · exact ⟨h1.1, by omega⟩
theorem z_best_congr {f g : Nat → Nat} {i : Nat} (h : ∀ j, j < i → f j = g j) : z_best f i = z_best g i := by
  induction i with
  | zero => rfl
  | succ i ih => rw [z_best, z_best, ih (fun j hj => h j (by omega)), h i (by omega)]
def z_ld (f : Nat → Nat → Nat) (n : Nat) : Nat → Nat × Nat
  | 0 => (0, 0)
  | c + 1 => if (c / 8 < c % 8 ∧ c % 8 < n) ∧ (z_ld f n c).2 < f (c / 8) (c % 8) + 1 then (c + 1, f (c / 8) (c % 8) + 1) else z_ld f n c
theorem z_ld_le {f : Nat → Nat → Nat} {n i : Nat} (h : ∀ a b, f a b ≤ 8) : (z_ld f n i).2 ≤ 9 ∧ (z_ld f n i).1 ≤ i := by
  induction i with
  | zero => exact ⟨Nat.zero_le _, Nat.zero_le _⟩
  | succ i ih =>
    have h2 := h (i / 8) (i % 8)
    rw [z_ld]
    split
    · exact ⟨by show f (i / 8) (i % 8) + 1 ≤ _; omega, Nat.le_refl _⟩
    · exact ⟨ih.1, by omega⟩
theorem z_ld_skip {f : Nat → Nat → Nat} {n i : Nat} (d : Nat) (h : ∀ c, i ≤ c → c < i + d → ¬ (c / 8 < c % 8 ∧ c % 8 < n)) : z_ld f n (i + d) = z_ld f n i := by
  induction d with
  | zero => rfl
  | succ d ih => rw [← Nat.add_assoc, z_ld, if_neg (fun z => h (i + d) (by omega) (by omega) z.1)]; exact ih (fun c h1 h2 => h c h1 (by omega))
def z_ba (z : Nat) : Int32 := if z = 0 then -1 else nI ((z - 1) / 8)
def z_bb (z : Nat) : Int32 := if z = 0 then -1 else nI ((z - 1) % 8)
theorem t_swap2 {t : Nat → Nat → Nat} {a b : Nat} (h : a ≠ b) : t_swap (t_swap t a b) a b = t := by
  funext i j
  unfold t_swap
  by_cases h2 : i = 2
  · subst h2
    by_cases ha : j = a
    · subst ha; simp [aw_u, va_up, h, Ne.symm h]
    · by_cases hb : j = b
      · subst hb; simp [aw_u, va_up, h, Ne.symm h]
      · simp [aw_u, va_up, ha, hb]
  · by_cases h3 : i = 3
    · subst h3
      by_cases ha : j = a
      · subst ha; simp [aw_u, va_up, h, Ne.symm h]
      · by_cases hb : j = b
        · subst hb; simp [aw_u, va_up, h, Ne.symm h]
        · simp [aw_u, va_up, ha, hb]
    · simp [aw_u, va_up, h2, h3]
theorem t_swap_ok {t : Nat → Nat → Nat} {a b : Nat} (hT : zTok t) (ha : a < 8) (hb : b < 8) : zTok (t_swap t a b) := by
  unfold t_swap
  have h1 := hT.2.2 a ha
  have h2 := hT.2.2 b hb
  refine (((hT.u (by decide) ?_).u (by decide) ?_).u (by decide) ?_).u (by decide) ?_
  · exact h2.2.2.1
  · exact h2.2.2.2.1
  · exact h1.2.2.1
  · exact h1.2.2.2.1
theorem t_swap_row {t : Nat → Nat → Nat} {a b i : Nat} (h2 : i ≠ 2) (h3 : i ≠ 3) : t_swap t a b i = t i := by
  unfold t_swap
  rw [aw_u_ne h3, aw_u_ne h2, aw_u_ne h3, aw_u_ne h2]
theorem z_best_S {f : Nat → Nat} {i : Nat} {b p : Int32} {m : Nat} {I : Nat → Nat → Int32} (h : if (z_best f i).2 < f i + 1 then zPl (nI i) (-1) (f i + 1) I else zPl (nI (z_best f i).1 - 1) (-1) (z_best f i).2 I) : zPl (nI (z_best f (i + 1)).1 - 1) (-1) (z_best f (i + 1)).2 I := by
  rw [z_best]
  split
  · rename_i hc
    rw [if_pos hc] at h
    show zPl (nI (i + 1) - 1) (-1) (f i + 1) I
    rw [nI_pred]; exact h
  · rename_i hc
    rw [if_neg hc] at h; exact h
theorem w_pBegin (G : aw_G) {n c : Nat} {I I0 : Nat → Nat → Int32} {L : Nat → Nat → Int64} {t u x y t2 s : Nat → Nat → Nat} (hF : zFx t u x y I0) (hD : zDy t2 s I0 I) : aw_Met G mX5_begin [.ref 59] (zH n I L c) (fun v h2 => v = none ∧ ∃ I2 t3, h2 = zH n I2 L 12 ∧ zDy t3 s I0 I2 ∧ zTeq t t3 ∧ zPl (-1) (-1) 0 I2) := by
  refine aw_Met.of okX5_begin (Nat.le_of_ble_eq_true rfl) ?_
  show aw_W G mX5_begin 0 [.ref 59] [] (zH n I L c) (0, 0) _
  refine aw_aload_n dX5_begin_0 rfl ?_
  refine aw_getR dX5_begin_1 f5_32 rfl ⟨Nat.le_of_ble_eq_true rfl, Nat.le_of_ble_eq_true rfl⟩ rfl rfl ?_
  refine aw_aload_n dX5_begin_4 rfl ?_
  refine aw_getR dX5_begin_5 f5_28 rfl ⟨Nat.le_of_ble_eq_true rfl, Nat.le_of_ble_eq_true rfl⟩ rfl rfl ?_
  refine aw_V0c (As := [_]) dX5_begin_8 k5_39 rfl rfl rfl ⟨Nat.le_of_ble_eq_true rfl, Nat.le_of_ble_eq_true rfl⟩ (Nat.le_of_ble_eq_true rfl) ⟨⟨Nat.le_of_ble_eq_true rfl, Nat.le_of_ble_eq_true rfl⟩, ⟨Nat.le_of_ble_eq_true rfl, Nat.le_of_ble_eq_true rfl⟩⟩ ⟨rfl, rfl⟩ (w_become G (I0 := I) (hD.fx hF).1 hF.2.1 (zSx.of hD.1) hD.2.1) (fun v h2 hq => ?_)
  obtain ⟨rfl, I2, rfl, t3, hS, hE, hT3⟩ := hq
  have hD3 : zDy t3 s I0 I2 := hD.sx hS hT3 (hF.h40 hE)
  refine aw_aload_n dX5_begin_11 rfl ?_
  refine aw_iconst (v := -1) dX5_begin_12 rfl ?_
  refine aw_putI dX5_begin_13 f5_18 rfl ⟨Nat.le_of_ble_eq_true rfl, Nat.le_of_ble_eq_true rfl⟩ (Or.inl rfl) rfl ?_
  refine aw_aload_n dX5_begin_16 rfl ?_
  refine aw_iconst (v := -1) dX5_begin_17 rfl ?_
  refine aw_putI dX5_begin_18 f5_22 rfl ⟨Nat.le_of_ble_eq_true rfl, Nat.le_of_ble_eq_true rfl⟩ (Or.inl rfl) rfl ?_
  refine aw_aload_n dX5_begin_21 rfl ?_
  refine aw_iconst (v := -1) dX5_begin_22 rfl ?_
  refine aw_putI dX5_begin_23 f5_25 rfl ⟨Nat.le_of_ble_eq_true rfl, Nat.le_of_ble_eq_true rfl⟩ (Or.inl rfl) rfl ?_
  refine aw_ret0 dX5_begin_26 rfl ⟨Nat.le_of_ble_eq_true rfl, Nat.le_of_ble_eq_true rfl⟩ ?_
  exact ⟨rfl, _, t3, rfl, ((hD3.f (Or.inl rfl)).f (Or.inl rfl)).f (Or.inl rfl), hE, by rw [aw_u_nj (by decide), aw_u_nj (by decide), aw_u_eq], by rw [aw_u_nj (by decide), aw_u_eq], by rw [aw_u_eq]; rfl⟩
theorem w_pWeighB (G : aw_G) {n : Nat} {I I0 : Nat → Nat → Int32} {L : Nat → Nat → Int64} {t u x y t2 s : Nat → Nat → Nat} {x2 y2 : Nat → Nat → Nat} {b p po : Int32} {m f : Nat} (hF : zFx t u x y I0) (hD : zDy t2 s I0 I) (hX2 : zCh x2 12 I) (hG2 : zGo x2 y2) (hP : zPl b p m I) (hm : m ≤ 9) : aw_Met G mX5_weigh [.ref 59, .int (nI f), .int po] (zH n I L 12) (fun v h2 => v = none ∧ ∃ I2, h2 = zH n I2 L 12 ∧ zDy t2 (p_play s t2 u x2) I0 I2 ∧ (if m < o_cm x2 u t2 + 1 then zPl (nI f) po (o_cm x2 u t2 + 1) I2 else zPl b p m I2) ∧ ∀ o, (o < 44 ∨ 59 < o) → I2 o = I o) := by
  refine aw_Met.of okX5_weigh (Nat.le_of_ble_eq_true rfl) ?_
  show aw_W G mX5_weigh 0 [.ref 59, .int (nI f), .int po, aw_x] [] (zH n I L 12) (0, 0) _
  refine aw_aload_n dX5_weigh_0 rfl ?_
  refine aw_getR dX5_weigh_1 f5_35 rfl ⟨Nat.le_of_ble_eq_true rfl, Nat.le_of_ble_eq_true rfl⟩ rfl rfl ?_
  refine aw_aload_n dX5_weigh_4 rfl ?_
  refine aw_getR dX5_weigh_5 f5_32 rfl ⟨Nat.le_of_ble_eq_true rfl, Nat.le_of_ble_eq_true rfl⟩ rfl rfl ?_
  refine aw_V0c (As := [_]) dX5_weigh_8 k5_49 rfl rfl rfl ⟨Nat.le_of_ble_eq_true rfl, Nat.le_of_ble_eq_true rfl⟩ (Nat.le_of_ble_eq_true rfl) ⟨⟨Nat.le_of_ble_eq_true rfl, Nat.le_of_ble_eq_true rfl⟩, ⟨Nat.le_of_ble_eq_true rfl, Nat.le_of_ble_eq_true rfl⟩⟩ ⟨rfl, rfl⟩ (w_playB G hD.2.2.2.1 hD.1 hX2 (hD.fx hF).2.2.2.1 hD.2.1 hG2.2.1 hF.2.2.2.2.1 hD.2.2.2.2.1.1) (fun v h2 hq => ?_)
  obtain ⟨rfl, I2, rfl, hR2⟩ := hq
  have hD2 := hD.play (t := t) hG2 hR2
  have hP2 := hP.mv (hR2.2 59 (by decide))
  have hbd := zBd (m := z0) (u := u) hD.2.1 hG2.1 hG2.2.1 hG2.2.2 hD.2.2.2.2.1.1
  have hS0 : p_play s t2 u x2 0 0 = t2 6 0 := hbd.1.1
  have hcm : z_ones (z_who (fun k => p_play s t2 u x2 6 k == 2) (p_play s t2 u x2 0 0)) = o_cm x2 u t2 := by
    rw [hS0]; unfold o_cm o_who
    rw [z_who_congr (fun j hj => by rw [(zCan (u := u) hD.2.1 hG2 hD.2.2.2.2.1.1 hD.2.2.1 hj).1])]
  have hcl := o_cm_le (t := t2) (u := u) (x := x2)
  have h8 := hD.2.1.1
  refine aw_aload_n dX5_weigh_11 rfl ?_
  refine aw_getR dX5_weigh_12 f5_35 rfl ⟨Nat.le_of_ble_eq_true rfl, Nat.le_of_ble_eq_true rfl⟩ rfl rfl ?_
  refine aw_iconst (v := 2) dX5_weigh_15 rfl ?_
  refine aw_V0c (As := [_]) dX5_weigh_16 k5_88 rfl rfl rfl ⟨Nat.le_of_ble_eq_true rfl, Nat.le_of_ble_eq_true rfl⟩ (Nat.le_of_ble_eq_true rfl) ⟨⟨Nat.le_of_ble_eq_true rfl, Nat.le_of_ble_eq_true rfl⟩, ⟨Nat.le_of_ble_eq_true rfl, Nat.le_of_ble_eq_true rfl⟩⟩ ⟨rfl, rfl⟩ (w_howMany44 G (a := 2) hR2 (by decide) (by rw [hS0]; exact h8) (fun k hk => by rw [hS0] at hk; have := (hbd.2 k hk).1; omega)) (fun v h2 hq => ?_)
  obtain ⟨rfl, rfl⟩ := hq
  rw [hcm]
  refine aw_istore_n (ls2 := [_, _, _, _]) dX5_weigh_19 (by decide) rfl rfl ?_
  refine aw_iload_n dX5_weigh_20 rfl ?_
  refine aw_aload_n dX5_weigh_21 rfl ?_
  refine aw_getI dX5_weigh_22 f5_25 rfl ⟨Nat.le_of_ble_eq_true rfl, Nat.le_of_ble_eq_true rfl⟩ rfl ?_
  refine aw_top hP2.2.2 ?_
  refine aw_snd (show _ = nI (o_cm x2 u t2 + 1) - 1 from (nI_pred (o_cm x2 u t2)).symm) ?_
  refine aw_ic_le_p (a := o_cm x2 u t2 + 1) (b := m) (tgt := 43) dX5_weigh_25 (by decide) (by omega) (by omega) (fun c25 => ?_) (fun c25 => ?_)
  · refine aw_ret0 dX5_weigh_43 rfl ⟨Nat.le_of_ble_eq_true rfl, Nat.le_of_ble_eq_true rfl⟩ ?_
    exact ⟨rfl, _, rfl, hD2, by rw [if_neg (by omega)]; exact hP2, fun o ho => hR2.2 o (by omega)⟩
  · refine aw_aload_n dX5_weigh_28 rfl ?_
    refine aw_iload_n dX5_weigh_29 rfl ?_
    refine aw_putI dX5_weigh_30 f5_18 rfl ⟨Nat.le_of_ble_eq_true rfl, Nat.le_of_ble_eq_true rfl⟩ (Or.inl rfl) rfl ?_
    refine aw_aload_n dX5_weigh_33 rfl ?_
    refine aw_iload_n dX5_weigh_34 rfl ?_
    refine aw_putI dX5_weigh_35 f5_22 rfl ⟨Nat.le_of_ble_eq_true rfl, Nat.le_of_ble_eq_true rfl⟩ (Or.inl rfl) rfl ?_
    refine aw_aload_n dX5_weigh_38 rfl ?_
    refine aw_iload_n dX5_weigh_39 rfl ?_
    refine aw_putI dX5_weigh_40 f5_25 rfl ⟨Nat.le_of_ble_eq_true rfl, Nat.le_of_ble_eq_true rfl⟩ (Or.inl rfl) rfl ?_
    refine aw_ret0 dX5_weigh_43 rfl ⟨Nat.le_of_ble_eq_true rfl, Nat.le_of_ble_eq_true rfl⟩ ?_
    refine ⟨rfl, _, rfl, ((hD2.f (Or.inl rfl)).f (Or.inl rfl)).f (Or.inl rfl), ?_, fun o ho => by rw [aw_u_ne (by omega), aw_u_ne (by omega), aw_u_ne (by omega)]; exact hR2.2 o (by omega)⟩
    rw [if_pos (by omega)]
    exact ⟨by rw [aw_u_nj (by decide), aw_u_nj (by decide), aw_u_eq], by rw [aw_u_nj (by decide), aw_u_eq], by rw [aw_u_eq, nI_pred]⟩
theorem w_pWeighC (G : aw_G) {n : Nat} {I I0 : Nat → Nat → Int32} {L : Nat → Nat → Int64} {t u x y t2 s : Nat → Nat → Nat} {x2 y2 : Nat → Nat → Nat} {b p po : Int32} {m f : Nat} (hF : zFx t u x y I0) (hD : zDy t2 s I0 I) (hX2 : zCh x2 60 I) (hG2 : zGo x2 y2) (hP : zPl b p m I) (hm : m ≤ 9) : aw_Met G mX5_weigh [.ref 59, .int (nI f), .int po] (zH n I L 60) (fun v h2 => v = none ∧ ∃ I2, h2 = zH n I2 L 60 ∧ zDy t2 (p_play s t2 u x2) I0 I2 ∧ (if m < o_cm x2 u t2 + 1 then zPl (nI f) po (o_cm x2 u t2 + 1) I2 else zPl b p m I2) ∧ ∀ o, (o < 44 ∨ 59 < o) → I2 o = I o) := by
  refine aw_Met.of okX5_weigh (Nat.le_of_ble_eq_true rfl) ?_
  show aw_W G mX5_weigh 0 [.ref 59, .int (nI f), .int po, aw_x] [] (zH n I L 60) (0, 0) _
  refine aw_aload_n dX5_weigh_0 rfl ?_
  refine aw_getR dX5_weigh_1 f5_35 rfl ⟨Nat.le_of_ble_eq_true rfl, Nat.le_of_ble_eq_true rfl⟩ rfl rfl ?_
  refine aw_aload_n dX5_weigh_4 rfl ?_
  refine aw_getR dX5_weigh_5 f5_32 rfl ⟨Nat.le_of_ble_eq_true rfl, Nat.le_of_ble_eq_true rfl⟩ rfl rfl ?_
  refine aw_V0c (As := [_]) dX5_weigh_8 k5_49 rfl rfl rfl ⟨Nat.le_of_ble_eq_true rfl, Nat.le_of_ble_eq_true rfl⟩ (Nat.le_of_ble_eq_true rfl) ⟨⟨Nat.le_of_ble_eq_true rfl, Nat.le_of_ble_eq_true rfl⟩, ⟨Nat.le_of_ble_eq_true rfl, Nat.le_of_ble_eq_true rfl⟩⟩ ⟨rfl, rfl⟩ (w_playC G hD.2.2.2.1 hD.1 hX2 (hD.fx hF).2.2.2.1 hD.2.1 hG2.2.1 hF.2.2.2.2.1 hD.2.2.2.2.1.1) (fun v h2 hq => ?_)
  obtain ⟨rfl, I2, rfl, hR2⟩ := hq
  have hD2 := hD.play (t := t) hG2 hR2
  have hP2 := hP.mv (hR2.2 59 (by decide))
  have hbd := zBd (m := z0) (u := u) hD.2.1 hG2.1 hG2.2.1 hG2.2.2 hD.2.2.2.2.1.1
  have hS0 : p_play s t2 u x2 0 0 = t2 6 0 := hbd.1.1
  have hcm : z_ones (z_who (fun k => p_play s t2 u x2 6 k == 2) (p_play s t2 u x2 0 0)) = o_cm x2 u t2 := by
    rw [hS0]; unfold o_cm o_who
    rw [z_who_congr (fun j hj => by rw [(zCan (u := u) hD.2.1 hG2 hD.2.2.2.2.1.1 hD.2.2.1 hj).1])]
  have hcl := o_cm_le (t := t2) (u := u) (x := x2)
  have h8 := hD.2.1.1
  refine aw_aload_n dX5_weigh_11 rfl ?_
  refine aw_getR dX5_weigh_12 f5_35 rfl ⟨Nat.le_of_ble_eq_true rfl, Nat.le_of_ble_eq_true rfl⟩ rfl rfl ?_
  refine aw_iconst (v := 2) dX5_weigh_15 rfl ?_
  refine aw_V0c (As := [_]) dX5_weigh_16 k5_88 rfl rfl rfl ⟨Nat.le_of_ble_eq_true rfl, Nat.le_of_ble_eq_true rfl⟩ (Nat.le_of_ble_eq_true rfl) ⟨⟨Nat.le_of_ble_eq_true rfl, Nat.le_of_ble_eq_true rfl⟩, ⟨Nat.le_of_ble_eq_true rfl, Nat.le_of_ble_eq_true rfl⟩⟩ ⟨rfl, rfl⟩ (w_howMany44 G (a := 2) hR2 (by decide) (by rw [hS0]; exact h8) (fun k hk => by rw [hS0] at hk; have := (hbd.2 k hk).1; omega)) (fun v h2 hq => ?_)
  obtain ⟨rfl, rfl⟩ := hq
  rw [hcm]
  refine aw_istore_n (ls2 := [_, _, _, _]) dX5_weigh_19 (by decide) rfl rfl ?_
  refine aw_iload_n dX5_weigh_20 rfl ?_
  refine aw_aload_n dX5_weigh_21 rfl ?_
  refine aw_getI dX5_weigh_22 f5_25 rfl ⟨Nat.le_of_ble_eq_true rfl, Nat.le_of_ble_eq_true rfl⟩ rfl ?_
  refine aw_top hP2.2.2 ?_
  refine aw_snd (show _ = nI (o_cm x2 u t2 + 1) - 1 from (nI_pred (o_cm x2 u t2)).symm) ?_
  refine aw_ic_le_p (a := o_cm x2 u t2 + 1) (b := m) (tgt := 43) dX5_weigh_25 (by decide) (by omega) (by omega) (fun c25 => ?_) (fun c25 => ?_)
  · refine aw_ret0 dX5_weigh_43 rfl ⟨Nat.le_of_ble_eq_true rfl, Nat.le_of_ble_eq_true rfl⟩ ?_
    exact ⟨rfl, _, rfl, hD2, by rw [if_neg (by omega)]; exact hP2, fun o ho => hR2.2 o (by omega)⟩
  · refine aw_aload_n dX5_weigh_28 rfl ?_
    refine aw_iload_n dX5_weigh_29 rfl ?_
    refine aw_putI dX5_weigh_30 f5_18 rfl ⟨Nat.le_of_ble_eq_true rfl, Nat.le_of_ble_eq_true rfl⟩ (Or.inl rfl) rfl ?_
    refine aw_aload_n dX5_weigh_33 rfl ?_
    refine aw_iload_n dX5_weigh_34 rfl ?_
    refine aw_putI dX5_weigh_35 f5_22 rfl ⟨Nat.le_of_ble_eq_true rfl, Nat.le_of_ble_eq_true rfl⟩ (Or.inl rfl) rfl ?_
    refine aw_aload_n dX5_weigh_38 rfl ?_
    refine aw_iload_n dX5_weigh_39 rfl ?_
    refine aw_putI dX5_weigh_40 f5_25 rfl ⟨Nat.le_of_ble_eq_true rfl, Nat.le_of_ble_eq_true rfl⟩ (Or.inl rfl) rfl ?_
    refine aw_ret0 dX5_weigh_43 rfl ⟨Nat.le_of_ble_eq_true rfl, Nat.le_of_ble_eq_true rfl⟩ ?_
    refine ⟨rfl, _, rfl, ((hD2.f (Or.inl rfl)).f (Or.inl rfl)).f (Or.inl rfl), ?_, fun o ho => by rw [aw_u_ne (by omega), aw_u_ne (by omega), aw_u_ne (by omega)]; exact hR2.2 o (by omega)⟩
    rw [if_pos (by omega)]
    exact ⟨by rw [aw_u_nj (by decide), aw_u_nj (by decide), aw_u_eq], by rw [aw_u_nj (by decide), aw_u_eq], by rw [aw_u_eq, nI_pred]⟩
theorem w_postpone (G : aw_G) {n c : Nat} {I I0 : Nat → Nat → Int32} {L : Nat → Nat → Int64} {t u x y t2 s : Nat → Nat → Nat} {k : Nat} (hF : zFx t u x y I0) (hD : zDy t2 s I0 I) (hk : k < 8) : aw_Met G mX5_postpone [.ref 59, .int (nI k)] (zH n I L c) (fun v h2 => v = none ∧ ∃ I2, h2 = zH n I2 L 12 ∧ (∃ t3 s3, zDy t3 s3 I0 I2) ∧ zPl (nI (z_best (fun v => o_cm x u (aw_u t 5 k v)) 10).1 - 1) (-1) (z_best (fun v => o_cm x u (aw_u t 5 k v)) 10).2 I2) := by
  refine aw_Met.of okX5_postpone (Nat.le_of_ble_eq_true rfl) ?_
  show aw_W G mX5_postpone 0 [.ref 59, .int (nI k), aw_x] [] (zH n I L c) (0, 0) _
  refine aw_aload_n dX5_postpone_0 rfl ?_
  refine aw_V0c (As := []) dX5_postpone_1 k5_60 rfl rfl rfl ⟨Nat.le_of_ble_eq_true rfl, Nat.le_of_ble_eq_true rfl⟩ (Nat.le_of_ble_eq_true rfl) ⟨⟨Nat.le_of_ble_eq_true rfl, Nat.le_of_ble_eq_true rfl⟩, ⟨Nat.le_of_ble_eq_true rfl, Nat.le_of_ble_eq_true rfl⟩⟩ ⟨rfl, rfl⟩ (w_pBegin G hF hD) (fun v h2 hq => ?_)
  obtain ⟨rfl, I2, t3, rfl, hD3, hE, hP⟩ := hq
  refine aw_iconst (v := 0) dX5_postpone_4 rfl ?_
  refine aw_istore_n (ls2 := [_, _, _]) dX5_postpone_5 (by decide) rfl rfl ?_
  refine aw_up (X := fun i => ∀ I t2 s, (∀ v, zTeq (aw_u t 5 k v) (aw_u t2 5 k v)) ∧ zDy t2 s I0 I ∧ zPl (nI (z_best (fun v => o_cm x u (aw_u t 5 k v)) i).1 - 1) (-1) (z_best (fun v => o_cm x u (aw_u t 5 k v)) i).2 I → aw_W G mX5_postpone 6 [.ref 59, .int (nI k), .int (nI i)] [] (zH n I L 12) (0, 0) _) (Nat.zero_le 10) (fun I t2 s hh => ?_) (fun i _ hi ih I t2 s hh => ?_) _ _ _ ⟨fun v => hE.u (by decide), hD3, hP⟩
  · obtain ⟨hE, hD, hP⟩ := hh
    refine aw_iload_n dX5_postpone_6 rfl ?_
    refine aw_bipush (v := 10) dX5_postpone_7 (by decide) ?_
    refine aw_ic_ge_n (a := 10) (b := 10) (tgt := 34) dX5_postpone_9 (by decide) (by omega) (by omega) (fun c9 => ?_) (fun z => absurd z (by omega))
    refine aw_ret0 dX5_postpone_34 rfl ⟨Nat.le_of_ble_eq_true rfl, Nat.le_of_ble_eq_true rfl⟩ ?_
    exact ⟨rfl, _, rfl, ⟨_, _, hD⟩, hP⟩
  · obtain ⟨hE, hD, hP⟩ := hh
    have hbl := z_best_le (f := (fun v => o_cm x u (aw_u t 5 k v))) (i := i) (B := 8) (fun j hj => o_cm_le)
    refine aw_iload_n dX5_postpone_6 rfl ?_
    refine aw_bipush (v := 10) dX5_postpone_7 (by decide) ?_
    refine aw_ic_ge_n (a := i) (b := 10) (tgt := 34) dX5_postpone_9 (by decide) (by omega) (by omega) (fun z => absurd z (by omega)) (fun c9 => ?_)
    refine aw_aload_n dX5_postpone_12 rfl ?_
    refine aw_getR dX5_postpone_13 f5_32 rfl ⟨Nat.le_of_ble_eq_true rfl, Nat.le_of_ble_eq_true rfl⟩ rfl rfl ?_
    refine aw_getR dX5_postpone_16 f5_73 rfl ⟨Nat.le_of_ble_eq_true rfl, Nat.le_of_ble_eq_true rfl⟩ rfl rfl ?_
    refine aw_iload_n dX5_postpone_19 rfl ?_
    refine aw_iload_n dX5_postpone_20 rfl ?_
    refine aw_iast_n (j := k) dX5_postpone_21 rfl ⟨Nat.le_of_ble_eq_true rfl, Nat.le_of_ble_eq_true rfl⟩ (by decide) (by omega) ?_
    have hD1 := hD.st (i := 5) (j := k) (v := i) (by decide) (show i < 40 by omega)
    have hP1 := hP.mv (I2 := aw_u I 43 k (nI i)) (aw_u_ne (by decide))
    refine aw_aload_n dX5_postpone_22 rfl ?_
    refine aw_iload_n dX5_postpone_23 rfl ?_
    refine aw_iconst (v := -1) dX5_postpone_24 rfl ?_
    refine aw_V0c (As := [_, _]) dX5_postpone_25 k5_70 rfl rfl rfl ⟨Nat.le_of_ble_eq_true rfl, Nat.le_of_ble_eq_true rfl⟩ (Nat.le_of_ble_eq_true rfl) ⟨⟨Nat.le_of_ble_eq_true rfl, Nat.le_of_ble_eq_true rfl⟩, ⟨Nat.le_of_ble_eq_true rfl, Nat.le_of_ble_eq_true rfl⟩⟩ ⟨rfl, rfl⟩ (w_pWeighB G hF hD1 (hD1.fx hF).2.2.2.2.2.1 hF.2.2.2.2.2.2 hP1 (by omega)) (fun v h2 hq => ?_)
    obtain ⟨rfl, I2, rfl, hD2, hP2, hfr⟩ := hq
    rw [o_cm_teq (hE i)] at hP2
    refine aw_iinc_n (ls2 := [_, _, _]) dX5_postpone_28 rfl (by decide) rfl rfl ?_
    refine aw_goto (tgt := 6) dX5_postpone_31 (by decide) ?_
    exact ih _ _ _ ⟨fun v => by rw [aw_u_uu]; exact hE v, hD2, z_best_S (b := 0) (p := 0) (m := 0) hP2⟩
theorem w_flatten (G : aw_G) {n c : Nat} {I I0 : Nat → Nat → Int32} {L : Nat → Nat → Int64} {t u x y t2 s : Nat → Nat → Nat} {b : Nat → Nat} {l kk : Nat} (hF : zFx t u x y I0) (hD : zDy t2 s I0 I) (hTX : zTxW b l I0) (hkd : kk = q_k (q_w b) 5 l) : aw_Met G mX5_flatten [.ref 59, .ref 4] (zH n I L c) (fun v h2 => v = none ∧ ∃ I2, h2 = zH n I2 L 60 ∧ (∃ t3 s3, zDy t3 s3 I0 I2) ∧ zPl (nI (z_best (fun w => o_cm (f_x (f_lv (v_w b) (w + 1)) kk) u t) kk).1 - 1) (-1) (z_best (fun w => o_cm (f_x (f_lv (v_w b) (w + 1)) kk) u t) kk).2 I2) := by
  have hkk : I0 4 5 = nI kk := by rw [hkd]; exact hTX.2.2
  have hk10 : kk ≤ 10 := by rw [hkd]; exact q_k_leW hTX.1.2.2.2.2
  refine aw_Met.of okX5_flatten (Nat.le_of_ble_eq_true rfl) ?_
  show aw_W G mX5_flatten 0 [.ref 59, .ref 4, aw_x] [] (zH n I L c) (0, 0) _
  refine aw_aload_n dX5_flatten_0 rfl ?_
  refine aw_V0c (As := []) dX5_flatten_1 k5_60 rfl rfl rfl ⟨Nat.le_of_ble_eq_true rfl, Nat.le_of_ble_eq_true rfl⟩ (Nat.le_of_ble_eq_true rfl) ⟨⟨Nat.le_of_ble_eq_true rfl, Nat.le_of_ble_eq_true rfl⟩, ⟨Nat.le_of_ble_eq_true rfl, Nat.le_of_ble_eq_true rfl⟩⟩ ⟨rfl, rfl⟩ (w_pBegin G hF hD) (fun v h2 hq => ?_)
  obtain ⟨rfl, I2, t3, rfl, hD3, hE, hP⟩ := hq
  refine aw_aload_n dX5_flatten_4 rfl ?_
  refine aw_getR dX5_flatten_5 f5_32 rfl ⟨Nat.le_of_ble_eq_true rfl, Nat.le_of_ble_eq_true rfl⟩ rfl rfl ?_
  refine aw_aload_n dX5_flatten_8 rfl ?_
  refine aw_getR dX5_flatten_9 f5_12 rfl ⟨Nat.le_of_ble_eq_true rfl, Nat.le_of_ble_eq_true rfl⟩ rfl rfl ?_
  refine aw_putR dX5_flatten_12 f5_76 rfl ⟨Nat.le_of_ble_eq_true rfl, Nat.le_of_ble_eq_true rfl⟩ (Or.inl rfl) rfl ?_
  rw [zR_up]
  show aw_W G mX5_flatten 15 _ _ (zH n _ L 60) _ _
  refine aw_iconst (v := 0) dX5_flatten_15 rfl ?_
  refine aw_istore_n (ls2 := [_, _, _]) dX5_flatten_16 (by decide) rfl rfl ?_
  refine aw_up (X := fun w => ∀ I t2 s, zTeq t t2 ∧ zDy t2 s I0 I ∧ zPl (nI (z_best (fun w => o_cm (f_x (f_lv (v_w b) (w + 1)) kk) u t) w).1 - 1) (-1) (z_best (fun w => o_cm (f_x (f_lv (v_w b) (w + 1)) kk) u t) w).2 I → aw_W G mX5_flatten 17 [.ref 59, .ref 4, .int (nI w)] [] (zH n I L 60) (0, 0) _) (Nat.zero_le kk) (fun I t2 s hh => ?_) (fun w _ hw ih I t2 s hh => ?_) _ _ _ ⟨hE, hD3, hP⟩
  · obtain ⟨hE, hD, hP⟩ := hh
    refine aw_iload_n dX5_flatten_17 rfl ?_
    refine aw_aload_n dX5_flatten_18 rfl ?_
    refine aw_getI dX5_flatten_19 f5_79 rfl ⟨Nat.le_of_ble_eq_true rfl, Nat.le_of_ble_eq_true rfl⟩ rfl ?_
    refine aw_top ((congrFun (hD.2.2.2.2.2.1 4 (by decide)) 5).trans hkk) ?_
    refine aw_ic_ge_n (a := kk) (b := kk) (tgt := 46) dX5_flatten_22 (by decide) (by omega) (by omega) (fun c22 => ?_) (fun z => absurd z (by omega))
    refine aw_ret0 dX5_flatten_46 rfl ⟨Nat.le_of_ble_eq_true rfl, Nat.le_of_ble_eq_true rfl⟩ ?_
    exact ⟨rfl, _, rfl, ⟨_, _, hD⟩, hP⟩
  · obtain ⟨hE, hD, hP⟩ := hh
    have hbl := z_best_le (f := (fun w => o_cm (f_x (f_lv (v_w b) (w + 1)) kk) u t)) (i := w) (B := 8) (fun j hj => o_cm_le)
    have hTX2 : zTxW b l I := hTX.mv (hD.2.2.2.2.2.1 1 (by decide)) (hD.2.2.2.2.2.1 5 (by decide)) (hD.2.2.2.2.2.1 4 (by decide))
    refine aw_iload_n dX5_flatten_17 rfl ?_
    refine aw_aload_n dX5_flatten_18 rfl ?_
    refine aw_getI dX5_flatten_19 f5_79 rfl ⟨Nat.le_of_ble_eq_true rfl, Nat.le_of_ble_eq_true rfl⟩ rfl ?_
    refine aw_top ((congrFun (hD.2.2.2.2.2.1 4 (by decide)) 5).trans hkk) ?_
    refine aw_ic_ge_n (a := w) (b := kk) (tgt := 46) dX5_flatten_22 (by decide) (by omega) (by omega) (fun z => absurd z (by omega)) (fun c22 => ?_)
    refine aw_aload_n dX5_flatten_25 rfl ?_
    refine aw_getR dX5_flatten_26 f5_12 rfl ⟨Nat.le_of_ble_eq_true rfl, Nat.le_of_ble_eq_true rfl⟩ rfl rfl ?_
    refine aw_aload_n dX5_flatten_29 rfl ?_
    refine aw_iload_n dX5_flatten_30 rfl ?_
    refine aw_top (nI_pred w).symm ?_
    refine aw_V0c (As := [_, _]) dX5_flatten_31 k5_84 rfl rfl rfl ⟨Nat.le_of_ble_eq_true rfl, Nat.le_of_ble_eq_true rfl⟩ (Nat.le_of_ble_eq_true rfl) ⟨⟨Nat.le_of_ble_eq_true rfl, Nat.le_of_ble_eq_true rfl⟩, ⟨Nat.le_of_ble_eq_true rfl, Nat.le_of_ble_eq_true rfl⟩⟩ ⟨rfl, rfl⟩ (w_fill60 G (lv := w + 1) hTX2 (by omega)) (fun v h2 hq => ?_)
    obtain ⟨rfl, I1, rfl, hC⟩ := hq
    rw [← hkd] at hC
    have hD1 : zDy t2 s I0 I1 := by
      obtain ⟨h1, h2, h3, h4, h5, h6⟩ := hD
      exact ⟨⟨fun p q hp hq => by rw [hC.2 _ (by omega)]; exact h1.1 p q hp hq, by rw [hC.2 _ (by omega)]; exact h1.2.1, by rw [hC.2 _ (by omega)]; exact h1.2.2⟩, h2, h3, h4.mv2 (fun b hb => hC.2 _ (by omega)), h5, h6.trans ⟨fun o ho => hC.2 o (by omega), hC.2 _ (by omega), hC.2 _ (by omega), hC.2 _ (by omega), by rw [hC.2 64 (by omega)]⟩⟩
    have hX2 : zCh (f_x (f_lv (v_w b) (w + 1)) kk) 60 I1 := fun j hj => hC.1 j hj
    have hP1 := hP.mv (hC.2 59 (by omega))
    have hG2 : zGo (f_x (f_lv (v_w b) (w + 1)) kk) (f_y (f_lv (v_w b) (w + 1)) kk) := zCharts (by rw [hkd]; exact f_lv_ok v_w_ok)
    refine aw_aload_n dX5_flatten_34 rfl ?_
    refine aw_iload_n dX5_flatten_35 rfl ?_
    refine aw_iconst (v := -1) dX5_flatten_36 rfl ?_
    refine aw_V0c (As := [_, _]) dX5_flatten_37 k5_70 rfl rfl rfl ⟨Nat.le_of_ble_eq_true rfl, Nat.le_of_ble_eq_true rfl⟩ (Nat.le_of_ble_eq_true rfl) ⟨⟨Nat.le_of_ble_eq_true rfl, Nat.le_of_ble_eq_true rfl⟩, ⟨Nat.le_of_ble_eq_true rfl, Nat.le_of_ble_eq_true rfl⟩⟩ ⟨rfl, rfl⟩ (w_pWeighC G hF hD1 hX2 hG2 hP1 (by omega)) (fun v h2 hq => ?_)
    obtain ⟨rfl, I2, rfl, hD2, hP2, hfr⟩ := hq
    rw [o_cm_teq hE] at hP2
    refine aw_iinc_n (ls2 := [_, _, _]) dX5_flatten_40 rfl (by decide) rfl rfl ?_
    refine aw_goto (tgt := 17) dX5_flatten_43 (by decide) ?_
    exact ih _ _ _ ⟨hE, hD2, z_best_S (b := 0) (p := 0) (m := 0) hP2⟩
theorem w_pSwap (G : aw_G) {n c : Nat} {I I0 : Nat → Nat → Int32} {L : Nat → Nat → Int64} {t u x y t2 s : Nat → Nat → Nat} (hF : zFx t u x y I0) (hD : zDy t2 s I0 I) : aw_Met G mX5_swapQuestions [.ref 59] (zH n I L c) (fun v h2 => v = none ∧ ∃ I2, h2 = zH n I2 L 12 ∧ (∃ t3 s3, zDy t3 s3 I0 I2) ∧ zPl (z_ba (z_ld (fun a b => o_cm x u (t_swap t a b)) (t 6 0) 64).1) (z_bb (z_ld (fun a b => o_cm x u (t_swap t a b)) (t 6 0) 64).1) (z_ld (fun a b => o_cm x u (t_swap t a b)) (t 6 0) 64).2 I2) := by
  refine aw_Met.of okX5_swapQuestions (Nat.le_of_ble_eq_true rfl) ?_
  show aw_W G mX5_swapQuestions 0 [.ref 59, aw_x, aw_x] [] (zH n I L c) (0, 0) _
  refine aw_aload_n dX5_swapQuestions_0 rfl ?_
  refine aw_V0c (As := []) dX5_swapQuestions_1 k5_60 rfl rfl rfl ⟨Nat.le_of_ble_eq_true rfl, Nat.le_of_ble_eq_true rfl⟩ (Nat.le_of_ble_eq_true rfl) ⟨⟨Nat.le_of_ble_eq_true rfl, Nat.le_of_ble_eq_true rfl⟩, ⟨Nat.le_of_ble_eq_true rfl, Nat.le_of_ble_eq_true rfl⟩⟩ ⟨rfl, rfl⟩ (w_pBegin G hF hD) (fun v h2 hq => ?_)
  obtain ⟨rfl, I2, t3, rfl, hD3, hE, hP⟩ := hq
  refine aw_iconst (v := 0) dX5_swapQuestions_4 rfl ?_
  refine aw_istore_n (ls2 := [_, _, _]) dX5_swapQuestions_5 (by decide) rfl rfl ?_
  have h8 := hF.2.1.1
  refine aw_up (X := fun a => ∀ I t2 s, zTeq t t2 ∧ zDy t2 s I0 I ∧ zPl (z_ba (z_ld (fun a b => o_cm x u (t_swap t a b)) (t 6 0) (a * 8)).1) (z_bb (z_ld (fun a b => o_cm x u (t_swap t a b)) (t 6 0) (a * 8)).1) (z_ld (fun a b => o_cm x u (t_swap t a b)) (t 6 0) (a * 8)).2 I → aw_W G mX5_swapQuestions 6 [.ref 59, .int (nI a), aw_x] [] (zH n I L 12) (0, 0) _) (Nat.zero_le (t 6 0)) (fun I t2 s hh => ?_) (fun a _ ha ah I t2 s hh => ?_) _ _ _ ⟨hE, hD3, by rw [Nat.zero_mul]; exact hP⟩
  · obtain ⟨hE, hD, hP⟩ := hh
    refine aw_iload_n dX5_swapQuestions_6 rfl ?_
    refine aw_aload_n dX5_swapQuestions_7 rfl ?_
    refine aw_getR dX5_swapQuestions_8 f5_28 rfl ⟨Nat.le_of_ble_eq_true rfl, Nat.le_of_ble_eq_true rfl⟩ rfl rfl ?_
    refine aw_getI dX5_swapQuestions_11 f5_63 rfl ⟨Nat.le_of_ble_eq_true rfl, Nat.le_of_ble_eq_true rfl⟩ rfl ?_
    refine aw_top ((hD.fx hF).1.2.1) ?_
    refine aw_ic_ge_n (a := t 6 0) (b := t 6 0) (tgt := 68) dX5_swapQuestions_14 (by decide) (by omega) (by omega) (fun c14 => ?_) (fun z => absurd z (by omega))
    refine aw_ret0 dX5_swapQuestions_68 rfl ⟨Nat.le_of_ble_eq_true rfl, Nat.le_of_ble_eq_true rfl⟩ ?_
    refine ⟨rfl, _, rfl, ⟨_, _, hD⟩, ?_⟩
    have hsk := z_ld_skip (f := (fun a b => o_cm x u (t_swap t a b))) (n := t 6 0) (i := t 6 0 * 8) (64 - t 6 0 * 8) (fun c h1 h2 z => by omega)
    rw [show t 6 0 * 8 + (64 - t 6 0 * 8) = 64 by omega] at hsk
    rw [hsk]; exact hP
  · obtain ⟨hE, hD, hP⟩ := hh
    refine aw_iload_n dX5_swapQuestions_6 rfl ?_
    refine aw_aload_n dX5_swapQuestions_7 rfl ?_
    refine aw_getR dX5_swapQuestions_8 f5_28 rfl ⟨Nat.le_of_ble_eq_true rfl, Nat.le_of_ble_eq_true rfl⟩ rfl rfl ?_
    refine aw_getI dX5_swapQuestions_11 f5_63 rfl ⟨Nat.le_of_ble_eq_true rfl, Nat.le_of_ble_eq_true rfl⟩ rfl ?_
    refine aw_top ((hD.fx hF).1.2.1) ?_
    refine aw_ic_ge_n (a := a) (b := t 6 0) (tgt := 68) dX5_swapQuestions_14 (by decide) (by omega) (by omega) (fun z => absurd z (by omega)) (fun c14 => ?_)
    refine aw_iload_n dX5_swapQuestions_17 rfl ?_
    refine aw_iconst (v := 1) dX5_swapQuestions_18 rfl ?_
    refine aw_iadd_n (a := a) (b := 1) dX5_swapQuestions_19 ?_
    refine aw_istore_n (ls2 := [_, _, _]) dX5_swapQuestions_20 (by decide) rfl rfl ?_
    have hskb := z_ld_skip (f := (fun a b => o_cm x u (t_swap t a b))) (n := t 6 0) (i := a * 8) (a + 1) (fun c h1 h2 z => by omega)
    refine aw_up (X := fun b => ∀ I t2 s, zTeq t t2 ∧ zDy t2 s I0 I ∧ zPl (z_ba (z_ld (fun a b => o_cm x u (t_swap t a b)) (t 6 0) (a * 8 + b)).1) (z_bb (z_ld (fun a b => o_cm x u (t_swap t a b)) (t 6 0) (a * 8 + b)).1) (z_ld (fun a b => o_cm x u (t_swap t a b)) (t 6 0) (a * 8 + b)).2 I → aw_W G mX5_swapQuestions 21 [.ref 59, .int (nI a), .int (nI b)] [] (zH n I L 12) (0, 0) _) (show a + 1 ≤ t 6 0 by omega) (fun I t2 s hh => ?_) (fun b hb0 hb ih I t2 s hh => ?_) _ _ _ ⟨hE, hD, by rw [← Nat.add_assoc] at hskb; rw [show a * 8 + (a + 1) = a * 8 + a + 1 by omega, hskb]; exact hP⟩
    · obtain ⟨hE, hD, hP⟩ := hh
      refine aw_iload_n dX5_swapQuestions_21 rfl ?_
      refine aw_aload_n dX5_swapQuestions_22 rfl ?_
      refine aw_getR dX5_swapQuestions_23 f5_28 rfl ⟨Nat.le_of_ble_eq_true rfl, Nat.le_of_ble_eq_true rfl⟩ rfl rfl ?_
      refine aw_getI dX5_swapQuestions_26 f5_63 rfl ⟨Nat.le_of_ble_eq_true rfl, Nat.le_of_ble_eq_true rfl⟩ rfl ?_
      refine aw_top ((hD.fx hF).1.2.1) ?_
      refine aw_ic_ge_n (a := t 6 0) (b := t 6 0) (tgt := 62) dX5_swapQuestions_29 (by decide) (by omega) (by omega) (fun c29 => ?_) (fun z => absurd z (by omega))
      refine aw_iinc_n (ls2 := [_, _, _]) dX5_swapQuestions_62 rfl (by decide) rfl rfl ?_
      refine aw_goto (tgt := 6) dX5_swapQuestions_65 (by decide) ?_
      refine aw_kill (j := 2) (ls2 := [_, _, aw_x]) rfl (ah _ _ _ ⟨hE, hD, ?_⟩)
      have hsk := z_ld_skip (f := (fun a b => o_cm x u (t_swap t a b))) (n := t 6 0) (i := a * 8 + t 6 0) (8 - t 6 0) (fun c h1 h2 z => by omega)
      rw [show a * 8 + t 6 0 + (8 - t 6 0) = (a + 1) * 8 by omega] at hsk
      rw [hsk]; exact hP
    · obtain ⟨hE, hD, hP⟩ := hh
      have hbl := z_ld_le (f := (fun a b => o_cm x u (t_swap t a b))) (n := t 6 0) (i := a * 8 + b) (fun _ _ => o_cm_le)
      refine aw_iload_n dX5_swapQuestions_21 rfl ?_
      refine aw_aload_n dX5_swapQuestions_22 rfl ?_
      refine aw_getR dX5_swapQuestions_23 f5_28 rfl ⟨Nat.le_of_ble_eq_true rfl, Nat.le_of_ble_eq_true rfl⟩ rfl rfl ?_
      refine aw_getI dX5_swapQuestions_26 f5_63 rfl ⟨Nat.le_of_ble_eq_true rfl, Nat.le_of_ble_eq_true rfl⟩ rfl ?_
      refine aw_top ((hD.fx hF).1.2.1) ?_
      refine aw_ic_ge_n (a := b) (b := t 6 0) (tgt := 62) dX5_swapQuestions_29 (by decide) (by omega) (by omega) (fun z => absurd z (by omega)) (fun c29 => ?_)
      refine aw_aload_n dX5_swapQuestions_32 rfl ?_
      refine aw_getR dX5_swapQuestions_33 f5_32 rfl ⟨Nat.le_of_ble_eq_true rfl, Nat.le_of_ble_eq_true rfl⟩ rfl rfl ?_
      refine aw_iload_n dX5_swapQuestions_36 rfl ?_
      refine aw_iload_n dX5_swapQuestions_37 rfl ?_
      refine aw_V0c (As := [_, _]) dX5_swapQuestions_38 k5_66 rfl rfl rfl ⟨Nat.le_of_ble_eq_true rfl, Nat.le_of_ble_eq_true rfl⟩ (Nat.le_of_ble_eq_true rfl) ⟨⟨Nat.le_of_ble_eq_true rfl, Nat.le_of_ble_eq_true rfl⟩, ⟨Nat.le_of_ble_eq_true rfl, Nat.le_of_ble_eq_true rfl⟩⟩ ⟨rfl, rfl⟩ (w_swap G (zSx.of hD.1) (by omega) (by omega)) (fun v h2 hq => ?_)
      obtain ⟨rfl, I1, rfl, hS1⟩ := hq
      have hD1 : zDy (t_swap t2 a b) s I0 I1 := hD.sx hS1 (t_swap_ok hD.2.1 (by omega) (by omega)) (fun k hk => by rw [t_swap_row (by decide) (by decide)] at hk ⊢; exact hD.2.2.1 k hk)
      have hP1 := hP.mv (hS1.2 59 (by decide) (by decide))
      refine aw_aload_n dX5_swapQuestions_41 rfl ?_
      refine aw_iload_n dX5_swapQuestions_42 rfl ?_
      refine aw_iload_n dX5_swapQuestions_43 rfl ?_
      refine aw_V0c (As := [_, _]) dX5_swapQuestions_44 k5_70 rfl rfl rfl ⟨Nat.le_of_ble_eq_true rfl, Nat.le_of_ble_eq_true rfl⟩ (Nat.le_of_ble_eq_true rfl) ⟨⟨Nat.le_of_ble_eq_true rfl, Nat.le_of_ble_eq_true rfl⟩, ⟨Nat.le_of_ble_eq_true rfl, Nat.le_of_ble_eq_true rfl⟩⟩ ⟨rfl, rfl⟩ (w_pWeighB G hF hD1 (hD1.fx hF).2.2.2.2.2.1 hF.2.2.2.2.2.2 hP1 (by omega)) (fun v h2 hq => ?_)
      obtain ⟨rfl, I2, rfl, hD2, hP2, hfr⟩ := hq
      rw [o_cm_teq (hE.swap (by omega) (by omega))] at hP2
      refine aw_aload_n dX5_swapQuestions_47 rfl ?_
      refine aw_getR dX5_swapQuestions_48 f5_32 rfl ⟨Nat.le_of_ble_eq_true rfl, Nat.le_of_ble_eq_true rfl⟩ rfl rfl ?_
      refine aw_iload_n dX5_swapQuestions_51 rfl ?_
      refine aw_iload_n dX5_swapQuestions_52 rfl ?_
      refine aw_V0c (As := [_, _]) dX5_swapQuestions_53 k5_66 rfl rfl rfl ⟨Nat.le_of_ble_eq_true rfl, Nat.le_of_ble_eq_true rfl⟩ (Nat.le_of_ble_eq_true rfl) ⟨⟨Nat.le_of_ble_eq_true rfl, Nat.le_of_ble_eq_true rfl⟩, ⟨Nat.le_of_ble_eq_true rfl, Nat.le_of_ble_eq_true rfl⟩⟩ ⟨rfl, rfl⟩ (w_swap G (zSx.of hD2.1) (by omega) (by omega)) (fun v h2 hq => ?_)
      obtain ⟨rfl, I3, rfl, hS3⟩ := hq
      rw [t_swap2 (by omega)] at hS3
      have hD3 : zDy t2 _ I0 I3 := hD2.sx hS3 hD.2.1 hD.2.2.1
      have hP3 : if (z_ld (fun a b => o_cm x u (t_swap t a b)) (t 6 0) (a * 8 + b)).2 < o_cm x u (t_swap t a b) + 1 then zPl (nI a) (nI b) (o_cm x u (t_swap t a b) + 1) I3 else zPl (z_ba (z_ld (fun a b => o_cm x u (t_swap t a b)) (t 6 0) (a * 8 + b)).1) (z_bb (z_ld (fun a b => o_cm x u (t_swap t a b)) (t 6 0) (a * 8 + b)).1) (z_ld (fun a b => o_cm x u (t_swap t a b)) (t 6 0) (a * 8 + b)).2 I3 := by
        split at hP2
        · rename_i hc; rw [if_pos hc]; exact hP2.mv (hS3.2 59 (by decide) (by decide))
        · rename_i hc; rw [if_neg hc]; exact hP2.mv (hS3.2 59 (by decide) (by decide))
      refine aw_iinc_n (ls2 := [_, _, _]) dX5_swapQuestions_56 rfl (by decide) rfl rfl ?_
      refine aw_goto (tgt := 21) dX5_swapQuestions_59 (by decide) ?_
      refine ih _ _ _ ⟨hE, hD3, ?_⟩
      show zPl (z_ba (z_ld (fun a b => o_cm x u (t_swap t a b)) (t 6 0) (a * 8 + b + 1)).1) (z_bb (z_ld (fun a b => o_cm x u (t_swap t a b)) (t 6 0) (a * 8 + b + 1)).1) (z_ld (fun a b => o_cm x u (t_swap t a b)) (t 6 0) (a * 8 + b + 1)).2 I3
      rw [z_ld, show (a * 8 + b) / 8 = a by omega, show (a * 8 + b) % 8 = b by omega]
      by_cases hc : (z_ld (fun a b => o_cm x u (t_swap t a b)) (t 6 0) (a * 8 + b)).2 < o_cm x u (t_swap t a b) + 1
      · rw [if_pos ⟨⟨by omega, by omega⟩, hc⟩]
        rw [if_pos hc] at hP3
        unfold z_ba z_bb
        rw [if_neg (by show a * 8 + b + 1 ≠ 0; omega), if_neg (by show a * 8 + b + 1 ≠ 0; omega)]
        show zPl (nI ((a * 8 + b + 1 - 1) / 8)) (nI ((a * 8 + b + 1 - 1) % 8)) _ I3
        rw [show (a * 8 + b + 1 - 1) / 8 = a by omega, show (a * 8 + b + 1 - 1) % 8 = b by omega]
        exact hP3
      · rw [if_neg (fun z => hc z.2)]
        rw [if_neg hc] at hP3
        exact hP3
