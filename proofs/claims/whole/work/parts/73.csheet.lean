/-! SHEETS of the class -/
theorem zS_sh {n s : Nat} (hs : s < 4) : zS n (73 + 2 * s) = (11, 0) := by
  have h' : s = 0 ∨ s = 1 ∨ s = 2 ∨ s = 3 := by omega
  rcases h' with rfl | rfl | rfl | rfl <;> rfl
theorem zS_it {n s : Nat} (hs : s < 4) : zS n (74 + 2 * s) = (0, 60) := by
  have h' : s = 0 ∨ s = 1 ∨ s = 2 ∨ s = 3 := by omega
  rcases h' with rfl | rfl | rfl | rfl <;> rfl
theorem zR_sh {c s : Nat} (hs : s < 4) : zR c 72 s = some (73 + 2 * s) := by
  have h' : s = 0 ∨ s = 1 ∨ s = 2 ∨ s = 3 := by omega
  rcases h' with rfl | rfl | rfl | rfl <;> rfl
theorem zR_it {c s : Nat} (hs : s < 4) : zR c (73 + 2 * s) 0 = some (74 + 2 * s) := by
  have h' : s = 0 ∨ s = 1 ∨ s = 2 ∨ s = 3 := by omega
  rcases h' with rfl | rfl | rfl | rfl <;> rfl
theorem zlt0 {a : Int32} : a < 0 ↔ a.toInt < 0 := by rw [Int32.lt_iff_toInt_lt]; rfl
theorem zle0 {a : Int32} : 0 ≤ a ↔ 0 ≤ a.toInt := by rw [Int32.le_iff_toInt_le]; rfl
theorem zgtn {a : Int32} {s : Nat} (hs : s < 2147483648) : nI s < a ↔ (s : Int) < a.toInt := by rw [Int32.lt_iff_toInt_lt, nI_toInt (by omega)]
theorem zlen {a : Int32} {s : Nat} (hs : s < 2147483648) : a ≤ nI s ↔ a.toInt ≤ (s : Int) := by rw [Int32.le_iff_toInt_le, nI_toInt (by omega)]
def z_cut (f : Nat) (v : Int32) : Int32 := if f = 0 then v.toInt8.toInt32 else if f = 1 then v.toInt16.toInt32 else v
/-- are there n items from i on -/
def zhas (s : Nat) (i n : Int32) : Prop := 0 ≤ i.toInt ∧ 0 ≤ n.toInt ∧ n.toInt ≤ (s : Int) ∧ i.toInt + n.toInt ≤ (s : Int)
/-- why an item isn't there: 0 it is -/
def r_rk (F S : Nat → Nat) (p f : Nat) (a : Int32) : Nat := if F p = 0 then 1 else if F p = f + 1 then (if 0 ≤ a.toInt ∧ a.toInt < (S p : Int) then 0 else 2) else 3
def r_rv (k : Nat) : Int32 := if k = 0 then 0 else -10 - nI k
def r_fd (k : Nat) (fd : Int32) : Int32 := if k = 0 then fd else nI k
section ZSH
variable {b0 b1 : Nat → Nat} {l0 l1 : Nat} {t u x y g : Nat → Nat → Nat} {F S F2 S2 : Nat → Nat} {E E2 : Nat → Nat → Int32} {fd fd2 : Int32} {I I2 : Nat → Nat → Int32}
theorem zCI.sh (h : zCI b0 b1 l0 l1 t u x y g F S E fd I) (hS : zShC F2 S2 E2 I2) (hF : ∀ o, (o < 73 ∨ 80 < o) → o ≠ 3 → I2 o = I o) (h3 : I2 3 9 = fd2) : zCI b0 b1 l0 l1 t u x y g F2 S2 E2 fd2 I2 := by
  obtain ⟨h1, h2, h4, ⟨s0, h5, h6⟩, ⟨t2, s2, h7⟩, h8, -, -⟩ := h
  refine ⟨h1.mv (hF 1 (by decide) (by decide)) (hF 5 (by decide) (by decide)) (hF 4 (by decide) (by decide)), h2.mv (hF 2 (by decide) (by decide)) (hF 7 (by decide) (by decide)) (hF 6 (by decide) (by decide)), ?_, ⟨s0, h5, h6.mv2 (fun i hi => hF _ (by omega) (by omega))⟩, ⟨t2, s2, h7.mv (fun o a b => hF o (by omega) (by omega))⟩, h8.mv2 (fun o a b => hF o (by omega) (by omega)), hS, h3⟩
  obtain ⟨a1, a2, a3, a4, a5, a6, a7⟩ := h4
  exact ⟨a1.mv3 (hF 11 (by decide) (by decide)) (fun i hi => hF _ (by omega) (by omega)), a2, a3, a4.mv3 (hF 8 (by decide) (by decide)) (hF 9 (by decide) (by decide)) (hF 10 (by decide) (by decide)), a5, fun j hj => by rw [hF 13 (by decide) (by decide), hF 14 (by decide) (by decide), hF 15 (by decide) (by decide)]; exact a6 j hj, a7⟩
theorem zCI.fnd (h : zCI b0 b1 l0 l1 t u x y g F S E fd I) (v : Int32) : zCI b0 b1 l0 l1 t u x y g F S E v (aw_u I 3 9 v) :=
  h.sh (h.2.2.2.2.2.2.1.mv (fun o a b => aw_u_ne (by omega))) (fun o _ b => aw_u_ne b) aw_u_eq
theorem zShC.mk {p f s : Nat} {e : Nat → Int32} (h : zShC F S E I) (hp : p < 4) (hf : f < 3) (hs : s ≤ 60) (h1 : I2 (73 + 2 * p) 1 = nI f) (h2 : I2 (73 + 2 * p) 2 = nI s) (h3 : I2 (73 + 2 * p) 3 = 0) (he : ∀ i, i < s → I2 (74 + 2 * p) i = e i) (hF : ∀ o, o ≠ 73 + 2 * p → o ≠ 74 + 2 * p → I2 o = I o) : zShC (va_up F p (f + 1)) (va_up S p s) (va_up E p e) I2 := by
  intro q hq
  by_cases e0 : q = p
  · subst e0
    rw [va_up_at, va_up_at, va_up_at]
    exact ⟨by omega, hs, by rw [h3, if_neg (by omega)], fun _ => ⟨by rw [h1, Nat.add_sub_cancel], h2, he⟩⟩
  · rw [va_up_nat e0, va_up_nat e0, va_up_nat e0, hF (73 + 2 * q) (by omega) (by omega), hF (74 + 2 * q) (by omega) (by omega)]
    exact h q hq
theorem zShC.lose {p : Nat} (h : zShC F S E I) (hp : p < 4) : zShC (va_up F p 0) S E (aw_u I (73 + 2 * p) 3 (1 : Int32)) := by
  intro q hq
  have hh := h q hq
  by_cases e0 : q = p
  · subst e0
    rw [va_up_at]
    exact ⟨by omega, hh.2.1, by rw [aw_u_eq, if_pos rfl], fun z => absurd rfl z⟩
  · rw [va_up_nat e0, aw_u_ne (show 73 + 2 * q ≠ 73 + 2 * p by omega), aw_u_ne (show 74 + 2 * q ≠ 73 + 2 * p by omega)]
    exact hh
theorem zShC.put {p i : Nat} {v : Int32} (h : zShC F S E I) : zShC F S (aw_u E p i v) (aw_u I (74 + 2 * p) i v) := by
  intro q hq
  obtain ⟨a, b, c, d⟩ := h q hq
  refine ⟨a, b, by rw [aw_u_ne (by omega)]; exact c, fun z => ⟨by rw [aw_u_ne (by omega)]; exact (d z).1, by rw [aw_u_ne (by omega)]; exact (d z).2.1, fun j hj => ?_⟩⟩
  by_cases e0 : q = p
  · subst e0
    by_cases e1 : j = i
    · subst e1; rw [aw_u_eq, aw_u_eq]
    · rw [aw_u_nj e1, aw_u_nj e1]; exact (d z).2.2 j hj
  · rw [aw_u_ne (show 74 + 2 * q ≠ 74 + 2 * p by omega), aw_u_ne e0]; exact (d z).2.2 j hj
theorem zShC.cg {E2 : Nat → Nat → Int32} (h : zShC F S E I) (he : ∀ s i, s < 4 → F s ≠ 0 → i < S s → E s i = E2 s i) : zShC F S E2 I := by
  intro q hq
  obtain ⟨a, b, c, d⟩ := h q hq
  exact ⟨a, b, c, fun z => ⟨(d z).1, (d z).2.1, fun j hj => by rw [← he q j hq z hj]; exact (d z).2.2 j hj⟩⟩
end ZSH
theorem w_found (G : aw_G) {n c : Nat} {I : Nat → Nat → Int32} {L : Nat → Nat → Int64} {v0 : Int32} : aw_Met G mX10_found [.ref 3, .int v0] (zH n I L c) (fun v h2 => v = some (.int (-10 - v0)) ∧ h2 = zH n (aw_u I 3 9 v0) L c) := by
  refine aw_Met.of okX10_found (Nat.le_of_ble_eq_true rfl) ?_
  show aw_W G mX10_found 0 [.ref 3, .int v0] [] (zH n I L c) (0, 0) _
  refine aw_aload_n dX10_found_0 rfl ?_
  refine aw_iload_n dX10_found_1 rfl ?_
  refine aw_putI dX10_found_2 f10_96 rfl ⟨Nat.le_of_ble_eq_true rfl, Nat.le_of_ble_eq_true rfl⟩ (Or.inl rfl) rfl ?_
  refine aw_bipush (v := -10) dX10_found_5 (by decide) ?_
  refine aw_iload_n dX10_found_7 rfl ?_
  refine aw_isub dX10_found_8 ?_
  refine aw_reti dX10_found_9 rfl rfl ⟨Nat.le_of_ble_eq_true rfl, Nat.le_of_ble_eq_true rfl⟩ ?_
  exact ⟨rfl, rfl⟩
theorem w_put (G : aw_G) {n c : Nat} {I : Nat → Nat → Int32} {L : Nat → Nat → Int64} {p i f : Nat} {v0 : Int32} (hp : p < 4) (hi : i < 60) (hf : f < 3) (h1 : I (73 + 2 * p) 1 = nI f) : aw_Met G mX8_put [.ref (73 + 2 * p), .int (nI i), .int v0] (zH n I L c) (fun v h2 => v = none ∧ h2 = zH n (aw_u I (74 + 2 * p) i (z_cut f v0)) L c) := by
  refine aw_Met.of okX8_put (Nat.le_of_ble_eq_true rfl) ?_
  show aw_W G mX8_put 0 [.ref (73 + 2 * p), .int (nI i), .int v0] [] (zH n I L c) (0, 0) _
  refine aw_aload_n dX8_put_0 rfl ?_
  refine aw_getR dX8_put_1 f8_9 (zS_sh hp) ⟨by omega, (show 73 + 2 * p < 105 by omega)⟩ rfl (zR_it hp) ?_
  refine aw_iload_n dX8_put_4 rfl ?_
  refine aw_aload_n dX8_put_5 rfl ?_
  refine aw_getI dX8_put_6 f8_15 (zS_sh hp) ⟨by omega, (show 73 + 2 * p < 105 by omega)⟩ rfl ?_
  refine aw_top h1 ?_
  refine aw_if_ne_n (a := f) (tgt := 17) dX8_put_9 (by decide) (by omega) (fun c9 => ?_) (fun c9 => ?_)
  · refine aw_aload_n dX8_put_17 rfl ?_
    refine aw_getI dX8_put_18 f8_15 (zS_sh hp) ⟨by omega, (show 73 + 2 * p < 105 by omega)⟩ rfl ?_
    refine aw_top h1 ?_
    refine aw_iconst (v := 1) dX8_put_21 rfl ?_
    refine aw_ic_ne_n (a := f) (b := 1) (tgt := 30) dX8_put_22 (by decide) (by omega) (by omega) (fun c22 => ?_) (fun c22 => ?_)
    · refine aw_iload_n dX8_put_30 rfl ?_
      refine aw_iast_n (j := i) dX8_put_31 (zS_it hp) ⟨by omega, (show 74 + 2 * p < 105 by omega)⟩ (by decide) (by omega) ?_
      refine aw_ret0 dX8_put_32 rfl ⟨Nat.le_of_ble_eq_true rfl, Nat.le_of_ble_eq_true rfl⟩ ?_
      exact ⟨rfl, by unfold z_cut; rw [if_neg c9, if_neg c22]⟩
    · refine aw_iload_n dX8_put_25 rfl ?_
      refine aw_i2s dX8_put_26 ?_
      refine aw_goto (tgt := 31) dX8_put_27 (by decide) ?_
      refine aw_iast_n (j := i) dX8_put_31 (zS_it hp) ⟨by omega, (show 74 + 2 * p < 105 by omega)⟩ (by decide) (by omega) ?_
      refine aw_ret0 dX8_put_32 rfl ⟨Nat.le_of_ble_eq_true rfl, Nat.le_of_ble_eq_true rfl⟩ ?_
      exact ⟨rfl, by unfold z_cut; rw [if_neg c9, if_pos c22]⟩
  · refine aw_iload_n dX8_put_12 rfl ?_
    refine aw_i2b dX8_put_13 ?_
    refine aw_goto (tgt := 31) dX8_put_14 (by decide) ?_
    refine aw_iast_n (j := i) dX8_put_31 (zS_it hp) ⟨by omega, (show 74 + 2 * p < 105 by omega)⟩ (by decide) (by omega) ?_
    refine aw_ret0 dX8_put_32 rfl ⟨Nat.le_of_ble_eq_true rfl, Nat.le_of_ble_eq_true rfl⟩ ?_
    exact ⟨rfl, by unfold z_cut; rw [if_pos c9]⟩
theorem w_renew (G : aw_G) {n c : Nat} {I0 : Nat → Nat → Int32} {L : Nat → Nat → Int64} {p f s : Nat} (hp : p < 4) : aw_Met G mX8_renew [.ref (73 + 2 * p), .int (nI f), .int (nI s)] (zH n I0 L c) (fun v h2 => v = none ∧ ∃ I, h2 = zH n I L c ∧ (I (73 + 2 * p) 1 = nI f ∧ I (73 + 2 * p) 2 = nI s ∧ I (73 + 2 * p) 3 = 0 ∧ (∀ j, j < 60 → I (74 + 2 * p) j = 0) ∧ ∀ o, o ≠ 73 + 2 * p → o ≠ 74 + 2 * p → I o = I0 o)) := by
  refine aw_Met.of okX8_renew (Nat.le_of_ble_eq_true rfl) ?_
  show aw_W G mX8_renew 0 [.ref (73 + 2 * p), .int (nI f), .int (nI s), aw_x] [] (zH n I0 L c) (0, 0) _
  refine aw_aload_n dX8_renew_0 rfl ?_
  refine aw_iload_n dX8_renew_1 rfl ?_
  refine aw_putI dX8_renew_2 f8_15 (zS_sh hp) ⟨by omega, (show 73 + 2 * p < 105 by omega)⟩ (Or.inl rfl) rfl ?_
  refine aw_aload_n dX8_renew_5 rfl ?_
  refine aw_iload_n dX8_renew_6 rfl ?_
  refine aw_putI dX8_renew_7 f8_19 (zS_sh hp) ⟨by omega, (show 73 + 2 * p < 105 by omega)⟩ (Or.inl rfl) rfl ?_
  refine aw_aload_n dX8_renew_10 rfl ?_
  refine aw_iconst (v := 0) dX8_renew_11 rfl ?_
  refine aw_putZ dX8_renew_12 f8_22 (zS_sh hp) ⟨by omega, (show 73 + 2 * p < 105 by omega)⟩ (Or.inl rfl) rfl (by decide) ?_
  refine aw_iconst (v := 0) dX8_renew_15 rfl ?_
  refine aw_istore_n (ls2 := [_, _, _, _]) dX8_renew_16 (by decide) rfl rfl ?_
  refine aw_up (X := fun i => ∀ I, (I (73 + 2 * p) 1 = nI f ∧ I (73 + 2 * p) 2 = nI s ∧ I (73 + 2 * p) 3 = 0 ∧ (∀ j, j < i → I (74 + 2 * p) j = 0) ∧ ∀ o, o ≠ 73 + 2 * p → o ≠ 74 + 2 * p → I o = I0 o) → aw_W G mX8_renew 17 [.ref (73 + 2 * p), .int (nI f), .int (nI s), .int (nI i)] [] (zH n I L c) (0, 0) _) (Nat.zero_le 60) (fun I hh => ?_) (fun i _ hi ih I hh => ?_) _ ⟨by rw [aw_u_nj (by decide), aw_u_nj (by decide), aw_u_eq], by rw [aw_u_nj (by decide), aw_u_eq], by rw [aw_u_eq], fun j hj => absurd hj (by omega), fun o x z => by rw [aw_u_ne x, aw_u_ne x, aw_u_ne x]⟩
  · refine aw_iload_n dX8_renew_17 rfl ?_
    refine aw_bipush (v := 60) dX8_renew_18 (by decide) ?_
    refine aw_ic_ge_n (a := 60) (b := 60) (tgt := 36) dX8_renew_20 (by decide) (by omega) (by omega) (fun c20 => ?_) (fun z => absurd z (by omega))
    refine aw_ret0 dX8_renew_36 rfl ⟨Nat.le_of_ble_eq_true rfl, Nat.le_of_ble_eq_true rfl⟩ ?_
    exact ⟨rfl, _, rfl, hh⟩
  · obtain ⟨a, b, d, e, f2⟩ := hh
    refine aw_iload_n dX8_renew_17 rfl ?_
    refine aw_bipush (v := 60) dX8_renew_18 (by decide) ?_
    refine aw_ic_ge_n (a := i) (b := 60) (tgt := 36) dX8_renew_20 (by decide) (by omega) (by omega) (fun z => absurd z (by omega)) (fun c20 => ?_)
    refine aw_aload_n dX8_renew_23 rfl ?_
    refine aw_getR dX8_renew_24 f8_9 (zS_sh hp) ⟨by omega, (show 73 + 2 * p < 105 by omega)⟩ rfl (zR_it hp) ?_
    refine aw_iload_n dX8_renew_27 rfl ?_
    refine aw_iconst (v := 0) dX8_renew_28 rfl ?_
    refine aw_iast_n (j := i) dX8_renew_29 (zS_it hp) ⟨by omega, (show 74 + 2 * p < 105 by omega)⟩ (by decide) (by omega) ?_
    refine aw_iinc_n (ls2 := [_, _, _, _]) dX8_renew_30 rfl (by decide) rfl rfl ?_
    refine aw_goto (tgt := 17) dX8_renew_33 (by decide) ?_
    refine ih _ ⟨by rw [aw_u_ne (by omega)]; exact a, by rw [aw_u_ne (by omega)]; exact b, by rw [aw_u_ne (by omega)]; exact d, fun j hj => ?_, fun o x z => by rw [aw_u_ne z]; exact f2 o x z⟩
    by_cases e0 : j = i
    · subst e0; rw [aw_u_eq]
    · rw [aw_u_nj e0]; exact e j (by omega)
noncomputable def zhD (s : Nat) (i n : Int32) : Decidable (zhas s i n) := Classical.propDecidable _
theorem w_has (G : aw_G) {n c : Nat} {I : Nat → Nat → Int32} {L : Nat → Nat → Int64} {p s : Nat} {a1 a2 : Int32} (hp : p < 4) (hs : s ≤ 60) (h2 : I (73 + 2 * p) 2 = nI s) : aw_Met G mX8_has [.ref (73 + 2 * p), .int a1, .int a2] (zH n I L c) (fun v h2 => v = some (.int (if 0 ≤ a1.toInt ∧ 0 ≤ a2.toInt ∧ a2.toInt ≤ (s : Int) ∧ a1.toInt + a2.toInt ≤ (s : Int) then 1 else 0)) ∧ h2 = zH n I L c) := by
  refine aw_Met.of okX8_has (Nat.le_of_ble_eq_true rfl) ?_
  show aw_W G mX8_has 0 [.ref (73 + 2 * p), .int a1, .int a2] [] (zH n I L c) (0, 0) _
  refine aw_iload_n dX8_has_0 rfl ?_
  refine aw_if_lt (tgt := 30) dX8_has_1 (by decide) (fun c1 => ?_) (fun c1 => ?_)
  · refine aw_iconst (v := 0) dX8_has_30 rfl ?_
    refine aw_reti dX8_has_31 rfl rfl ⟨Nat.le_of_ble_eq_true rfl, Nat.le_of_ble_eq_true rfl⟩ ?_
    exact ⟨by rw [if_neg (fun z => by have := zlt0.mp c1; have := z.1; omega)], rfl⟩
  · refine aw_iload_n dX8_has_4 rfl ?_
    refine aw_if_lt (tgt := 30) dX8_has_5 (by decide) (fun c5 => ?_) (fun c5 => ?_)
    · refine aw_iconst (v := 0) dX8_has_30 rfl ?_
      refine aw_reti dX8_has_31 rfl rfl ⟨Nat.le_of_ble_eq_true rfl, Nat.le_of_ble_eq_true rfl⟩ ?_
      exact ⟨by rw [if_neg (fun z => by have := zlt0.mp c5; have := z.2.1; omega)], rfl⟩
    · refine aw_iload_n dX8_has_8 rfl ?_
      refine aw_aload_n dX8_has_9 rfl ?_
      refine aw_getI dX8_has_10 f8_19 (zS_sh hp) ⟨by omega, (show 73 + 2 * p < 105 by omega)⟩ rfl ?_
      refine aw_top h2 ?_
      refine aw_ic_gt (tgt := 30) dX8_has_13 (by decide) (fun c13 => ?_) (fun c13 => ?_)
      · refine aw_iconst (v := 0) dX8_has_30 rfl ?_
        refine aw_reti dX8_has_31 rfl rfl ⟨Nat.le_of_ble_eq_true rfl, Nat.le_of_ble_eq_true rfl⟩ ?_
        exact ⟨by rw [if_neg (fun z => by have := (zgtn (by omega)).mp c13; have := z.2.2.1; omega)], rfl⟩
      · obtain ⟨q, hq, rfl⟩ := zok_ex (x := a2) (b := s + 1) ⟨by have h9 : ¬ a2.toInt < 0 := fun z => c5 (zlt0.mpr z); omega, by have h9 : ¬ (s : Int) < a2.toInt := fun z => c13 ((zgtn (by omega)).mpr z); omega⟩
        refine aw_iload_n dX8_has_16 rfl ?_
        refine aw_aload_n dX8_has_17 rfl ?_
        refine aw_getI dX8_has_18 f8_19 (zS_sh hp) ⟨by omega, (show 73 + 2 * p < 105 by omega)⟩ rfl ?_
        refine aw_top h2 ?_
        refine aw_iload_n dX8_has_21 rfl ?_
        refine aw_isub_n (a := s) (b := q) dX8_has_22 (by omega) ?_
        refine aw_ic_gt (tgt := 30) dX8_has_23 (by decide) (fun c23 => ?_) (fun c23 => ?_)
        · refine aw_iconst (v := 0) dX8_has_30 rfl ?_
          refine aw_reti dX8_has_31 rfl rfl ⟨Nat.le_of_ble_eq_true rfl, Nat.le_of_ble_eq_true rfl⟩ ?_
          exact ⟨by rw [if_neg (fun z => by have h1 := (zgtn (by omega)).mp c23; have h2 := z.2.2.2; rw [nI_toInt (by omega)] at h2; omega)], rfl⟩
        · refine aw_iconst (v := 1) dX8_has_26 rfl ?_
          refine aw_goto (tgt := 31) dX8_has_27 (by decide) ?_
          refine aw_reti dX8_has_31 rfl rfl ⟨Nat.le_of_ble_eq_true rfl, Nat.le_of_ble_eq_true rfl⟩ ?_
          exact ⟨by rw [if_pos ⟨by have h9 : ¬ a1.toInt < 0 := fun z => c1 (zlt0.mpr z); omega, by rw [nI_toInt (by omega)]; omega, by rw [nI_toInt (by omega)]; omega, by have h1 : ¬ ((s - q : Nat) : Int) < a1.toInt := fun z => c23 ((zgtn (by omega)).mpr z); rw [nI_toInt (by omega)]; omega⟩], rfl⟩
theorem c_sheetB (G : aw_G) {n c : Nat} {I : Nat → Nat → Int32} {L : Nat → Nat → Int64} {b0 b1 : Nat → Nat} {l0 l1 : Nat} {t u x y V g : Nat → Nat → Nat} {kk : Nat} {F S : Nat → Nat} {E : Nat → Nat → Int32} {fd : Int32} (hX : zTx b0 b1 l0 l1 t u x y V kk) (hI : zCI b0 b1 l0 l1 t u x y g F S E fd I) {a1 : Int32} {a2 : Int32} {a3 : Int32} (hz : ¬ (zok a1 4 ∧ zok a2 3 ∧ a3 ≤ 60)) : aw_Met G mX10_sheet [.ref 3, .int a1, .int a2, .int a3] (zH n I L c) (fun v h2 => v = some (.int (-2)) ∧ ∃ I2 L2 c2, h2 = zH n I2 L2 c2 ∧ zCI b0 b1 l0 l1 t u x y g F S E fd I2 ∧ ∀ o, 81 ≤ o → I2 o = I o) := by
  obtain ⟨hW, hC, hF, ⟨s0, hO, hR⟩, ⟨t2, s2, hD⟩, hG, hS, hfd⟩ := id hI
  obtain ⟨hP, h60, h61, htc, hV, hkk, hx, hy⟩ := id hX
  have h8 := hP.1.1
  have hk10 : kk ≤ 10 := by rw [hkk]; exact q_k_leW hW.1.2.2.2.2
  have hi6 : I 6 5 = nI (t 6 0) := by rw [h60]; exact hC.2.2
  have hi4 : I 4 5 = nI kk := by rw [hkk]; exact hW.2.2
  have hVo : f_Vok V kk := by rw [hV, hkk]; exact v_w_ok
  have hsm := zSame hP hO.1
  have hbd := zBd (m := z0) (u := u) hP.1 hP.2.2.2.1 hP.2.2.2.2.1 hP.2.2.2.2.2 hO.1
  have hS0 : p_play s0 t u x 0 0 = t 6 0 := hbd.1.1
  refine aw_Met.of okX10_sheet (Nat.le_of_ble_eq_true rfl) ?_
  show aw_W G mX10_sheet 0 [.ref 3, .int a1, .int a2, .int a3] [] (zH n I L c) (0, 0) _
  refine aw_iload_n dX10_sheet_0 rfl ?_
  refine aw_iconst (v := 4) dX10_sheet_1 rfl ?_
  refine aw_S0c (As := [_, _]) dX10_sheet_2 k10_100 rfl rfl (Nat.le_of_ble_eq_true rfl) ⟨⟨Nat.le_of_ble_eq_true rfl, Nat.le_of_ble_eq_true rfl⟩, ⟨Nat.le_of_ble_eq_true rfl, Nat.le_of_ble_eq_true rfl⟩⟩ ⟨rfl, rfl⟩ (w_within G a1 (b := 4) (by omega)) (fun v h2 hq => ?_)
  obtain ⟨rfl, rfl⟩ := hq
  refine aw_if_eq_B (tgt := 22) dX10_sheet_5 (by decide) (fun c5 => ?_) (fun c5 => ?_)
  · refine aw_bipush (v := -2) dX10_sheet_22 (by decide) ?_
    refine aw_reti dX10_sheet_24 rfl rfl ⟨Nat.le_of_ble_eq_true rfl, Nat.le_of_ble_eq_true rfl⟩ ?_
    exact ⟨rfl, _, _, _, rfl, hI, fun _ _ => rfl⟩
  · refine aw_iload_n dX10_sheet_8 rfl ?_
    refine aw_iconst (v := 3) dX10_sheet_9 rfl ?_
    refine aw_S0c (As := [_, _]) dX10_sheet_10 k10_100 rfl rfl (Nat.le_of_ble_eq_true rfl) ⟨⟨Nat.le_of_ble_eq_true rfl, Nat.le_of_ble_eq_true rfl⟩, ⟨Nat.le_of_ble_eq_true rfl, Nat.le_of_ble_eq_true rfl⟩⟩ ⟨rfl, rfl⟩ (w_within G a2 (b := 3) (by omega)) (fun v h2 hq => ?_)
    obtain ⟨rfl, rfl⟩ := hq
    refine aw_if_eq_B (tgt := 22) dX10_sheet_13 (by decide) (fun c13 => ?_) (fun c13 => ?_)
    · refine aw_bipush (v := -2) dX10_sheet_22 (by decide) ?_
      refine aw_reti dX10_sheet_24 rfl rfl ⟨Nat.le_of_ble_eq_true rfl, Nat.le_of_ble_eq_true rfl⟩ ?_
      exact ⟨rfl, _, _, _, rfl, hI, fun _ _ => rfl⟩
    · refine aw_iload_n dX10_sheet_16 rfl ?_
      refine aw_bipush (v := 60) dX10_sheet_17 (by decide) ?_
      refine aw_ic_le (tgt := 25) dX10_sheet_19 (by decide) (fun z => absurd z (fun q => hz ⟨c5, c13, q⟩)) (fun c19 => ?_)
      refine aw_bipush (v := -2) dX10_sheet_22 (by decide) ?_
      refine aw_reti dX10_sheet_24 rfl rfl ⟨Nat.le_of_ble_eq_true rfl, Nat.le_of_ble_eq_true rfl⟩ ?_
      exact ⟨rfl, _, _, _, rfl, hI, fun _ _ => rfl⟩
theorem c_sheetN (G : aw_G) {n c : Nat} {I : Nat → Nat → Int32} {L : Nat → Nat → Int64} {b0 b1 : Nat → Nat} {l0 l1 : Nat} {t u x y V g : Nat → Nat → Nat} {kk : Nat} {F S : Nat → Nat} {E : Nat → Nat → Int32} {fd : Int32} (hX : zTx b0 b1 l0 l1 t u x y V kk) (hI : zCI b0 b1 l0 l1 t u x y g F S E fd I) {p1 p2 : Nat} {a3 : Int32} (hp1 : p1 < 4) (hp2 : p2 < 3) (h3 : a3 ≤ 60) (hn : ¬ 0 ≤ a3) : aw_Met G mX10_sheet [.ref 3, .int (nI p1), .int (nI p2), .int a3] (zH n I L c) (fun v h2 => v = some (.int (-10 - 5)) ∧ ∃ I2 L2 c2, h2 = zH n I2 L2 c2 ∧ zCI b0 b1 l0 l1 t u x y g F S E 5 I2 ∧ ∀ o, 81 ≤ o → I2 o = I o) := by
  obtain ⟨hW, hC, hF, ⟨s0, hO, hR⟩, ⟨t2, s2, hD⟩, hG, hS, hfd⟩ := id hI
  obtain ⟨hP, h60, h61, htc, hV, hkk, hx, hy⟩ := id hX
  have h8 := hP.1.1
  have hk10 : kk ≤ 10 := by rw [hkk]; exact q_k_leW hW.1.2.2.2.2
  have hi6 : I 6 5 = nI (t 6 0) := by rw [h60]; exact hC.2.2
  have hi4 : I 4 5 = nI kk := by rw [hkk]; exact hW.2.2
  have hVo : f_Vok V kk := by rw [hV, hkk]; exact v_w_ok
  have hsm := zSame hP hO.1
  have hbd := zBd (m := z0) (u := u) hP.1 hP.2.2.2.1 hP.2.2.2.2.1 hP.2.2.2.2.2 hO.1
  have hS0 : p_play s0 t u x 0 0 = t 6 0 := hbd.1.1
  refine aw_Met.of okX10_sheet (Nat.le_of_ble_eq_true rfl) ?_
  show aw_W G mX10_sheet 0 [.ref 3, .int (nI p1), .int (nI p2), .int a3] [] (zH n I L c) (0, 0) _
  refine aw_iload_n dX10_sheet_0 rfl ?_
  refine aw_iconst (v := 4) dX10_sheet_1 rfl ?_
  refine aw_S0c (As := [_, _]) dX10_sheet_2 k10_100 rfl rfl (Nat.le_of_ble_eq_true rfl) ⟨⟨Nat.le_of_ble_eq_true rfl, Nat.le_of_ble_eq_true rfl⟩, ⟨Nat.le_of_ble_eq_true rfl, Nat.le_of_ble_eq_true rfl⟩⟩ ⟨rfl, rfl⟩ (w_within G ((nI p1)) (b := 4) (by omega)) (fun v h2 hq => ?_)
  obtain ⟨rfl, rfl⟩ := hq
  refine aw_if_eq_B (tgt := 22) dX10_sheet_5 (by decide) (fun z => absurd z (fun q => q ((zok_nI (by omega)).mpr hp1))) (fun c5 => ?_)
  refine aw_iload_n dX10_sheet_8 rfl ?_
  refine aw_iconst (v := 3) dX10_sheet_9 rfl ?_
  refine aw_S0c (As := [_, _]) dX10_sheet_10 k10_100 rfl rfl (Nat.le_of_ble_eq_true rfl) ⟨⟨Nat.le_of_ble_eq_true rfl, Nat.le_of_ble_eq_true rfl⟩, ⟨Nat.le_of_ble_eq_true rfl, Nat.le_of_ble_eq_true rfl⟩⟩ ⟨rfl, rfl⟩ (w_within G ((nI p2)) (b := 3) (by omega)) (fun v h2 hq => ?_)
  obtain ⟨rfl, rfl⟩ := hq
  refine aw_if_eq_B (tgt := 22) dX10_sheet_13 (by decide) (fun z => absurd z (fun q => q ((zok_nI (by omega)).mpr hp2))) (fun c13 => ?_)
  refine aw_iload_n dX10_sheet_16 rfl ?_
  refine aw_bipush (v := 60) dX10_sheet_17 (by decide) ?_
  refine aw_ic_le (tgt := 25) dX10_sheet_19 (by decide) (fun c19 => ?_) (fun z => absurd z (fun q => q h3))
  refine aw_iload_n dX10_sheet_25 rfl ?_
  refine aw_if_ge (tgt := 35) dX10_sheet_26 (by decide) (fun z => absurd z hn) (fun c26 => ?_)
  refine aw_aload_n dX10_sheet_29 rfl ?_
  refine aw_iconst (v := 5) dX10_sheet_30 rfl ?_
  refine aw_V0c (As := [_]) dX10_sheet_31 k10_154 rfl rfl rfl ⟨Nat.le_of_ble_eq_true rfl, Nat.le_of_ble_eq_true rfl⟩ (Nat.le_of_ble_eq_true rfl) ⟨⟨Nat.le_of_ble_eq_true rfl, Nat.le_of_ble_eq_true rfl⟩, ⟨Nat.le_of_ble_eq_true rfl, Nat.le_of_ble_eq_true rfl⟩⟩ ⟨rfl, rfl⟩ (w_found G (v0 := 5)) (fun v h2 hq => ?_)
  obtain ⟨rfl, rfl⟩ := hq
  refine aw_reti dX10_sheet_34 rfl rfl ⟨Nat.le_of_ble_eq_true rfl, Nat.le_of_ble_eq_true rfl⟩ ?_
  exact ⟨rfl, _, _, _, rfl, hI.fnd _, fun o ho => aw_u_ne (by omega)⟩
theorem c_sheet (G : aw_G) {n c : Nat} {I : Nat → Nat → Int32} {L : Nat → Nat → Int64} {b0 b1 : Nat → Nat} {l0 l1 : Nat} {t u x y V g : Nat → Nat → Nat} {kk : Nat} {F S : Nat → Nat} {E : Nat → Nat → Int32} {fd : Int32} (hX : zTx b0 b1 l0 l1 t u x y V kk) (hI : zCI b0 b1 l0 l1 t u x y g F S E fd I) {p1 p2 p3 : Nat} (hp1 : p1 < 4) (hp2 : p2 < 3) (hp3 : p3 ≤ 60) : aw_Met G mX10_sheet [.ref 3, .int (nI p1), .int (nI p2), .int (nI p3)] (zH n I L c) (fun v h2 => v = some (.int (nI p3)) ∧ ∃ I2 L2 c2, h2 = zH n I2 L2 c2 ∧ zCI b0 b1 l0 l1 t u x y g (va_up F p1 (p2 + 1)) (va_up S p1 p3) (va_up E p1 (fun _ => 0)) fd I2 ∧ ∀ o, 81 ≤ o → I2 o = I o) := by
  obtain ⟨hW, hC, hF, ⟨s0, hO, hR⟩, ⟨t2, s2, hD⟩, hG, hS, hfd⟩ := id hI
  obtain ⟨hP, h60, h61, htc, hV, hkk, hx, hy⟩ := id hX
  have h8 := hP.1.1
  have hk10 : kk ≤ 10 := by rw [hkk]; exact q_k_leW hW.1.2.2.2.2
  have hi6 : I 6 5 = nI (t 6 0) := by rw [h60]; exact hC.2.2
  have hi4 : I 4 5 = nI kk := by rw [hkk]; exact hW.2.2
  have hVo : f_Vok V kk := by rw [hV, hkk]; exact v_w_ok
  have hsm := zSame hP hO.1
  have hbd := zBd (m := z0) (u := u) hP.1 hP.2.2.2.1 hP.2.2.2.2.1 hP.2.2.2.2.2 hO.1
  have hS0 : p_play s0 t u x 0 0 = t 6 0 := hbd.1.1
  refine aw_Met.of okX10_sheet (Nat.le_of_ble_eq_true rfl) ?_
  show aw_W G mX10_sheet 0 [.ref 3, .int (nI p1), .int (nI p2), .int (nI p3)] [] (zH n I L c) (0, 0) _
  refine aw_iload_n dX10_sheet_0 rfl ?_
  refine aw_iconst (v := 4) dX10_sheet_1 rfl ?_
  refine aw_S0c (As := [_, _]) dX10_sheet_2 k10_100 rfl rfl (Nat.le_of_ble_eq_true rfl) ⟨⟨Nat.le_of_ble_eq_true rfl, Nat.le_of_ble_eq_true rfl⟩, ⟨Nat.le_of_ble_eq_true rfl, Nat.le_of_ble_eq_true rfl⟩⟩ ⟨rfl, rfl⟩ (w_within G ((nI p1)) (b := 4) (by omega)) (fun v h2 hq => ?_)
  obtain ⟨rfl, rfl⟩ := hq
  refine aw_if_eq_B (tgt := 22) dX10_sheet_5 (by decide) (fun z => absurd z (fun q => q ((zok_nI (by omega)).mpr hp1))) (fun c5 => ?_)
  refine aw_iload_n dX10_sheet_8 rfl ?_
  refine aw_iconst (v := 3) dX10_sheet_9 rfl ?_
  refine aw_S0c (As := [_, _]) dX10_sheet_10 k10_100 rfl rfl (Nat.le_of_ble_eq_true rfl) ⟨⟨Nat.le_of_ble_eq_true rfl, Nat.le_of_ble_eq_true rfl⟩, ⟨Nat.le_of_ble_eq_true rfl, Nat.le_of_ble_eq_true rfl⟩⟩ ⟨rfl, rfl⟩ (w_within G ((nI p2)) (b := 3) (by omega)) (fun v h2 hq => ?_)
  obtain ⟨rfl, rfl⟩ := hq
  refine aw_if_eq_B (tgt := 22) dX10_sheet_13 (by decide) (fun z => absurd z (fun q => q ((zok_nI (by omega)).mpr hp2))) (fun c13 => ?_)
  refine aw_iload_n dX10_sheet_16 rfl ?_
  refine aw_bipush (v := 60) dX10_sheet_17 (by decide) ?_
  refine aw_ic_le_n (a := p3) (b := 60) (tgt := 25) dX10_sheet_19 (by decide) (by omega) (by omega) (fun c19 => ?_) (fun z => absurd z (by omega))
  refine aw_iload_n dX10_sheet_25 rfl ?_
  refine aw_if_ge_n (a := p3) (tgt := 35) dX10_sheet_26 (by decide) (by omega) (fun c26 => ?_) (fun z => absurd z (fun z => z))
  refine aw_aload_n dX10_sheet_35 rfl ?_
  refine aw_getR dX10_sheet_36 f10_91 rfl ⟨Nat.le_of_ble_eq_true rfl, Nat.le_of_ble_eq_true rfl⟩ rfl rfl ?_
  refine aw_iload_n dX10_sheet_39 rfl ?_
  refine aw_aald dX10_sheet_40 rfl ⟨Nat.le_of_ble_eq_true rfl, Nat.le_of_ble_eq_true rfl⟩ (vp_in_nI hp1 (by decide)) (by rw [nI_clamp (by omega)]; exact zR_sh hp1) ?_
  refine aw_iload_n dX10_sheet_41 rfl ?_
  refine aw_iload_n dX10_sheet_42 rfl ?_
  refine aw_V0c (As := [_, _]) dX10_sheet_43 k10_249 rfl rfl (zS_sh hp1) ⟨by omega, (show 73 + 2 * p1 < 105 by omega)⟩ (Nat.le_of_ble_eq_true rfl) ⟨⟨Nat.le_of_ble_eq_true rfl, Nat.le_of_ble_eq_true rfl⟩, ⟨Nat.le_of_ble_eq_true rfl, Nat.le_of_ble_eq_true rfl⟩⟩ ⟨rfl, rfl⟩ (w_renew G hp1) (fun v h2 hq => ?_)
  obtain ⟨rfl, I1, rfl, r1, r2, r3, r4, r5⟩ := hq
  refine aw_iload_n dX10_sheet_46 rfl ?_
  refine aw_reti dX10_sheet_47 rfl rfl ⟨Nat.le_of_ble_eq_true rfl, Nat.le_of_ble_eq_true rfl⟩ ?_
  exact ⟨rfl, _, _, _, rfl, hI.sh (hS.mk hp1 hp2 hp3 r1 r2 r3 (fun i hi => r4 i (by omega)) r5) (fun o a b => r5 o (by omega) (by omega)) (by rw [r5 3 (by omega) (by omega)]; exact hfd), fun o ho => r5 o (by omega) (by omega)⟩
theorem c_loseB (G : aw_G) {n c : Nat} {I : Nat → Nat → Int32} {L : Nat → Nat → Int64} {b0 b1 : Nat → Nat} {l0 l1 : Nat} {t u x y V g : Nat → Nat → Nat} {kk : Nat} {F S : Nat → Nat} {E : Nat → Nat → Int32} {fd : Int32} (hX : zTx b0 b1 l0 l1 t u x y V kk) (hI : zCI b0 b1 l0 l1 t u x y g F S E fd I) {a1 : Int32} (hz : ¬ (zok a1 4)) : aw_Met G mX10_lose [.ref 3, .int a1] (zH n I L c) (fun v h2 => v = some (.int (-2)) ∧ ∃ I2 L2 c2, h2 = zH n I2 L2 c2 ∧ zCI b0 b1 l0 l1 t u x y g F S E fd I2 ∧ ∀ o, 81 ≤ o → I2 o = I o) := by
  obtain ⟨hW, hC, hF, ⟨s0, hO, hR⟩, ⟨t2, s2, hD⟩, hG, hS, hfd⟩ := id hI
  obtain ⟨hP, h60, h61, htc, hV, hkk, hx, hy⟩ := id hX
  have h8 := hP.1.1
  have hk10 : kk ≤ 10 := by rw [hkk]; exact q_k_leW hW.1.2.2.2.2
  have hi6 : I 6 5 = nI (t 6 0) := by rw [h60]; exact hC.2.2
  have hi4 : I 4 5 = nI kk := by rw [hkk]; exact hW.2.2
  have hVo : f_Vok V kk := by rw [hV, hkk]; exact v_w_ok
  have hsm := zSame hP hO.1
  have hbd := zBd (m := z0) (u := u) hP.1 hP.2.2.2.1 hP.2.2.2.2.1 hP.2.2.2.2.2 hO.1
  have hS0 : p_play s0 t u x 0 0 = t 6 0 := hbd.1.1
  refine aw_Met.of okX10_lose (Nat.le_of_ble_eq_true rfl) ?_
  show aw_W G mX10_lose 0 [.ref 3, .int a1] [] (zH n I L c) (0, 0) _
  refine aw_iload_n dX10_lose_0 rfl ?_
  refine aw_iconst (v := 4) dX10_lose_1 rfl ?_
  refine aw_S0c (As := [_, _]) dX10_lose_2 k10_100 rfl rfl (Nat.le_of_ble_eq_true rfl) ⟨⟨Nat.le_of_ble_eq_true rfl, Nat.le_of_ble_eq_true rfl⟩, ⟨Nat.le_of_ble_eq_true rfl, Nat.le_of_ble_eq_true rfl⟩⟩ ⟨rfl, rfl⟩ (w_within G a1 (b := 4) (by omega)) (fun v h2 hq => ?_)
  obtain ⟨rfl, rfl⟩ := hq
  refine aw_if_ne_B (tgt := 11) dX10_lose_5 (by decide) (fun z => absurd z hz) (fun c5 => ?_)
  refine aw_bipush (v := -2) dX10_lose_8 (by decide) ?_
  refine aw_reti dX10_lose_10 rfl rfl ⟨Nat.le_of_ble_eq_true rfl, Nat.le_of_ble_eq_true rfl⟩ ?_
  exact ⟨rfl, _, _, _, rfl, hI, fun _ _ => rfl⟩
theorem c_loseN (G : aw_G) {n c : Nat} {I : Nat → Nat → Int32} {L : Nat → Nat → Int64} {b0 b1 : Nat → Nat} {l0 l1 : Nat} {t u x y V g : Nat → Nat → Nat} {kk : Nat} {F S : Nat → Nat} {E : Nat → Nat → Int32} {fd : Int32} (hX : zTx b0 b1 l0 l1 t u x y V kk) (hI : zCI b0 b1 l0 l1 t u x y g F S E fd I) {p1 : Nat} (hp1 : p1 < 4) (h0 : F p1 = 0) : aw_Met G mX10_lose [.ref 3, .int (nI p1)] (zH n I L c) (fun v h2 => v = some (.int (-10 - 1)) ∧ ∃ I2 L2 c2, h2 = zH n I2 L2 c2 ∧ zCI b0 b1 l0 l1 t u x y g F S E 1 I2 ∧ ∀ o, 81 ≤ o → I2 o = I o) := by
  obtain ⟨hW, hC, hF, ⟨s0, hO, hR⟩, ⟨t2, s2, hD⟩, hG, hS, hfd⟩ := id hI
  obtain ⟨hP, h60, h61, htc, hV, hkk, hx, hy⟩ := id hX
  have h8 := hP.1.1
  have hk10 : kk ≤ 10 := by rw [hkk]; exact q_k_leW hW.1.2.2.2.2
  have hi6 : I 6 5 = nI (t 6 0) := by rw [h60]; exact hC.2.2
  have hi4 : I 4 5 = nI kk := by rw [hkk]; exact hW.2.2
  have hVo : f_Vok V kk := by rw [hV, hkk]; exact v_w_ok
  have hsm := zSame hP hO.1
  have hbd := zBd (m := z0) (u := u) hP.1 hP.2.2.2.1 hP.2.2.2.2.1 hP.2.2.2.2.2 hO.1
  have hS0 : p_play s0 t u x 0 0 = t 6 0 := hbd.1.1
  refine aw_Met.of okX10_lose (Nat.le_of_ble_eq_true rfl) ?_
  show aw_W G mX10_lose 0 [.ref 3, .int (nI p1)] [] (zH n I L c) (0, 0) _
  refine aw_iload_n dX10_lose_0 rfl ?_
  refine aw_iconst (v := 4) dX10_lose_1 rfl ?_
  refine aw_S0c (As := [_, _]) dX10_lose_2 k10_100 rfl rfl (Nat.le_of_ble_eq_true rfl) ⟨⟨Nat.le_of_ble_eq_true rfl, Nat.le_of_ble_eq_true rfl⟩, ⟨Nat.le_of_ble_eq_true rfl, Nat.le_of_ble_eq_true rfl⟩⟩ ⟨rfl, rfl⟩ (w_within G ((nI p1)) (b := 4) (by omega)) (fun v h2 hq => ?_)
  obtain ⟨rfl, rfl⟩ := hq
  refine aw_if_ne_B (tgt := 11) dX10_lose_5 (by decide) (fun c5 => ?_) (fun z => absurd z (fun q => q ((zok_nI (by omega)).mpr hp1)))
  refine aw_aload_n dX10_lose_11 rfl ?_
  refine aw_getR dX10_lose_12 f10_91 rfl ⟨Nat.le_of_ble_eq_true rfl, Nat.le_of_ble_eq_true rfl⟩ rfl rfl ?_
  refine aw_iload_n dX10_lose_15 rfl ?_
  refine aw_aald dX10_lose_16 rfl ⟨Nat.le_of_ble_eq_true rfl, Nat.le_of_ble_eq_true rfl⟩ (vp_in_nI hp1 (by decide)) (by rw [nI_clamp (by omega)]; exact zR_sh hp1) ?_
  refine aw_getZ dX10_lose_17 f10_150 (zS_sh hp1) ⟨by omega, (show 73 + 2 * p1 < 105 by omega)⟩ rfl ?_
  refine aw_top (hS p1 hp1).2.2.1 ?_
  refine aw_if_eq_B (tgt := 29) dX10_lose_20 (by decide) (fun z => absurd z (fun q => q h0)) (fun c20 => ?_)
  refine aw_aload_n dX10_lose_23 rfl ?_
  refine aw_iconst (v := 1) dX10_lose_24 rfl ?_
  refine aw_V0c (As := [_]) dX10_lose_25 k10_154 rfl rfl rfl ⟨Nat.le_of_ble_eq_true rfl, Nat.le_of_ble_eq_true rfl⟩ (Nat.le_of_ble_eq_true rfl) ⟨⟨Nat.le_of_ble_eq_true rfl, Nat.le_of_ble_eq_true rfl⟩, ⟨Nat.le_of_ble_eq_true rfl, Nat.le_of_ble_eq_true rfl⟩⟩ ⟨rfl, rfl⟩ (w_found G (v0 := 1)) (fun v h2 hq => ?_)
  obtain ⟨rfl, rfl⟩ := hq
  refine aw_reti dX10_lose_28 rfl rfl ⟨Nat.le_of_ble_eq_true rfl, Nat.le_of_ble_eq_true rfl⟩ ?_
  exact ⟨rfl, _, _, _, rfl, hI.fnd _, fun o ho => aw_u_ne (by omega)⟩
theorem c_lose (G : aw_G) {n c : Nat} {I : Nat → Nat → Int32} {L : Nat → Nat → Int64} {b0 b1 : Nat → Nat} {l0 l1 : Nat} {t u x y V g : Nat → Nat → Nat} {kk : Nat} {F S : Nat → Nat} {E : Nat → Nat → Int32} {fd : Int32} (hX : zTx b0 b1 l0 l1 t u x y V kk) (hI : zCI b0 b1 l0 l1 t u x y g F S E fd I) {p1 : Nat} (hp1 : p1 < 4) (hFp1 : F p1 ≠ 0) : aw_Met G mX10_lose [.ref 3, .int (nI p1)] (zH n I L c) (fun v h2 => v = some (.int (nI (S p1))) ∧ ∃ I2 L2 c2, h2 = zH n I2 L2 c2 ∧ zCI b0 b1 l0 l1 t u x y g (va_up F p1 0) S E fd I2 ∧ ∀ o, 81 ≤ o → I2 o = I o) := by
  obtain ⟨hW, hC, hF, ⟨s0, hO, hR⟩, ⟨t2, s2, hD⟩, hG, hS, hfd⟩ := id hI
  obtain ⟨hP, h60, h61, htc, hV, hkk, hx, hy⟩ := id hX
  have h8 := hP.1.1
  have hk10 : kk ≤ 10 := by rw [hkk]; exact q_k_leW hW.1.2.2.2.2
  have hi6 : I 6 5 = nI (t 6 0) := by rw [h60]; exact hC.2.2
  have hi4 : I 4 5 = nI kk := by rw [hkk]; exact hW.2.2
  have hVo : f_Vok V kk := by rw [hV, hkk]; exact v_w_ok
  have hsm := zSame hP hO.1
  have hbd := zBd (m := z0) (u := u) hP.1 hP.2.2.2.1 hP.2.2.2.2.1 hP.2.2.2.2.2 hO.1
  have hS0 : p_play s0 t u x 0 0 = t 6 0 := hbd.1.1
  refine aw_Met.of okX10_lose (Nat.le_of_ble_eq_true rfl) ?_
  show aw_W G mX10_lose 0 [.ref 3, .int (nI p1)] [] (zH n I L c) (0, 0) _
  refine aw_iload_n dX10_lose_0 rfl ?_
  refine aw_iconst (v := 4) dX10_lose_1 rfl ?_
  refine aw_S0c (As := [_, _]) dX10_lose_2 k10_100 rfl rfl (Nat.le_of_ble_eq_true rfl) ⟨⟨Nat.le_of_ble_eq_true rfl, Nat.le_of_ble_eq_true rfl⟩, ⟨Nat.le_of_ble_eq_true rfl, Nat.le_of_ble_eq_true rfl⟩⟩ ⟨rfl, rfl⟩ (w_within G ((nI p1)) (b := 4) (by omega)) (fun v h2 hq => ?_)
  obtain ⟨rfl, rfl⟩ := hq
  refine aw_if_ne_B (tgt := 11) dX10_lose_5 (by decide) (fun c5 => ?_) (fun z => absurd z (fun q => q ((zok_nI (by omega)).mpr hp1)))
  refine aw_aload_n dX10_lose_11 rfl ?_
  refine aw_getR dX10_lose_12 f10_91 rfl ⟨Nat.le_of_ble_eq_true rfl, Nat.le_of_ble_eq_true rfl⟩ rfl rfl ?_
  refine aw_iload_n dX10_lose_15 rfl ?_
  refine aw_aald dX10_lose_16 rfl ⟨Nat.le_of_ble_eq_true rfl, Nat.le_of_ble_eq_true rfl⟩ (vp_in_nI hp1 (by decide)) (by rw [nI_clamp (by omega)]; exact zR_sh hp1) ?_
  refine aw_getZ dX10_lose_17 f10_150 (zS_sh hp1) ⟨by omega, (show 73 + 2 * p1 < 105 by omega)⟩ rfl ?_
  refine aw_top (hS p1 hp1).2.2.1 ?_
  refine aw_if_eq_B (tgt := 29) dX10_lose_20 (by decide) (fun c20 => ?_) (fun z => absurd z hFp1)
  refine aw_aload_n dX10_lose_29 rfl ?_
  refine aw_getR dX10_lose_30 f10_91 rfl ⟨Nat.le_of_ble_eq_true rfl, Nat.le_of_ble_eq_true rfl⟩ rfl rfl ?_
  refine aw_iload_n dX10_lose_33 rfl ?_
  refine aw_aald dX10_lose_34 rfl ⟨Nat.le_of_ble_eq_true rfl, Nat.le_of_ble_eq_true rfl⟩ (vp_in_nI hp1 (by decide)) (by rw [nI_clamp (by omega)]; exact zR_sh hp1) ?_
  refine aw_iconst (v := 1) dX10_lose_35 rfl ?_
  refine aw_putZ dX10_lose_36 f10_150 (zS_sh hp1) ⟨by omega, (show 73 + 2 * p1 < 105 by omega)⟩ (Or.inl rfl) rfl (by decide) ?_
  refine aw_aload_n dX10_lose_39 rfl ?_
  refine aw_getR dX10_lose_40 f10_91 rfl ⟨Nat.le_of_ble_eq_true rfl, Nat.le_of_ble_eq_true rfl⟩ rfl rfl ?_
  refine aw_iload_n dX10_lose_43 rfl ?_
  refine aw_aald dX10_lose_44 rfl ⟨Nat.le_of_ble_eq_true rfl, Nat.le_of_ble_eq_true rfl⟩ (vp_in_nI hp1 (by decide)) (by rw [nI_clamp (by omega)]; exact zR_sh hp1) ?_
  refine aw_getI dX10_lose_45 f10_158 (zS_sh hp1) ⟨by omega, (show 73 + 2 * p1 < 105 by omega)⟩ rfl ?_
  refine aw_top ((aw_u_nj (by decide)).trans ((hS p1 hp1).2.2.2 hFp1).2.1) ?_
  refine aw_reti dX10_lose_48 rfl rfl ⟨Nat.le_of_ble_eq_true rfl, Nat.le_of_ble_eq_true rfl⟩ ?_
  exact ⟨rfl, _, _, _, rfl, hI.sh (hS.lose hp1) (fun o a b => aw_u_ne (by omega)) (by rw [aw_u_ne (by omega)]; exact hfd), fun o ho => aw_u_ne (by omega)⟩
theorem c_refuse (G : aw_G) {n c : Nat} {I : Nat → Nat → Int32} {L : Nat → Nat → Int64} {b0 b1 : Nat → Nat} {l0 l1 : Nat} {t u x y V g : Nat → Nat → Nat} {kk : Nat} {F S : Nat → Nat} {E : Nat → Nat → Int32} {fd : Int32} (hX : zTx b0 b1 l0 l1 t u x y V kk) (hI : zCI b0 b1 l0 l1 t u x y g F S E fd I) {p1 p2 : Nat} {a3 : Int32} (hp1 : p1 < 4) (hp2 : p2 < 3) : aw_Met G mX10_itemRefusal [.ref 3, .int (nI p1), .int (nI p2), .int a3] (zH n I L c) (fun v h2 => v = some (.int (r_rv (r_rk F S p1 p2 a3))) ∧ ∃ I2, h2 = zH n I2 L c ∧ zCI b0 b1 l0 l1 t u x y g F S E (r_fd (r_rk F S p1 p2 a3) fd) I2 ∧ ∀ o, 81 ≤ o → I2 o = I o) := by
  obtain ⟨hW, hC, hF, ⟨s0, hO, hR⟩, ⟨t2, s2, hD⟩, hG, hS, hfd⟩ := id hI
  obtain ⟨hP, h60, h61, htc, hV, hkk, hx, hy⟩ := id hX
  have h8 := hP.1.1
  have hk10 : kk ≤ 10 := by rw [hkk]; exact q_k_leW hW.1.2.2.2.2
  have hi6 : I 6 5 = nI (t 6 0) := by rw [h60]; exact hC.2.2
  have hi4 : I 4 5 = nI kk := by rw [hkk]; exact hW.2.2
  have hVo : f_Vok V kk := by rw [hV, hkk]; exact v_w_ok
  have hsm := zSame hP hO.1
  have hbd := zBd (m := z0) (u := u) hP.1 hP.2.2.2.1 hP.2.2.2.2.1 hP.2.2.2.2.2 hO.1
  have hS0 : p_play s0 t u x 0 0 = t 6 0 := hbd.1.1
  have hf3 := (hS p1 hp1).1
  have hs60 := (hS p1 hp1).2.1
  refine aw_Met.of okX10_itemRefusal (Nat.le_of_ble_eq_true rfl) ?_
  show aw_W G mX10_itemRefusal 0 [.ref 3, .int (nI p1), .int (nI p2), .int a3] [] (zH n I L c) (0, 0) _
  refine aw_iload_n dX10_itemRefusal_0 rfl ?_
  refine aw_iconst (v := 4) dX10_itemRefusal_1 rfl ?_
  refine aw_S0c (As := [_, _]) dX10_itemRefusal_2 k10_100 rfl rfl (Nat.le_of_ble_eq_true rfl) ⟨⟨Nat.le_of_ble_eq_true rfl, Nat.le_of_ble_eq_true rfl⟩, ⟨Nat.le_of_ble_eq_true rfl, Nat.le_of_ble_eq_true rfl⟩⟩ ⟨rfl, rfl⟩ (w_within G ((nI p1)) (b := 4) (by omega)) (fun v h2 hq => ?_)
  obtain ⟨rfl, rfl⟩ := hq
  refine aw_if_eq_B (tgt := 16) dX10_itemRefusal_5 (by decide) (fun z => absurd z (fun q => q ((zok_nI (by omega)).mpr hp1))) (fun c5 => ?_)
  refine aw_iload_n dX10_itemRefusal_8 rfl ?_
  refine aw_iconst (v := 3) dX10_itemRefusal_9 rfl ?_
  refine aw_S0c (As := [_, _]) dX10_itemRefusal_10 k10_100 rfl rfl (Nat.le_of_ble_eq_true rfl) ⟨⟨Nat.le_of_ble_eq_true rfl, Nat.le_of_ble_eq_true rfl⟩, ⟨Nat.le_of_ble_eq_true rfl, Nat.le_of_ble_eq_true rfl⟩⟩ ⟨rfl, rfl⟩ (w_within G ((nI p2)) (b := 3) (by omega)) (fun v h2 hq => ?_)
  obtain ⟨rfl, rfl⟩ := hq
  refine aw_if_ne_B (tgt := 19) dX10_itemRefusal_13 (by decide) (fun c13 => ?_) (fun z => absurd z (fun q => q ((zok_nI (by omega)).mpr hp2)))
  refine aw_aload_n dX10_itemRefusal_19 rfl ?_
  refine aw_getR dX10_itemRefusal_20 f10_91 rfl ⟨Nat.le_of_ble_eq_true rfl, Nat.le_of_ble_eq_true rfl⟩ rfl rfl ?_
  refine aw_iload_n dX10_itemRefusal_23 rfl ?_
  refine aw_aald dX10_itemRefusal_24 rfl ⟨Nat.le_of_ble_eq_true rfl, Nat.le_of_ble_eq_true rfl⟩ (vp_in_nI hp1 (by decide)) (by rw [nI_clamp (by omega)]; exact zR_sh hp1) ?_
  refine aw_getZ dX10_itemRefusal_25 f10_150 (zS_sh hp1) ⟨by omega, (show 73 + 2 * p1 < 105 by omega)⟩ rfl ?_
  refine aw_top (hS p1 hp1).2.2.1 ?_
  refine aw_if_eq_B (tgt := 37) dX10_itemRefusal_28 (by decide) (fun c28 => ?_) (fun c28 => ?_)
  · have hFp1 := c28
    refine aw_aload_n dX10_itemRefusal_37 rfl ?_
    refine aw_getR dX10_itemRefusal_38 f10_91 rfl ⟨Nat.le_of_ble_eq_true rfl, Nat.le_of_ble_eq_true rfl⟩ rfl rfl ?_
    refine aw_iload_n dX10_itemRefusal_41 rfl ?_
    refine aw_aald dX10_itemRefusal_42 rfl ⟨Nat.le_of_ble_eq_true rfl, Nat.le_of_ble_eq_true rfl⟩ (vp_in_nI hp1 (by decide)) (by rw [nI_clamp (by omega)]; exact zR_sh hp1) ?_
    refine aw_getI dX10_itemRefusal_43 f10_259 (zS_sh hp1) ⟨by omega, (show 73 + 2 * p1 < 105 by omega)⟩ rfl ?_
    refine aw_top ((hS p1 hp1).2.2.2 hFp1).1 ?_
    refine aw_iload_n dX10_itemRefusal_46 rfl ?_
    refine aw_ic_eq_n (a := F p1 - 1) (b := p2) (tgt := 56) dX10_itemRefusal_47 (by decide) (by omega) (by omega) (fun c47 => ?_) (fun c47 => ?_)
    · refine aw_iload_n dX10_itemRefusal_56 rfl ?_
      refine aw_aload_n dX10_itemRefusal_57 rfl ?_
      refine aw_getR dX10_itemRefusal_58 f10_91 rfl ⟨Nat.le_of_ble_eq_true rfl, Nat.le_of_ble_eq_true rfl⟩ rfl rfl ?_
      refine aw_iload_n dX10_itemRefusal_61 rfl ?_
      refine aw_aald dX10_itemRefusal_62 rfl ⟨Nat.le_of_ble_eq_true rfl, Nat.le_of_ble_eq_true rfl⟩ (vp_in_nI hp1 (by decide)) (by rw [nI_clamp (by omega)]; exact zR_sh hp1) ?_
      refine aw_getI dX10_itemRefusal_63 f10_158 (zS_sh hp1) ⟨by omega, (show 73 + 2 * p1 < 105 by omega)⟩ rfl ?_
      refine aw_top ((hS p1 hp1).2.2.2 hFp1).2.1 ?_
      refine aw_S0c (As := [_, _]) dX10_itemRefusal_66 k10_100 rfl rfl (Nat.le_of_ble_eq_true rfl) ⟨⟨Nat.le_of_ble_eq_true rfl, Nat.le_of_ble_eq_true rfl⟩, ⟨Nat.le_of_ble_eq_true rfl, Nat.le_of_ble_eq_true rfl⟩⟩ ⟨rfl, rfl⟩ (w_within G a3 (b := S p1) (by omega)) (fun v h2 hq => ?_)
      obtain ⟨rfl, rfl⟩ := hq
      refine aw_if_eq_B (tgt := 76) dX10_itemRefusal_69 (by decide) (fun c69 => ?_) (fun c69 => ?_)
      · refine aw_aload_n dX10_itemRefusal_76 rfl ?_
        refine aw_iconst (v := 2) dX10_itemRefusal_77 rfl ?_
        refine aw_V0c (As := [_]) dX10_itemRefusal_78 k10_154 rfl rfl rfl ⟨Nat.le_of_ble_eq_true rfl, Nat.le_of_ble_eq_true rfl⟩ (Nat.le_of_ble_eq_true rfl) ⟨⟨Nat.le_of_ble_eq_true rfl, Nat.le_of_ble_eq_true rfl⟩, ⟨Nat.le_of_ble_eq_true rfl, Nat.le_of_ble_eq_true rfl⟩⟩ ⟨rfl, rfl⟩ (w_found G (v0 := 2)) (fun v h2 hq => ?_)
        obtain ⟨rfl, rfl⟩ := hq
        refine aw_reti dX10_itemRefusal_81 rfl rfl ⟨Nat.le_of_ble_eq_true rfl, Nat.le_of_ble_eq_true rfl⟩ ?_
        exact ⟨by unfold r_rv r_rk; rw [if_neg c28, if_pos (show F p1 = p2 + 1 by omega), if_neg c69, if_neg (by decide)]; rfl, _, rfl, by unfold r_fd r_rk; rw [if_neg c28, if_pos (show F p1 = p2 + 1 by omega), if_neg c69, if_neg (by decide)]; exact hI.fnd _, fun o ho => aw_u_ne (by omega)⟩
      · refine aw_iconst (v := 0) dX10_itemRefusal_72 rfl ?_
        refine aw_goto (tgt := 81) dX10_itemRefusal_73 (by decide) ?_
        refine aw_reti dX10_itemRefusal_81 rfl rfl ⟨Nat.le_of_ble_eq_true rfl, Nat.le_of_ble_eq_true rfl⟩ ?_
        exact ⟨by unfold r_rv r_rk; rw [if_neg c28, if_pos (show F p1 = p2 + 1 by omega), if_pos c69, if_pos rfl], _, rfl, by unfold r_fd r_rk; rw [if_neg c28, if_pos (show F p1 = p2 + 1 by omega), if_pos c69, if_pos rfl]; exact hI, fun o ho => rfl⟩
    · refine aw_aload_n dX10_itemRefusal_50 rfl ?_
      refine aw_iconst (v := 3) dX10_itemRefusal_51 rfl ?_
      refine aw_V0c (As := [_]) dX10_itemRefusal_52 k10_154 rfl rfl rfl ⟨Nat.le_of_ble_eq_true rfl, Nat.le_of_ble_eq_true rfl⟩ (Nat.le_of_ble_eq_true rfl) ⟨⟨Nat.le_of_ble_eq_true rfl, Nat.le_of_ble_eq_true rfl⟩, ⟨Nat.le_of_ble_eq_true rfl, Nat.le_of_ble_eq_true rfl⟩⟩ ⟨rfl, rfl⟩ (w_found G (v0 := 3)) (fun v h2 hq => ?_)
      obtain ⟨rfl, rfl⟩ := hq
      refine aw_reti dX10_itemRefusal_55 rfl rfl ⟨Nat.le_of_ble_eq_true rfl, Nat.le_of_ble_eq_true rfl⟩ ?_
      exact ⟨by unfold r_rv r_rk; rw [if_neg c28, if_neg (show ¬ F p1 = p2 + 1 by omega), if_neg (by decide)]; rfl, _, rfl, by unfold r_fd r_rk; rw [if_neg c28, if_neg (show ¬ F p1 = p2 + 1 by omega), if_neg (by decide)]; exact hI.fnd _, fun o ho => aw_u_ne (by omega)⟩
  · refine aw_aload_n dX10_itemRefusal_31 rfl ?_
    refine aw_iconst (v := 1) dX10_itemRefusal_32 rfl ?_
    refine aw_V0c (As := [_]) dX10_itemRefusal_33 k10_154 rfl rfl rfl ⟨Nat.le_of_ble_eq_true rfl, Nat.le_of_ble_eq_true rfl⟩ (Nat.le_of_ble_eq_true rfl) ⟨⟨Nat.le_of_ble_eq_true rfl, Nat.le_of_ble_eq_true rfl⟩, ⟨Nat.le_of_ble_eq_true rfl, Nat.le_of_ble_eq_true rfl⟩⟩ ⟨rfl, rfl⟩ (w_found G (v0 := 1)) (fun v h2 hq => ?_)
    obtain ⟨rfl, rfl⟩ := hq
    refine aw_reti dX10_itemRefusal_36 rfl rfl ⟨Nat.le_of_ble_eq_true rfl, Nat.le_of_ble_eq_true rfl⟩ ?_
    exact ⟨by unfold r_rv r_rk; rw [if_pos c28, if_neg (by decide)]; rfl, _, rfl, by unfold r_fd r_rk; rw [if_pos c28, if_neg (by decide)]; exact hI.fnd _, fun o ho => aw_u_ne (by omega)⟩
theorem c_refuseB (G : aw_G) {n c : Nat} {I : Nat → Nat → Int32} {L : Nat → Nat → Int64} {b0 b1 : Nat → Nat} {l0 l1 : Nat} {t u x y V g : Nat → Nat → Nat} {kk : Nat} {F S : Nat → Nat} {E : Nat → Nat → Int32} {fd : Int32} (hX : zTx b0 b1 l0 l1 t u x y V kk) (hI : zCI b0 b1 l0 l1 t u x y g F S E fd I) {a1 a2 a3 : Int32} (hz : ¬ (zok a1 4 ∧ zok a2 3)) : aw_Met G mX10_itemRefusal [.ref 3, .int a1, .int a2, .int a3] (zH n I L c) (fun v h2 => v = some (.int (-2)) ∧ h2 = zH n I L c) := by
  obtain ⟨hW, hC, hF, ⟨s0, hO, hR⟩, ⟨t2, s2, hD⟩, hG, hS, hfd⟩ := id hI
  obtain ⟨hP, h60, h61, htc, hV, hkk, hx, hy⟩ := id hX
  have h8 := hP.1.1
  have hk10 : kk ≤ 10 := by rw [hkk]; exact q_k_leW hW.1.2.2.2.2
  have hi6 : I 6 5 = nI (t 6 0) := by rw [h60]; exact hC.2.2
  have hi4 : I 4 5 = nI kk := by rw [hkk]; exact hW.2.2
  have hVo : f_Vok V kk := by rw [hV, hkk]; exact v_w_ok
  have hsm := zSame hP hO.1
  have hbd := zBd (m := z0) (u := u) hP.1 hP.2.2.2.1 hP.2.2.2.2.1 hP.2.2.2.2.2 hO.1
  have hS0 : p_play s0 t u x 0 0 = t 6 0 := hbd.1.1
  refine aw_Met.of okX10_itemRefusal (Nat.le_of_ble_eq_true rfl) ?_
  show aw_W G mX10_itemRefusal 0 [.ref 3, .int a1, .int a2, .int a3] [] (zH n I L c) (0, 0) _
  refine aw_iload_n dX10_itemRefusal_0 rfl ?_
  refine aw_iconst (v := 4) dX10_itemRefusal_1 rfl ?_
  refine aw_S0c (As := [_, _]) dX10_itemRefusal_2 k10_100 rfl rfl (Nat.le_of_ble_eq_true rfl) ⟨⟨Nat.le_of_ble_eq_true rfl, Nat.le_of_ble_eq_true rfl⟩, ⟨Nat.le_of_ble_eq_true rfl, Nat.le_of_ble_eq_true rfl⟩⟩ ⟨rfl, rfl⟩ (w_within G a1 (b := 4) (by omega)) (fun v h2 hq => ?_)
  obtain ⟨rfl, rfl⟩ := hq
  refine aw_if_eq_B (tgt := 16) dX10_itemRefusal_5 (by decide) (fun c5 => ?_) (fun c5 => ?_)
  · refine aw_bipush (v := -2) dX10_itemRefusal_16 (by decide) ?_
    refine aw_reti dX10_itemRefusal_18 rfl rfl ⟨Nat.le_of_ble_eq_true rfl, Nat.le_of_ble_eq_true rfl⟩ ?_
    exact ⟨rfl, rfl⟩
  · refine aw_iload_n dX10_itemRefusal_8 rfl ?_
    refine aw_iconst (v := 3) dX10_itemRefusal_9 rfl ?_
    refine aw_S0c (As := [_, _]) dX10_itemRefusal_10 k10_100 rfl rfl (Nat.le_of_ble_eq_true rfl) ⟨⟨Nat.le_of_ble_eq_true rfl, Nat.le_of_ble_eq_true rfl⟩, ⟨Nat.le_of_ble_eq_true rfl, Nat.le_of_ble_eq_true rfl⟩⟩ ⟨rfl, rfl⟩ (w_within G a2 (b := 3) (by omega)) (fun v h2 hq => ?_)
    obtain ⟨rfl, rfl⟩ := hq
    refine aw_if_ne_B (tgt := 19) dX10_itemRefusal_13 (by decide) (fun z => absurd z (fun q => hz ⟨c5, q⟩)) (fun c13 => ?_)
    refine aw_bipush (v := -2) dX10_itemRefusal_16 (by decide) ?_
    refine aw_reti dX10_itemRefusal_18 rfl rfl ⟨Nat.le_of_ble_eq_true rfl, Nat.le_of_ble_eq_true rfl⟩ ?_
    exact ⟨rfl, rfl⟩
theorem r_rv_0 {k : Nat} (hk : k ≤ 3) : r_rv k = 0 ↔ k = 0 := by
  have h' : k = 0 ∨ k = 1 ∨ k = 2 ∨ k = 3 := by omega
  rcases h' with rfl | rfl | rfl | rfl <;> decide
theorem r_rk_le {F S : Nat → Nat} {p f : Nat} {a : Int32} : r_rk F S p f a ≤ 3 := by
  unfold r_rk; split
  · decide
  · split
    · split <;> decide
    · decide
theorem r_rk_ok {F S : Nat → Nat} {p f : Nat} {a : Int32} (h : r_rk F S p f a = 0) : F p = f + 1 ∧ ∃ i, i < S p ∧ a = nI i := by
  unfold r_rk at h
  by_cases h0 : F p = 0
  · rw [if_pos h0] at h; cases h
  · rw [if_neg h0] at h
    by_cases h1 : F p = f + 1
    · rw [if_pos h1] at h
      by_cases h2 : 0 ≤ a.toInt ∧ a.toInt < (S p : Int)
      · exact ⟨h1, zok_ex h2⟩
      · rw [if_neg h2] at h; cases h
    · rw [if_neg h1] at h; cases h
theorem c_layB (G : aw_G) {n c : Nat} {I : Nat → Nat → Int32} {L : Nat → Nat → Int64} {b0 b1 : Nat → Nat} {l0 l1 : Nat} {t u x y V g : Nat → Nat → Nat} {kk : Nat} {F S : Nat → Nat} {E : Nat → Nat → Int32} {fd : Int32} (hX : zTx b0 b1 l0 l1 t u x y V kk) (hI : zCI b0 b1 l0 l1 t u x y g F S E fd I) {a1 a2 a3 a4 : Int32} (hz : ¬ (zok a1 4 ∧ zok a2 3)) : aw_Met G mX10_lay [.ref 3, .int a1, .int a2, .int a3, .int a4] (zH n I L c) (fun v h2 => v = some (.int (-2)) ∧ ∃ I2 L2 c2, h2 = zH n I2 L2 c2 ∧ zCI b0 b1 l0 l1 t u x y g F S E fd I2 ∧ ∀ o, 81 ≤ o → I2 o = I o) := by
  obtain ⟨hW, hC, hF, ⟨s0, hO, hR⟩, ⟨t2, s2, hD⟩, hG, hS, hfd⟩ := id hI
  obtain ⟨hP, h60, h61, htc, hV, hkk, hx, hy⟩ := id hX
  have h8 := hP.1.1
  have hk10 : kk ≤ 10 := by rw [hkk]; exact q_k_leW hW.1.2.2.2.2
  have hi6 : I 6 5 = nI (t 6 0) := by rw [h60]; exact hC.2.2
  have hi4 : I 4 5 = nI kk := by rw [hkk]; exact hW.2.2
  have hVo : f_Vok V kk := by rw [hV, hkk]; exact v_w_ok
  have hsm := zSame hP hO.1
  have hbd := zBd (m := z0) (u := u) hP.1 hP.2.2.2.1 hP.2.2.2.2.1 hP.2.2.2.2.2 hO.1
  have hS0 : p_play s0 t u x 0 0 = t 6 0 := hbd.1.1
  refine aw_Met.of okX10_lay (Nat.le_of_ble_eq_true rfl) ?_
  show aw_W G mX10_lay 0 [.ref 3, .int a1, .int a2, .int a3, .int a4, aw_x] [] (zH n I L c) (0, 0) _
  refine aw_aload_n dX10_lay_0 rfl ?_
  refine aw_iload_n dX10_lay_1 rfl ?_
  refine aw_iload_n dX10_lay_2 rfl ?_
  refine aw_iload_n dX10_lay_3 rfl ?_
  refine aw_V0c (As := [_, _, _]) dX10_lay_4 k10_252 rfl rfl rfl ⟨Nat.le_of_ble_eq_true rfl, Nat.le_of_ble_eq_true rfl⟩ (Nat.le_of_ble_eq_true rfl) ⟨⟨Nat.le_of_ble_eq_true rfl, Nat.le_of_ble_eq_true rfl⟩, ⟨Nat.le_of_ble_eq_true rfl, Nat.le_of_ble_eq_true rfl⟩⟩ ⟨rfl, rfl⟩ (c_refuseB G hX hI hz) (fun v h2 hq => ?_)
  obtain ⟨rfl, rfl⟩ := hq
  refine aw_istore (ls2 := [_, _, _, _, _, _]) dX10_lay_7 (by decide) rfl rfl ?_
  refine aw_iload dX10_lay_9 rfl ?_
  refine aw_if_eq (tgt := 17) dX10_lay_11 (by decide) (fun z => absurd z (by decide)) (fun _ => ?_)
  refine aw_iload dX10_lay_14 rfl ?_
  refine aw_reti dX10_lay_16 rfl rfl ⟨Nat.le_of_ble_eq_true rfl, Nat.le_of_ble_eq_true rfl⟩ ?_
  exact ⟨rfl, _, _, _, rfl, hI, fun _ _ => rfl⟩
theorem c_layR (G : aw_G) {n c : Nat} {I : Nat → Nat → Int32} {L : Nat → Nat → Int64} {b0 b1 : Nat → Nat} {l0 l1 : Nat} {t u x y V g : Nat → Nat → Nat} {kk : Nat} {F S : Nat → Nat} {E : Nat → Nat → Int32} {fd : Int32} (hX : zTx b0 b1 l0 l1 t u x y V kk) (hI : zCI b0 b1 l0 l1 t u x y g F S E fd I) {p1 p2 : Nat} {a3 a4 : Int32} (hp1 : p1 < 4) (hp2 : p2 < 3) (hk : ¬ r_rk F S p1 p2 a3 = 0) : aw_Met G mX10_lay [.ref 3, .int (nI p1), .int (nI p2), .int a3, .int a4] (zH n I L c) (fun v h2 => v = some (.int (r_rv (r_rk F S p1 p2 a3))) ∧ ∃ I2 L2 c2, h2 = zH n I2 L2 c2 ∧ zCI b0 b1 l0 l1 t u x y g F S E (r_fd (r_rk F S p1 p2 a3) fd) I2 ∧ ∀ o, 81 ≤ o → I2 o = I o) := by
  obtain ⟨hW, hC, hF, ⟨s0, hO, hR⟩, ⟨t2, s2, hD⟩, hG, hS, hfd⟩ := id hI
  obtain ⟨hP, h60, h61, htc, hV, hkk, hx, hy⟩ := id hX
  have h8 := hP.1.1
  have hk10 : kk ≤ 10 := by rw [hkk]; exact q_k_leW hW.1.2.2.2.2
  have hi6 : I 6 5 = nI (t 6 0) := by rw [h60]; exact hC.2.2
  have hi4 : I 4 5 = nI kk := by rw [hkk]; exact hW.2.2
  have hVo : f_Vok V kk := by rw [hV, hkk]; exact v_w_ok
  have hsm := zSame hP hO.1
  have hbd := zBd (m := z0) (u := u) hP.1 hP.2.2.2.1 hP.2.2.2.2.1 hP.2.2.2.2.2 hO.1
  have hS0 : p_play s0 t u x 0 0 = t 6 0 := hbd.1.1
  refine aw_Met.of okX10_lay (Nat.le_of_ble_eq_true rfl) ?_
  show aw_W G mX10_lay 0 [.ref 3, .int (nI p1), .int (nI p2), .int a3, .int a4, aw_x] [] (zH n I L c) (0, 0) _
  refine aw_aload_n dX10_lay_0 rfl ?_
  refine aw_iload_n dX10_lay_1 rfl ?_
  refine aw_iload_n dX10_lay_2 rfl ?_
  refine aw_iload_n dX10_lay_3 rfl ?_
  refine aw_V0c (As := [_, _, _]) dX10_lay_4 k10_252 rfl rfl rfl ⟨Nat.le_of_ble_eq_true rfl, Nat.le_of_ble_eq_true rfl⟩ (Nat.le_of_ble_eq_true rfl) ⟨⟨Nat.le_of_ble_eq_true rfl, Nat.le_of_ble_eq_true rfl⟩, ⟨Nat.le_of_ble_eq_true rfl, Nat.le_of_ble_eq_true rfl⟩⟩ ⟨rfl, rfl⟩ (c_refuse G hX hI hp1 hp2) (fun v h2 hq => ?_)
  obtain ⟨rfl, I1, rfl, hI1, hF1⟩ := hq
  refine aw_istore (ls2 := [_, _, _, _, _, _]) dX10_lay_7 (by decide) rfl rfl ?_
  refine aw_iload dX10_lay_9 rfl ?_
  refine aw_if_eq (tgt := 17) dX10_lay_11 (by decide) (fun z => absurd z (fun q => hk ((r_rv_0 r_rk_le).mp q))) (fun c11 => ?_)
  refine aw_iload dX10_lay_14 rfl ?_
  refine aw_reti dX10_lay_16 rfl rfl ⟨Nat.le_of_ble_eq_true rfl, Nat.le_of_ble_eq_true rfl⟩ ?_
  exact ⟨rfl, _, _, _, rfl, hI1, hF1⟩
theorem c_lay (G : aw_G) {n c : Nat} {I : Nat → Nat → Int32} {L : Nat → Nat → Int64} {b0 b1 : Nat → Nat} {l0 l1 : Nat} {t u x y V g : Nat → Nat → Nat} {kk : Nat} {F S : Nat → Nat} {E : Nat → Nat → Int32} {fd : Int32} (hX : zTx b0 b1 l0 l1 t u x y V kk) (hI : zCI b0 b1 l0 l1 t u x y g F S E fd I) {p1 p2 i : Nat} {a4 : Int32} (hp1 : p1 < 4) (hp2 : p2 < 3) (hk : r_rk F S p1 p2 (nI i) = 0) (hi : i < S p1) (hf : F p1 = p2 + 1) : aw_Met G mX10_lay [.ref 3, .int (nI p1), .int (nI p2), .int (nI i), .int a4] (zH n I L c) (fun v h2 => v = some (.int (1)) ∧ ∃ I2 L2 c2, h2 = zH n I2 L2 c2 ∧ zCI b0 b1 l0 l1 t u x y g F S (aw_u E p1 i (z_cut p2 a4)) fd I2 ∧ ∀ o, 81 ≤ o → I2 o = I o) := by
  obtain ⟨hW, hC, hF, ⟨s0, hO, hR⟩, ⟨t2, s2, hD⟩, hG, hS, hfd⟩ := id hI
  obtain ⟨hP, h60, h61, htc, hV, hkk, hx, hy⟩ := id hX
  have h8 := hP.1.1
  have hk10 : kk ≤ 10 := by rw [hkk]; exact q_k_leW hW.1.2.2.2.2
  have hi6 : I 6 5 = nI (t 6 0) := by rw [h60]; exact hC.2.2
  have hi4 : I 4 5 = nI kk := by rw [hkk]; exact hW.2.2
  have hVo : f_Vok V kk := by rw [hV, hkk]; exact v_w_ok
  have hsm := zSame hP hO.1
  have hbd := zBd (m := z0) (u := u) hP.1 hP.2.2.2.1 hP.2.2.2.2.1 hP.2.2.2.2.2 hO.1
  have hS0 : p_play s0 t u x 0 0 = t 6 0 := hbd.1.1
  have hs60 := (hS p1 hp1).2.1
  refine aw_Met.of okX10_lay (Nat.le_of_ble_eq_true rfl) ?_
  show aw_W G mX10_lay 0 [.ref 3, .int (nI p1), .int (nI p2), .int (nI i), .int a4, aw_x] [] (zH n I L c) (0, 0) _
  refine aw_aload_n dX10_lay_0 rfl ?_
  refine aw_iload_n dX10_lay_1 rfl ?_
  refine aw_iload_n dX10_lay_2 rfl ?_
  refine aw_iload_n dX10_lay_3 rfl ?_
  refine aw_V0c (As := [_, _, _]) dX10_lay_4 k10_252 rfl rfl rfl ⟨Nat.le_of_ble_eq_true rfl, Nat.le_of_ble_eq_true rfl⟩ (Nat.le_of_ble_eq_true rfl) ⟨⟨Nat.le_of_ble_eq_true rfl, Nat.le_of_ble_eq_true rfl⟩, ⟨Nat.le_of_ble_eq_true rfl, Nat.le_of_ble_eq_true rfl⟩⟩ ⟨rfl, rfl⟩ (c_refuse G hX hI (a3 := nI i) hp1 hp2) (fun v h2 hq => ?_)
  obtain ⟨rfl, I1, rfl, hI1, hF1⟩ := hq
  rw [hk] at hI1 ⊢
  have hI1 : zCI b0 b1 l0 l1 t u x y g F S E fd I1 := hI1
  obtain ⟨-, -, -, -, -, -, hS1, hfd1⟩ := id hI1
  show aw_W G mX10_lay 7 _ [.int 0] _ _ _
  refine aw_istore (ls2 := [_, _, _, _, _, _]) dX10_lay_7 (by decide) rfl rfl ?_
  refine aw_iload dX10_lay_9 rfl ?_
  refine aw_if_eq (tgt := 17) dX10_lay_11 (by decide) (fun _ => ?_) (fun z => absurd (by decide) z)
  refine aw_aload_n dX10_lay_17 rfl ?_
  refine aw_getR dX10_lay_18 f10_91 rfl ⟨Nat.le_of_ble_eq_true rfl, Nat.le_of_ble_eq_true rfl⟩ rfl rfl ?_
  refine aw_iload_n dX10_lay_21 rfl ?_
  refine aw_aald dX10_lay_22 rfl ⟨Nat.le_of_ble_eq_true rfl, Nat.le_of_ble_eq_true rfl⟩ (vp_in_nI hp1 (by decide)) (by rw [nI_clamp (by omega)]; exact zR_sh hp1) ?_
  refine aw_iload_n dX10_lay_23 rfl ?_
  refine aw_iload dX10_lay_24 rfl ?_
  refine aw_V0c (As := [_, _]) dX10_lay_26 k10_255 rfl rfl (zS_sh hp1) ⟨by omega, (show 73 + 2 * p1 < 105 by omega)⟩ (Nat.le_of_ble_eq_true rfl) ⟨⟨Nat.le_of_ble_eq_true rfl, Nat.le_of_ble_eq_true rfl⟩, ⟨Nat.le_of_ble_eq_true rfl, Nat.le_of_ble_eq_true rfl⟩⟩ ⟨rfl, rfl⟩ (w_put G hp1 (i := i) (f := p2) (by omega) hp2 (by rw [((hS1 p1 hp1).2.2.2 (by omega)).1, hf, Nat.add_sub_cancel])) (fun v h2 hq => ?_)
  obtain ⟨rfl, rfl⟩ := hq
  refine aw_iconst (v := 1) dX10_lay_29 rfl ?_
  refine aw_reti dX10_lay_30 rfl rfl ⟨Nat.le_of_ble_eq_true rfl, Nat.le_of_ble_eq_true rfl⟩ ?_
  exact ⟨rfl, _, _, _, rfl, hI1.sh hS1.put (fun o a b => aw_u_ne (by omega)) (by rw [aw_u_ne (by omega)]; exact hfd1), fun o ho => by rw [aw_u_ne (by omega)]; exact hF1 o ho⟩
theorem c_getB (G : aw_G) {n c : Nat} {I : Nat → Nat → Int32} {L : Nat → Nat → Int64} {b0 b1 : Nat → Nat} {l0 l1 : Nat} {t u x y V g : Nat → Nat → Nat} {kk : Nat} {F S : Nat → Nat} {E : Nat → Nat → Int32} {fd : Int32} (hX : zTx b0 b1 l0 l1 t u x y V kk) (hI : zCI b0 b1 l0 l1 t u x y g F S E fd I) {a1 a2 a3 : Int32} (hz : ¬ (zok a1 4 ∧ zok a2 3)) : aw_Met G mX10_get [.ref 3, .int a1, .int a2, .int a3] (zH n I L c) (fun v h2 => v = some (.int (-2147483648)) ∧ ∃ I2 L2 c2, h2 = zH n I2 L2 c2 ∧ zCI b0 b1 l0 l1 t u x y g F S E fd I2 ∧ ∀ o, 81 ≤ o → I2 o = I o) := by
  obtain ⟨hW, hC, hF, ⟨s0, hO, hR⟩, ⟨t2, s2, hD⟩, hG, hS, hfd⟩ := id hI
  obtain ⟨hP, h60, h61, htc, hV, hkk, hx, hy⟩ := id hX
  have h8 := hP.1.1
  have hk10 : kk ≤ 10 := by rw [hkk]; exact q_k_leW hW.1.2.2.2.2
  have hi6 : I 6 5 = nI (t 6 0) := by rw [h60]; exact hC.2.2
  have hi4 : I 4 5 = nI kk := by rw [hkk]; exact hW.2.2
  have hVo : f_Vok V kk := by rw [hV, hkk]; exact v_w_ok
  have hsm := zSame hP hO.1
  have hbd := zBd (m := z0) (u := u) hP.1 hP.2.2.2.1 hP.2.2.2.2.1 hP.2.2.2.2.2 hO.1
  have hS0 : p_play s0 t u x 0 0 = t 6 0 := hbd.1.1
  refine aw_Met.of okX10_get (Nat.le_of_ble_eq_true rfl) ?_
  show aw_W G mX10_get 0 [.ref 3, .int a1, .int a2, .int a3] [] (zH n I L c) (0, 0) _
  refine aw_aload_n dX10_get_0 rfl ?_
  refine aw_iload_n dX10_get_1 rfl ?_
  refine aw_iload_n dX10_get_2 rfl ?_
  refine aw_iload_n dX10_get_3 rfl ?_
  refine aw_V0c (As := [_, _, _]) dX10_get_4 k10_252 rfl rfl rfl ⟨Nat.le_of_ble_eq_true rfl, Nat.le_of_ble_eq_true rfl⟩ (Nat.le_of_ble_eq_true rfl) ⟨⟨Nat.le_of_ble_eq_true rfl, Nat.le_of_ble_eq_true rfl⟩, ⟨Nat.le_of_ble_eq_true rfl, Nat.le_of_ble_eq_true rfl⟩⟩ ⟨rfl, rfl⟩ (c_refuseB G hX hI hz) (fun v h2 hq => ?_)
  obtain ⟨rfl, rfl⟩ := hq
  refine aw_if_eq (tgt := 16) dX10_get_7 (by decide) (fun z => absurd z (by decide)) (fun _ => ?_)
  refine aw_ldcw dX10_get_10 co10_258 ?_
  refine aw_goto (tgt := 27) dX10_get_13 (by decide) ?_
  refine aw_reti dX10_get_27 rfl rfl ⟨Nat.le_of_ble_eq_true rfl, Nat.le_of_ble_eq_true rfl⟩ ?_
  exact ⟨rfl, _, _, _, rfl, hI, fun _ _ => rfl⟩
theorem c_getR (G : aw_G) {n c : Nat} {I : Nat → Nat → Int32} {L : Nat → Nat → Int64} {b0 b1 : Nat → Nat} {l0 l1 : Nat} {t u x y V g : Nat → Nat → Nat} {kk : Nat} {F S : Nat → Nat} {E : Nat → Nat → Int32} {fd : Int32} (hX : zTx b0 b1 l0 l1 t u x y V kk) (hI : zCI b0 b1 l0 l1 t u x y g F S E fd I) {p1 p2 : Nat} {a3 : Int32} (hp1 : p1 < 4) (hp2 : p2 < 3) (hk : ¬ r_rk F S p1 p2 a3 = 0) : aw_Met G mX10_get [.ref 3, .int (nI p1), .int (nI p2), .int a3] (zH n I L c) (fun v h2 => v = some (.int (-2147483648)) ∧ ∃ I2 L2 c2, h2 = zH n I2 L2 c2 ∧ zCI b0 b1 l0 l1 t u x y g F S E (r_fd (r_rk F S p1 p2 a3) fd) I2 ∧ ∀ o, 81 ≤ o → I2 o = I o) := by
  obtain ⟨hW, hC, hF, ⟨s0, hO, hR⟩, ⟨t2, s2, hD⟩, hG, hS, hfd⟩ := id hI
  obtain ⟨hP, h60, h61, htc, hV, hkk, hx, hy⟩ := id hX
  have h8 := hP.1.1
  have hk10 : kk ≤ 10 := by rw [hkk]; exact q_k_leW hW.1.2.2.2.2
  have hi6 : I 6 5 = nI (t 6 0) := by rw [h60]; exact hC.2.2
  have hi4 : I 4 5 = nI kk := by rw [hkk]; exact hW.2.2
  have hVo : f_Vok V kk := by rw [hV, hkk]; exact v_w_ok
  have hsm := zSame hP hO.1
  have hbd := zBd (m := z0) (u := u) hP.1 hP.2.2.2.1 hP.2.2.2.2.1 hP.2.2.2.2.2 hO.1
  have hS0 : p_play s0 t u x 0 0 = t 6 0 := hbd.1.1
  refine aw_Met.of okX10_get (Nat.le_of_ble_eq_true rfl) ?_
  show aw_W G mX10_get 0 [.ref 3, .int (nI p1), .int (nI p2), .int a3] [] (zH n I L c) (0, 0) _
  refine aw_aload_n dX10_get_0 rfl ?_
  refine aw_iload_n dX10_get_1 rfl ?_
  refine aw_iload_n dX10_get_2 rfl ?_
  refine aw_iload_n dX10_get_3 rfl ?_
  refine aw_V0c (As := [_, _, _]) dX10_get_4 k10_252 rfl rfl rfl ⟨Nat.le_of_ble_eq_true rfl, Nat.le_of_ble_eq_true rfl⟩ (Nat.le_of_ble_eq_true rfl) ⟨⟨Nat.le_of_ble_eq_true rfl, Nat.le_of_ble_eq_true rfl⟩, ⟨Nat.le_of_ble_eq_true rfl, Nat.le_of_ble_eq_true rfl⟩⟩ ⟨rfl, rfl⟩ (c_refuse G hX hI hp1 hp2) (fun v h2 hq => ?_)
  obtain ⟨rfl, I1, rfl, hI1, hF1⟩ := hq
  refine aw_if_eq (tgt := 16) dX10_get_7 (by decide) (fun z => absurd z (fun q => hk ((r_rv_0 r_rk_le).mp q))) (fun c7 => ?_)
  refine aw_ldcw dX10_get_10 co10_258 ?_
  refine aw_goto (tgt := 27) dX10_get_13 (by decide) ?_
  refine aw_reti dX10_get_27 rfl rfl ⟨Nat.le_of_ble_eq_true rfl, Nat.le_of_ble_eq_true rfl⟩ ?_
  exact ⟨rfl, _, _, _, rfl, hI1, hF1⟩
theorem c_get (G : aw_G) {n c : Nat} {I : Nat → Nat → Int32} {L : Nat → Nat → Int64} {b0 b1 : Nat → Nat} {l0 l1 : Nat} {t u x y V g : Nat → Nat → Nat} {kk : Nat} {F S : Nat → Nat} {E : Nat → Nat → Int32} {fd : Int32} (hX : zTx b0 b1 l0 l1 t u x y V kk) (hI : zCI b0 b1 l0 l1 t u x y g F S E fd I) {p1 p2 i : Nat} (hp1 : p1 < 4) (hp2 : p2 < 3) (hk : r_rk F S p1 p2 (nI i) = 0) (hi : i < S p1) (hf : F p1 = p2 + 1) : aw_Met G mX10_get [.ref 3, .int (nI p1), .int (nI p2), .int (nI i)] (zH n I L c) (fun v h2 => v = some (.int (E p1 i)) ∧ ∃ I2 L2 c2, h2 = zH n I2 L2 c2 ∧ zCI b0 b1 l0 l1 t u x y g F S E fd I2 ∧ ∀ o, 81 ≤ o → I2 o = I o) := by
  obtain ⟨hW, hC, hF, ⟨s0, hO, hR⟩, ⟨t2, s2, hD⟩, hG, hS, hfd⟩ := id hI
  obtain ⟨hP, h60, h61, htc, hV, hkk, hx, hy⟩ := id hX
  have h8 := hP.1.1
  have hk10 : kk ≤ 10 := by rw [hkk]; exact q_k_leW hW.1.2.2.2.2
  have hi6 : I 6 5 = nI (t 6 0) := by rw [h60]; exact hC.2.2
  have hi4 : I 4 5 = nI kk := by rw [hkk]; exact hW.2.2
  have hVo : f_Vok V kk := by rw [hV, hkk]; exact v_w_ok
  have hsm := zSame hP hO.1
  have hbd := zBd (m := z0) (u := u) hP.1 hP.2.2.2.1 hP.2.2.2.2.1 hP.2.2.2.2.2 hO.1
  have hS0 : p_play s0 t u x 0 0 = t 6 0 := hbd.1.1
  have hs60 := (hS p1 hp1).2.1
  refine aw_Met.of okX10_get (Nat.le_of_ble_eq_true rfl) ?_
  show aw_W G mX10_get 0 [.ref 3, .int (nI p1), .int (nI p2), .int (nI i)] [] (zH n I L c) (0, 0) _
  refine aw_aload_n dX10_get_0 rfl ?_
  refine aw_iload_n dX10_get_1 rfl ?_
  refine aw_iload_n dX10_get_2 rfl ?_
  refine aw_iload_n dX10_get_3 rfl ?_
  refine aw_V0c (As := [_, _, _]) dX10_get_4 k10_252 rfl rfl rfl ⟨Nat.le_of_ble_eq_true rfl, Nat.le_of_ble_eq_true rfl⟩ (Nat.le_of_ble_eq_true rfl) ⟨⟨Nat.le_of_ble_eq_true rfl, Nat.le_of_ble_eq_true rfl⟩, ⟨Nat.le_of_ble_eq_true rfl, Nat.le_of_ble_eq_true rfl⟩⟩ ⟨rfl, rfl⟩ (c_refuse G hX hI (a3 := nI i) hp1 hp2) (fun v h2 hq => ?_)
  obtain ⟨rfl, I1, rfl, hI1, hF1⟩ := hq
  rw [hk] at hI1 ⊢
  have hI1 : zCI b0 b1 l0 l1 t u x y g F S E fd I1 := hI1
  obtain ⟨-, -, -, -, -, -, hS1, hfd1⟩ := id hI1
  show aw_W G mX10_get 7 _ [.int 0] _ _ _
  refine aw_if_eq (tgt := 16) dX10_get_7 (by decide) (fun _ => ?_) (fun z => absurd (by decide) z)
  refine aw_aload_n dX10_get_16 rfl ?_
  refine aw_getR dX10_get_17 f10_91 rfl ⟨Nat.le_of_ble_eq_true rfl, Nat.le_of_ble_eq_true rfl⟩ rfl rfl ?_
  refine aw_iload_n dX10_get_20 rfl ?_
  refine aw_aald dX10_get_21 rfl ⟨Nat.le_of_ble_eq_true rfl, Nat.le_of_ble_eq_true rfl⟩ (vp_in_nI hp1 (by decide)) (by rw [nI_clamp (by omega)]; exact zR_sh hp1) ?_
  refine aw_getR dX10_get_22 f10_159 (zS_sh hp1) ⟨by omega, (show 73 + 2 * p1 < 105 by omega)⟩ rfl (zR_it hp1) ?_
  refine aw_iload_n dX10_get_25 rfl ?_
  refine aw_iald_n (j := i) dX10_get_26 (zS_it hp1) (by omega) (by decide) (by omega) ?_
  refine aw_top (((hS1 p1 hp1).2.2.2 (by omega)).2.2 i hi) ?_
  refine aw_reti dX10_get_27 rfl rfl ⟨Nat.le_of_ble_eq_true rfl, Nat.le_of_ble_eq_true rfl⟩ ?_
  exact ⟨rfl, _, _, _, rfl, hI1, hF1⟩
