/-! SETTINGS; runs are asked -/
def zSx (t : Nat → Nat → Nat) (s a : Nat) (I0 I : Nat → Nat → Int32) : Prop := zSet t s a I ∧ ∀ o, o ≠ s → (o < a ∨ a + 5 < o) → I o = I0 o
theorem zSx.u {t : Nat → Nat → Nat} {s a : Nat} {I0 I : Nat → Nat → Int32} {i j v : Nat} (h : zSx t s a I0 I) (hi : i < 6) (hs : s < a) : zSx (aw_u t i j v) s a I0 (aw_u I (a + i) j (nI v)) := by
  refine ⟨⟨fun p q hp hq => ?_, ?_, ?_⟩, fun o ho ha => ?_⟩
  · by_cases hpi : p = i
    · subst hpi
      by_cases hqj : q = j
      · subst hqj; rw [aw_u_eq, aw_u_eq]
      · rw [aw_u_nj hqj, aw_u_nj hqj]; exact h.1.1 p q hp hq
    · rw [aw_u_ne hpi, aw_u_ne (show a + p ≠ a + i by omega)]; exact h.1.1 p q hp hq
  · rw [aw_u_ne (show s ≠ a + i by omega), aw_u_ne (show 6 ≠ i by omega)]; exact h.1.2.1
  · rw [aw_u_ne (show s ≠ a + i by omega), aw_u_ne (show 6 ≠ i by omega)]; exact h.1.2.2
  · rw [aw_u_ne (show o ≠ a + i by omega)]; exact h.2 o ho ha
theorem zSx.u8 {t : Nat → Nat → Nat} {s a : Nat} {I0 I : Nat → Nat → Int32} {v : Nat} (h : zSx t s a I0 I) (hs : s < a) : zSx (aw_u t 6 0 v) s a I0 (aw_u I s 8 (nI v)) := by
  refine ⟨⟨fun p q hp hq => ?_, ?_, ?_⟩, fun o ho ha => ?_⟩
  · rw [aw_u_ne (show p ≠ 6 by omega), aw_u_ne (show a + p ≠ s by omega)]; exact h.1.1 p q hp hq
  · rw [aw_u_eq, aw_u_eq]
  · rw [aw_u_nj (by decide), aw_u_nj (by decide)]; exact h.1.2.2
  · rw [aw_u_ne ho]; exact h.2 o ho ha
theorem zSx.u9 {t : Nat → Nat → Nat} {s a : Nat} {I0 I : Nat → Nat → Int32} {v : Nat} (h : zSx t s a I0 I) (hs : s < a) : zSx (aw_u t 6 1 v) s a I0 (aw_u I s 9 (nI v)) := by
  refine ⟨⟨fun p q hp hq => ?_, ?_, ?_⟩, fun o ho ha => ?_⟩
  · rw [aw_u_ne (show p ≠ 6 by omega), aw_u_ne (show a + p ≠ s by omega)]; exact h.1.1 p q hp hq
  · rw [aw_u_nj (by decide), aw_u_nj (by decide)]; exact h.1.2.1
  · rw [aw_u_eq, aw_u_eq]
  · rw [aw_u_ne ho]; exact h.2 o ho ha
theorem zR_ne {c d a b : Nat} (h : ¬ (a = 37 ∧ b = 7)) : zR c a b = zR d a b := by
  unfold zR
  cases e1 : Nat.ble a 104 with
  | false => rfl
  | true =>
  cases e2 : Nat.ble a 52 with
  | false => rfl
  | true =>
  cases e3 : Nat.ble a 26 with
  | true => rfl
  | false =>
  cases e4 : Nat.ble a 39 with
  | false => rfl
  | true =>
  cases e5 : Nat.ble a 33 with
  | true => rfl
  | false =>
  cases e6 : Nat.ble a 36 with
  | true => rfl
  | false =>
  cases e7 : Nat.ble a 38 with
  | false => rfl
  | true =>
  cases e8 : Nat.ble a 37 with
  | false => rfl
  | true =>
  cases e9 : Nat.ble b 7 with
  | false => rfl
  | true =>
  cases e10 : Nat.ble b 3 with
  | true => rfl
  | false =>
  cases e11 : Nat.ble b 5 with
  | true => rfl
  | false =>
  cases e12 : Nat.ble b 6 with
  | true => rfl
  | false =>
    exfalso
    have h1 := Nat.le_of_ble_eq_true e8
    have h2 := Nat.le_of_ble_eq_true e9
    have h3 : ¬ a ≤ 36 := fun z => by rw [Nat.ble_eq_true_of_le z] at e6; cases e6
    have h4 : ¬ b ≤ 6 := fun z => by rw [Nat.ble_eq_true_of_le z] at e12; cases e12
    omega
theorem zR_up {c d : Nat} : aw_u (zR c) 37 7 (some d) = zR d := by
  funext a b
  by_cases h : a = 37 ∧ b = 7
  · obtain ⟨rfl, rfl⟩ := h
    rw [aw_u_eq]; rfl
  · rw [← zR_ne (c := c) (d := d) h]
    by_cases ha : a = 37
    · subst ha; rw [aw_u_nj (fun z => h ⟨rfl, z⟩)]
    · rw [aw_u_ne ha]
/-- two settings that are the same for all carters that there are -/
def zTeq (t t2 : Nat → Nat → Nat) : Prop := t2 6 0 = t 6 0 ∧ t2 6 1 = t 6 1 ∧ ∀ j k, j < 6 → k < t 6 0 → t2 j k = t j k
theorem t_c_ok {b : Nat → Nat} {l w : Nat} (hw : w < q_k (q_c b) 7 l) : t_c b w 0 < 8 ∧ t_c b w 1 < 8 ∧ t_c b w 2 < 3 ∧ t_c b w 3 < 100 ∧ t_c b w 4 < 10 := by
  obtain ⟨h0, h1, h2, h3, h4, h5⟩ := v_c_ok hw
  unfold t_c
  refine ⟨by rw [if_pos (by decide)]; exact h0, by rw [if_pos (by decide)]; exact h1, by rw [if_pos (by decide)]; exact h2, ?_, ?_⟩
  · rw [if_neg (by decide), if_pos rfl]; omega
  · rw [if_neg (by decide), if_neg (by decide)]; omega
theorem zTok.u {t : Nat → Nat → Nat} (h : zTok t) {i j v : Nat} (hi : i < 6) (hv : v < [8, 8, 3, 1000, 1000, 100].getD i 0) : zTok (aw_u t i j v) := by
  refine ⟨by rw [aw_u_ne (show 6 ≠ i by omega)]; exact h.1, by rw [aw_u_ne (show 6 ≠ i by omega)]; exact h.2.1, fun c hc => ?_⟩
  have hc2 := h.2.2 c hc
  have key : ∀ k B, (t k c < B) → (k = i → v < B) → aw_u t i j v k c < B := by
    intro k B h1 h2
    by_cases hk : k = i
    · subst hk
      by_cases hj : c = j
      · subst hj; rw [aw_u_eq]; exact h2 rfl
      · rw [aw_u_nj hj]; exact h1
    · rw [aw_u_ne hk]; exact h1
  have h' : i = 0 ∨ i = 1 ∨ i = 2 ∨ i = 3 ∨ i = 4 ∨ i = 5 := by omega
  rcases h' with rfl | rfl | rfl | rfl | rfl | rfl <;>
    exact ⟨key 0 8 hc2.1 (fun z => by first | exact hv | omega), key 1 8 hc2.2.1 (fun z => by first | exact hv | omega), key 2 3 hc2.2.2.1 (fun z => by first | exact hv | omega), key 3 1000 hc2.2.2.2.1 (fun z => by first | exact hv | omega), key 4 1000 hc2.2.2.2.2.1 (fun z => by first | exact hv | omega), key 5 100 hc2.2.2.2.2.2 (fun z => by first | exact hv | omega)⟩
theorem w_take (G : aw_G) {n c : Nat} {I I0 : Nat → Nat → Int32} {L : Nat → Nat → Int64} {b : Nat → Nat} {l : Nat} {t : Nat → Nat → Nat} (hT : zTxC b l I0) (hS : zSx t 11 16 I0 I) (hTo : zTok t) : aw_Met G mX7_take [.ref 11, .ref 6] (zH n I L c) (fun v h2 => v = none ∧ ∃ I2, h2 = zH n I2 L c ∧ ∃ t2, zSx t2 11 16 I0 I2 ∧ t2 6 0 = q_k (q_c b) 7 l ∧ t2 6 1 = t 6 1 ∧ (∀ j, t2 5 j = t 5 j) ∧ (∀ k j, k < q_k (q_c b) 7 l → j < 5 → t2 j k = t_c b k j) ∧ zTok t2) := by
  have hk8 := q_k_leC (b := b) hT.1.2.2.2.2
  have hn0 : I 6 5 = nI (q_k (q_c b) 7 l) := by rw [hS.2 6 (by decide) (by decide)]; exact hT.2.2
  refine aw_Met.of okX7_take (Nat.le_of_ble_eq_true rfl) ?_
  show aw_W G mX7_take 0 [.ref 11, .ref 6, aw_x] [] (zH n I L c) (0, 0) _
  refine aw_aload_n dX7_take_0 rfl ?_
  refine aw_aload_n dX7_take_1 rfl ?_
  refine aw_getI dX7_take_2 f7_45 rfl ⟨Nat.le_of_ble_eq_true rfl, Nat.le_of_ble_eq_true rfl⟩ rfl ?_
  refine aw_top hn0 ?_
  refine aw_putI dX7_take_5 f7_30 rfl ⟨Nat.le_of_ble_eq_true rfl, Nat.le_of_ble_eq_true rfl⟩ (Or.inl rfl) rfl ?_
  refine aw_iconst (v := 0) dX7_take_8 rfl ?_
  refine aw_istore_n (ls2 := [_, _, _]) dX7_take_9 (by decide) rfl rfl ?_
  refine aw_up (X := fun i => ∀ I t2, (t2 6 0 = q_k (q_c b) 7 l ∧ t2 6 1 = t 6 1 ∧ (∀ j, t2 5 j = t 5 j) ∧ (∀ k j, k < i → j < 5 → t2 j k = t_c b k j) ∧ zTok t2) ∧ zSx t2 11 16 I0 I → aw_W G mX7_take 10 [.ref 11, .ref 6, .int (nI i)] [] (zH n I L c) (0, 0) _) (Nat.zero_le (q_k (q_c b) 7 l)) (fun I t2 hh => ?_) (fun i _ hi ih I t2 hh => ?_) _ (aw_u t 6 0 (q_k (q_c b) 7 l)) ⟨⟨aw_u_eq, aw_u_nj (by decide), fun j => by rw [aw_u_ne (by decide)], fun k j hk => absurd hk (by omega), ⟨by rw [aw_u_eq]; exact hk8, by rw [aw_u_nj (by decide)]; exact hTo.2.1, fun c hc => by simp only [aw_u_ne (show 0 ≠ 6 by decide), aw_u_ne (show 1 ≠ 6 by decide), aw_u_ne (show 2 ≠ 6 by decide), aw_u_ne (show 3 ≠ 6 by decide), aw_u_ne (show 4 ≠ 6 by decide), aw_u_ne (show 5 ≠ 6 by decide)]; exact hTo.2.2 c hc⟩⟩, hS.u8 (by decide)⟩
  · obtain ⟨⟨h1, h2, h3, h4, h5⟩, hS⟩ := hh
    have hn : I 11 8 = nI (q_k (q_c b) 7 l) := by rw [hS.1.2.1, h1]
    refine aw_iload_n dX7_take_10 rfl ?_
    refine aw_aload_n dX7_take_11 rfl ?_
    refine aw_getI dX7_take_12 f7_30 rfl ⟨Nat.le_of_ble_eq_true rfl, Nat.le_of_ble_eq_true rfl⟩ rfl ?_
    refine aw_top hn ?_
    refine aw_ic_ge_n (a := q_k (q_c b) 7 l) (b := q_k (q_c b) 7 l) (tgt := 94) dX7_take_15 (by decide) (by omega) (by omega) (fun c15 => ?_) (fun z => absurd z (by omega))
    refine aw_ret0 dX7_take_94 rfl ⟨Nat.le_of_ble_eq_true rfl, Nat.le_of_ble_eq_true rfl⟩ ?_
    exact ⟨rfl, _, rfl, _, hS, h1, h2, h3, h4, h5⟩
  · obtain ⟨⟨h1, h2, h3, h4, h5⟩, hS⟩ := hh
    have hn : I 11 8 = nI (q_k (q_c b) 7 l) := by rw [hS.1.2.1, h1]
    refine aw_iload_n dX7_take_10 rfl ?_
    refine aw_aload_n dX7_take_11 rfl ?_
    refine aw_getI dX7_take_12 f7_30 rfl ⟨Nat.le_of_ble_eq_true rfl, Nat.le_of_ble_eq_true rfl⟩ rfl ?_
    refine aw_top hn ?_
    refine aw_ic_ge_n (a := i) (b := q_k (q_c b) 7 l) (tgt := 94) dX7_take_15 (by decide) (by omega) (by omega) (fun z => absurd z (by omega)) (fun c15 => ?_)
    refine aw_aload_n dX7_take_18 rfl ?_
    refine aw_getR dX7_take_19 f7_9 rfl ⟨Nat.le_of_ble_eq_true rfl, Nat.le_of_ble_eq_true rfl⟩ rfl rfl ?_
    refine aw_iload_n dX7_take_22 rfl ?_
    refine aw_aload_n dX7_take_23 rfl ?_
    refine aw_iload_n dX7_take_24 rfl ?_
    refine aw_iconst (v := 0) dX7_take_25 rfl ?_
    refine aw_V0c (As := [_, _]) dX7_take_26 k7_50 rfl rfl rfl ⟨Nat.le_of_ble_eq_true rfl, Nat.le_of_ble_eq_true rfl⟩ (Nat.le_of_ble_eq_true rfl) ⟨⟨Nat.le_of_ble_eq_true rfl, Nat.le_of_ble_eq_true rfl⟩, ⟨Nat.le_of_ble_eq_true rfl, Nat.le_of_ble_eq_true rfl⟩⟩ ⟨rfl, rfl⟩ (w_numC G (b := b) (l := l) (hT.mv (hS.2 2 (by decide) (by decide)) (hS.2 7 (by decide) (by decide)) (hS.2 6 (by decide) (by decide))).1 hi (show 0 < 6 by decide)) (fun v h2 hq => ?_)
    obtain ⟨rfl, rfl⟩ := hq
    refine aw_iast_n (j := i) dX7_take_29 rfl ⟨Nat.le_of_ble_eq_true rfl, Nat.le_of_ble_eq_true rfl⟩ (by decide) (by omega) ?_
    refine aw_aload_n dX7_take_30 rfl ?_
    refine aw_getR dX7_take_31 f7_15 rfl ⟨Nat.le_of_ble_eq_true rfl, Nat.le_of_ble_eq_true rfl⟩ rfl rfl ?_
    refine aw_iload_n dX7_take_34 rfl ?_
    refine aw_aload_n dX7_take_35 rfl ?_
    refine aw_iload_n dX7_take_36 rfl ?_
    refine aw_iconst (v := 1) dX7_take_37 rfl ?_
    refine aw_V0c (As := [_, _]) dX7_take_38 k7_50 rfl rfl rfl ⟨Nat.le_of_ble_eq_true rfl, Nat.le_of_ble_eq_true rfl⟩ (Nat.le_of_ble_eq_true rfl) ⟨⟨Nat.le_of_ble_eq_true rfl, Nat.le_of_ble_eq_true rfl⟩, ⟨Nat.le_of_ble_eq_true rfl, Nat.le_of_ble_eq_true rfl⟩⟩ ⟨rfl, rfl⟩ (w_numC G (b := b) (l := l) (hT.mv ((hS.u (i := 0) (j := i) (v := v_c b i 0) (by decide) (by decide)).2 2 (by decide) (by decide)) ((hS.u (i := 0) (j := i) (v := v_c b i 0) (by decide) (by decide)).2 7 (by decide) (by decide)) ((hS.u (i := 0) (j := i) (v := v_c b i 0) (by decide) (by decide)).2 6 (by decide) (by decide))).1 hi (show 1 < 6 by decide)) (fun v h2 hq => ?_)
    obtain ⟨rfl, rfl⟩ := hq
    refine aw_iast_n (j := i) dX7_take_41 rfl ⟨Nat.le_of_ble_eq_true rfl, Nat.le_of_ble_eq_true rfl⟩ (by decide) (by omega) ?_
    refine aw_aload_n dX7_take_42 rfl ?_
    refine aw_getR dX7_take_43 f7_18 rfl ⟨Nat.le_of_ble_eq_true rfl, Nat.le_of_ble_eq_true rfl⟩ rfl rfl ?_
    refine aw_iload_n dX7_take_46 rfl ?_
    refine aw_aload_n dX7_take_47 rfl ?_
    refine aw_iload_n dX7_take_48 rfl ?_
    refine aw_iconst (v := 2) dX7_take_49 rfl ?_
    refine aw_V0c (As := [_, _]) dX7_take_50 k7_50 rfl rfl rfl ⟨Nat.le_of_ble_eq_true rfl, Nat.le_of_ble_eq_true rfl⟩ (Nat.le_of_ble_eq_true rfl) ⟨⟨Nat.le_of_ble_eq_true rfl, Nat.le_of_ble_eq_true rfl⟩, ⟨Nat.le_of_ble_eq_true rfl, Nat.le_of_ble_eq_true rfl⟩⟩ ⟨rfl, rfl⟩ (w_numC G (b := b) (l := l) (hT.mv (((hS.u (i := 0) (j := i) (v := v_c b i 0) (by decide) (by decide)).u (i := 1) (j := i) (v := v_c b i 1) (by decide) (by decide)).2 2 (by decide) (by decide)) (((hS.u (i := 0) (j := i) (v := v_c b i 0) (by decide) (by decide)).u (i := 1) (j := i) (v := v_c b i 1) (by decide) (by decide)).2 7 (by decide) (by decide)) (((hS.u (i := 0) (j := i) (v := v_c b i 0) (by decide) (by decide)).u (i := 1) (j := i) (v := v_c b i 1) (by decide) (by decide)).2 6 (by decide) (by decide))).1 hi (show 2 < 6 by decide)) (fun v h2 hq => ?_)
    obtain ⟨rfl, rfl⟩ := hq
    refine aw_iast_n (j := i) dX7_take_53 rfl ⟨Nat.le_of_ble_eq_true rfl, Nat.le_of_ble_eq_true rfl⟩ (by decide) (by omega) ?_
    refine aw_aload_n dX7_take_54 rfl ?_
    refine aw_getR dX7_take_55 f7_21 rfl ⟨Nat.le_of_ble_eq_true rfl, Nat.le_of_ble_eq_true rfl⟩ rfl rfl ?_
    refine aw_iload_n dX7_take_58 rfl ?_
    refine aw_bipush (v := 10) dX7_take_59 (by decide) ?_
    refine aw_aload_n dX7_take_61 rfl ?_
    refine aw_iload_n dX7_take_62 rfl ?_
    refine aw_iconst (v := 3) dX7_take_63 rfl ?_
    refine aw_V0c (As := [_, _]) dX7_take_64 k7_50 rfl rfl rfl ⟨Nat.le_of_ble_eq_true rfl, Nat.le_of_ble_eq_true rfl⟩ (Nat.le_of_ble_eq_true rfl) ⟨⟨Nat.le_of_ble_eq_true rfl, Nat.le_of_ble_eq_true rfl⟩, ⟨Nat.le_of_ble_eq_true rfl, Nat.le_of_ble_eq_true rfl⟩⟩ ⟨rfl, rfl⟩ (w_numC G (b := b) (l := l) (hT.mv ((((hS.u (i := 0) (j := i) (v := v_c b i 0) (by decide) (by decide)).u (i := 1) (j := i) (v := v_c b i 1) (by decide) (by decide)).u (i := 2) (j := i) (v := v_c b i 2) (by decide) (by decide)).2 2 (by decide) (by decide)) ((((hS.u (i := 0) (j := i) (v := v_c b i 0) (by decide) (by decide)).u (i := 1) (j := i) (v := v_c b i 1) (by decide) (by decide)).u (i := 2) (j := i) (v := v_c b i 2) (by decide) (by decide)).2 7 (by decide) (by decide)) ((((hS.u (i := 0) (j := i) (v := v_c b i 0) (by decide) (by decide)).u (i := 1) (j := i) (v := v_c b i 1) (by decide) (by decide)).u (i := 2) (j := i) (v := v_c b i 2) (by decide) (by decide)).2 6 (by decide) (by decide))).1 hi (show 3 < 6 by decide)) (fun v h2 hq => ?_)
    obtain ⟨rfl, rfl⟩ := hq
    refine aw_imul_n (a := 10) (b := v_c b i 3) dX7_take_67 ?_
    refine aw_aload_n dX7_take_68 rfl ?_
    refine aw_iload_n dX7_take_69 rfl ?_
    refine aw_iconst (v := 4) dX7_take_70 rfl ?_
    refine aw_V0c (As := [_, _]) dX7_take_71 k7_50 rfl rfl rfl ⟨Nat.le_of_ble_eq_true rfl, Nat.le_of_ble_eq_true rfl⟩ (Nat.le_of_ble_eq_true rfl) ⟨⟨Nat.le_of_ble_eq_true rfl, Nat.le_of_ble_eq_true rfl⟩, ⟨Nat.le_of_ble_eq_true rfl, Nat.le_of_ble_eq_true rfl⟩⟩ ⟨rfl, rfl⟩ (w_numC G (b := b) (l := l) (hT.mv ((((hS.u (i := 0) (j := i) (v := v_c b i 0) (by decide) (by decide)).u (i := 1) (j := i) (v := v_c b i 1) (by decide) (by decide)).u (i := 2) (j := i) (v := v_c b i 2) (by decide) (by decide)).2 2 (by decide) (by decide)) ((((hS.u (i := 0) (j := i) (v := v_c b i 0) (by decide) (by decide)).u (i := 1) (j := i) (v := v_c b i 1) (by decide) (by decide)).u (i := 2) (j := i) (v := v_c b i 2) (by decide) (by decide)).2 7 (by decide) (by decide)) ((((hS.u (i := 0) (j := i) (v := v_c b i 0) (by decide) (by decide)).u (i := 1) (j := i) (v := v_c b i 1) (by decide) (by decide)).u (i := 2) (j := i) (v := v_c b i 2) (by decide) (by decide)).2 6 (by decide) (by decide))).1 hi (show 4 < 6 by decide)) (fun v h2 hq => ?_)
    obtain ⟨rfl, rfl⟩ := hq
    refine aw_iadd_n (a := 10 * (v_c b i 3)) (b := v_c b i 4) dX7_take_74 ?_
    refine aw_iast_n (j := i) dX7_take_75 rfl ⟨Nat.le_of_ble_eq_true rfl, Nat.le_of_ble_eq_true rfl⟩ (by decide) (by omega) ?_
    refine aw_aload_n dX7_take_76 rfl ?_
    refine aw_getR dX7_take_77 f7_24 rfl ⟨Nat.le_of_ble_eq_true rfl, Nat.le_of_ble_eq_true rfl⟩ rfl rfl ?_
    refine aw_iload_n dX7_take_80 rfl ?_
    refine aw_aload_n dX7_take_81 rfl ?_
    refine aw_iload_n dX7_take_82 rfl ?_
    refine aw_iconst (v := 5) dX7_take_83 rfl ?_
    refine aw_V0c (As := [_, _]) dX7_take_84 k7_50 rfl rfl rfl ⟨Nat.le_of_ble_eq_true rfl, Nat.le_of_ble_eq_true rfl⟩ (Nat.le_of_ble_eq_true rfl) ⟨⟨Nat.le_of_ble_eq_true rfl, Nat.le_of_ble_eq_true rfl⟩, ⟨Nat.le_of_ble_eq_true rfl, Nat.le_of_ble_eq_true rfl⟩⟩ ⟨rfl, rfl⟩ (w_numC G (b := b) (l := l) (hT.mv (((((hS.u (i := 0) (j := i) (v := v_c b i 0) (by decide) (by decide)).u (i := 1) (j := i) (v := v_c b i 1) (by decide) (by decide)).u (i := 2) (j := i) (v := v_c b i 2) (by decide) (by decide)).u (i := 3) (j := i) (v := (10 * (v_c b i 3)) + (v_c b i 4)) (by decide) (by decide)).2 2 (by decide) (by decide)) (((((hS.u (i := 0) (j := i) (v := v_c b i 0) (by decide) (by decide)).u (i := 1) (j := i) (v := v_c b i 1) (by decide) (by decide)).u (i := 2) (j := i) (v := v_c b i 2) (by decide) (by decide)).u (i := 3) (j := i) (v := (10 * (v_c b i 3)) + (v_c b i 4)) (by decide) (by decide)).2 7 (by decide) (by decide)) (((((hS.u (i := 0) (j := i) (v := v_c b i 0) (by decide) (by decide)).u (i := 1) (j := i) (v := v_c b i 1) (by decide) (by decide)).u (i := 2) (j := i) (v := v_c b i 2) (by decide) (by decide)).u (i := 3) (j := i) (v := (10 * (v_c b i 3)) + (v_c b i 4)) (by decide) (by decide)).2 6 (by decide) (by decide))).1 hi (show 5 < 6 by decide)) (fun v h2 hq => ?_)
    obtain ⟨rfl, rfl⟩ := hq
    refine aw_iast_n (j := i) dX7_take_87 rfl ⟨Nat.le_of_ble_eq_true rfl, Nat.le_of_ble_eq_true rfl⟩ (by decide) (by omega) ?_
    refine aw_iinc_n (ls2 := [_, _, _]) dX7_take_88 rfl (by decide) rfl rfl ?_
    refine aw_goto (tgt := 10) dX7_take_91 (by decide) ?_
    have hv := t_c_ok (b := b) (l := l) hi
    have e0 : t_c b i 0 = v_c b i 0 := by unfold t_c; rw [if_pos (by decide)]
    have e1 : t_c b i 1 = v_c b i 1 := by unfold t_c; rw [if_pos (by decide)]
    have e2 : t_c b i 2 = v_c b i 2 := by unfold t_c; rw [if_pos (by decide)]
    have e3 : t_c b i 3 = 10 * v_c b i 3 + v_c b i 4 := by unfold t_c; rw [if_neg (by decide), if_pos rfl]
    have e4 : t_c b i 4 = v_c b i 5 := by unfold t_c; rw [if_neg (by decide), if_neg (by decide)]
    refine ih _ _ ⟨⟨?_, ?_, fun j => ?_, fun k j hk hj => ?_, ?_⟩, (((((hS.u (i := 0) (j := i) (v := v_c b i 0) (by decide) (by decide)).u (i := 1) (j := i) (v := v_c b i 1) (by decide) (by decide)).u (i := 2) (j := i) (v := v_c b i 2) (by decide) (by decide)).u (i := 3) (j := i) (v := (10 * (v_c b i 3)) + (v_c b i 4)) (by decide) (by decide)).u (i := 4) (j := i) (v := v_c b i 5) (by decide) (by decide))⟩
    · simp only [aw_u_ne (show 6 ≠ 0 by decide), aw_u_ne (show 6 ≠ 1 by decide), aw_u_ne (show 6 ≠ 2 by decide), aw_u_ne (show 6 ≠ 3 by decide), aw_u_ne (show 6 ≠ 4 by decide)]; exact h1
    · simp only [aw_u_ne (show 6 ≠ 0 by decide), aw_u_ne (show 6 ≠ 1 by decide), aw_u_ne (show 6 ≠ 2 by decide), aw_u_ne (show 6 ≠ 3 by decide), aw_u_ne (show 6 ≠ 4 by decide)]; exact h2
    · simp only [aw_u_ne (show 5 ≠ 0 by decide), aw_u_ne (show 5 ≠ 1 by decide), aw_u_ne (show 5 ≠ 2 by decide), aw_u_ne (show 5 ≠ 3 by decide), aw_u_ne (show 5 ≠ 4 by decide)]; exact h3 j
    · by_cases hki : k = i
      · subst hki
        have hjc : j = 0 ∨ j = 1 ∨ j = 2 ∨ j = 3 ∨ j = 4 := by omega
        rcases hjc with rfl | rfl | rfl | rfl | rfl <;> simp [aw_u, va_up, e0, e1, e2, e3, e4]
      · rw [aw_u_col hki, aw_u_col hki, aw_u_col hki, aw_u_col hki, aw_u_col hki]; exact h4 k j (by omega) hj
    · refine ((((h5.u (by decide) ?_).u (by decide) ?_).u (by decide) ?_).u (by decide) ?_).u (by decide) ?_
      · show _ < 8; omega
      · show _ < 8; omega
      · show _ < 3; omega
      · show _ < 1000; omega
      · show _ < 1000; omega
theorem w_become (G : aw_G) {n c : Nat} {I I0 : Nat → Nat → Int32} {L : Nat → Nat → Int64} {t t0 : Nat → Nat → Nat} (hT : zSet t 11 16 I0) (hTo : zTok t) (hS : zSx t0 37 38 I0 I) (hT0 : zTok t0) : aw_Met G mX7_become [.ref 37, .ref 11] (zH n I L c) (fun v h2 => v = none ∧ ∃ I2, h2 = zH n I2 L 12 ∧ ∃ t2, zSx t2 37 38 I0 I2 ∧ zTeq t t2 ∧ zTok t2) := by
  have hn8 : I 11 8 = nI (t 6 0) := by rw [hS.2 11 (by decide) (by decide)]; exact hT.2.1
  have hT9 : I 11 9 = nI (t 6 1) := by rw [hS.2 11 (by decide) (by decide)]; exact hT.2.2
  have h8 := hTo.1
  refine aw_Met.of okX7_become (Nat.le_of_ble_eq_true rfl) ?_
  show aw_W G mX7_become 0 [.ref 37, .ref 11, aw_x] [] (zH n I L c) (0, 0) _
  refine aw_aload_n dX7_become_0 rfl ?_
  refine aw_aload_n dX7_become_1 rfl ?_
  refine aw_getI dX7_become_2 f7_30 rfl ⟨Nat.le_of_ble_eq_true rfl, Nat.le_of_ble_eq_true rfl⟩ rfl ?_
  refine aw_top hn8 ?_
  refine aw_putI dX7_become_5 f7_30 rfl ⟨Nat.le_of_ble_eq_true rfl, Nat.le_of_ble_eq_true rfl⟩ (Or.inl rfl) rfl ?_
  refine aw_aload_n dX7_become_8 rfl ?_
  refine aw_aload_n dX7_become_9 rfl ?_
  refine aw_getR dX7_become_10 f7_41 rfl ⟨Nat.le_of_ble_eq_true rfl, Nat.le_of_ble_eq_true rfl⟩ rfl rfl ?_
  refine aw_putR dX7_become_13 f7_41 rfl ⟨Nat.le_of_ble_eq_true rfl, Nat.le_of_ble_eq_true rfl⟩ (Or.inl rfl) rfl ?_
  rw [zR_up]
  show aw_W G mX7_become 16 _ _ (zH n _ L 12) _ _
  refine aw_aload_n dX7_become_16 rfl ?_
  refine aw_aload_n dX7_become_17 rfl ?_
  refine aw_getI dX7_become_18 f7_34 rfl ⟨Nat.le_of_ble_eq_true rfl, Nat.le_of_ble_eq_true rfl⟩ rfl ?_
  refine aw_top ((congrFun (aw_u_ne (show 11 ≠ 37 by decide)) 9).trans hT9) ?_
  refine aw_putI dX7_become_21 f7_34 rfl ⟨Nat.le_of_ble_eq_true rfl, Nat.le_of_ble_eq_true rfl⟩ (Or.inl rfl) rfl ?_
  refine aw_iconst (v := 0) dX7_become_24 rfl ?_
  refine aw_istore_n (ls2 := [_, _, _]) dX7_become_25 (by decide) rfl rfl ?_
  have hS0 : zSx (aw_u (aw_u t0 6 0 (t 6 0)) 6 1 (t 6 1)) 37 38 I0 _ := (hS.u8 (v := t 6 0) (by decide)).u9 (v := t 6 1) (by decide)
  refine aw_up (X := fun i => ∀ I t2, (t2 6 0 = t 6 0 ∧ t2 6 1 = t 6 1 ∧ (∀ j k, j < 6 → k < i → t2 j k = t j k) ∧ zTok t2) ∧ zSx t2 37 38 I0 I → aw_W G mX7_become 26 [.ref 37, .ref 11, .int (nI i)] [] (zH n I L 12) (0, 0) _) (Nat.zero_le (t 6 0)) (fun I t2 hh => ?_) (fun i _ hi ih I t2 hh => ?_) _ _ ⟨⟨by rw [aw_u_nj (by decide), aw_u_eq], by rw [aw_u_eq], fun j k hj hk => absurd hk (by omega), ⟨by rw [aw_u_nj (by decide), aw_u_eq]; exact hTo.1, by rw [aw_u_eq]; exact hTo.2.1, fun c hc => by simp only [aw_u_ne (show 0 ≠ 6 by decide), aw_u_ne (show 1 ≠ 6 by decide), aw_u_ne (show 2 ≠ 6 by decide), aw_u_ne (show 3 ≠ 6 by decide), aw_u_ne (show 4 ≠ 6 by decide), aw_u_ne (show 5 ≠ 6 by decide)]; exact hT0.2.2 c hc⟩⟩, hS0⟩
  · obtain ⟨⟨h1, h2, h4, h5⟩, hS⟩ := hh
    have hn : I 37 8 = nI (t 6 0) := by rw [hS.1.2.1, h1]
    refine aw_iload_n dX7_become_26 rfl ?_
    refine aw_aload_n dX7_become_27 rfl ?_
    refine aw_getI dX7_become_28 f7_30 rfl ⟨Nat.le_of_ble_eq_true rfl, Nat.le_of_ble_eq_true rfl⟩ rfl ?_
    refine aw_top hn ?_
    refine aw_ic_ge_n (a := t 6 0) (b := t 6 0) (tgt := 112) dX7_become_31 (by decide) (by omega) (by omega) (fun c31 => ?_) (fun z => absurd z (by omega))
    refine aw_ret0 dX7_become_112 rfl ⟨Nat.le_of_ble_eq_true rfl, Nat.le_of_ble_eq_true rfl⟩ ?_
    exact ⟨rfl, _, rfl, _, hS, ⟨h1, h2, h4⟩, h5⟩
  · obtain ⟨⟨h1, h2, h4, h5⟩, hS⟩ := hh
    have hn : I 37 8 = nI (t 6 0) := by rw [hS.1.2.1, h1]
    have hti := hTo.2.2 i (by omega)
    refine aw_iload_n dX7_become_26 rfl ?_
    refine aw_aload_n dX7_become_27 rfl ?_
    refine aw_getI dX7_become_28 f7_30 rfl ⟨Nat.le_of_ble_eq_true rfl, Nat.le_of_ble_eq_true rfl⟩ rfl ?_
    refine aw_top hn ?_
    refine aw_ic_ge_n (a := i) (b := t 6 0) (tgt := 112) dX7_become_31 (by decide) (by omega) (by omega) (fun z => absurd z (by omega)) (fun c31 => ?_)
    refine aw_aload_n dX7_become_34 rfl ?_
    refine aw_getR dX7_become_35 f7_9 rfl ⟨Nat.le_of_ble_eq_true rfl, Nat.le_of_ble_eq_true rfl⟩ rfl rfl ?_
    refine aw_iload_n dX7_become_38 rfl ?_
    refine aw_aload_n dX7_become_39 rfl ?_
    refine aw_getR dX7_become_40 f7_9 rfl ⟨Nat.le_of_ble_eq_true rfl, Nat.le_of_ble_eq_true rfl⟩ rfl rfl ?_
    refine aw_iload_n dX7_become_43 rfl ?_
    refine aw_iald_n (j := i) dX7_become_44 rfl (Nat.le_of_ble_eq_true rfl) (by decide) (by omega) ?_
    refine aw_top ((congrFun (hS.2 16 (by decide) (by decide)) i).trans (hT.1 0 i (by decide) (by omega))) ?_
    refine aw_iast_n (j := i) dX7_become_45 rfl ⟨Nat.le_of_ble_eq_true rfl, Nat.le_of_ble_eq_true rfl⟩ (by decide) (by omega) ?_
    refine aw_aload_n dX7_become_46 rfl ?_
    refine aw_getR dX7_become_47 f7_15 rfl ⟨Nat.le_of_ble_eq_true rfl, Nat.le_of_ble_eq_true rfl⟩ rfl rfl ?_
    refine aw_iload_n dX7_become_50 rfl ?_
    refine aw_aload_n dX7_become_51 rfl ?_
    refine aw_getR dX7_become_52 f7_15 rfl ⟨Nat.le_of_ble_eq_true rfl, Nat.le_of_ble_eq_true rfl⟩ rfl rfl ?_
    refine aw_iload_n dX7_become_55 rfl ?_
    refine aw_iald_n (j := i) dX7_become_56 rfl (Nat.le_of_ble_eq_true rfl) (by decide) (by omega) ?_
    refine aw_top ((congrFun ((hS.u (i := 0) (j := i) (v := t 0 i) (by decide) (by decide)).2 17 (by decide) (by decide)) i).trans (hT.1 1 i (by decide) (by omega))) ?_
    refine aw_iast_n (j := i) dX7_become_57 rfl ⟨Nat.le_of_ble_eq_true rfl, Nat.le_of_ble_eq_true rfl⟩ (by decide) (by omega) ?_
    refine aw_aload_n dX7_become_58 rfl ?_
    refine aw_getR dX7_become_59 f7_18 rfl ⟨Nat.le_of_ble_eq_true rfl, Nat.le_of_ble_eq_true rfl⟩ rfl rfl ?_
    refine aw_iload_n dX7_become_62 rfl ?_
    refine aw_aload_n dX7_become_63 rfl ?_
    refine aw_getR dX7_become_64 f7_18 rfl ⟨Nat.le_of_ble_eq_true rfl, Nat.le_of_ble_eq_true rfl⟩ rfl rfl ?_
    refine aw_iload_n dX7_become_67 rfl ?_
    refine aw_iald_n (j := i) dX7_become_68 rfl (Nat.le_of_ble_eq_true rfl) (by decide) (by omega) ?_
    refine aw_top ((congrFun (((hS.u (i := 0) (j := i) (v := t 0 i) (by decide) (by decide)).u (i := 1) (j := i) (v := t 1 i) (by decide) (by decide)).2 18 (by decide) (by decide)) i).trans (hT.1 2 i (by decide) (by omega))) ?_
    refine aw_iast_n (j := i) dX7_become_69 rfl ⟨Nat.le_of_ble_eq_true rfl, Nat.le_of_ble_eq_true rfl⟩ (by decide) (by omega) ?_
    refine aw_aload_n dX7_become_70 rfl ?_
    refine aw_getR dX7_become_71 f7_21 rfl ⟨Nat.le_of_ble_eq_true rfl, Nat.le_of_ble_eq_true rfl⟩ rfl rfl ?_
    refine aw_iload_n dX7_become_74 rfl ?_
    refine aw_aload_n dX7_become_75 rfl ?_
    refine aw_getR dX7_become_76 f7_21 rfl ⟨Nat.le_of_ble_eq_true rfl, Nat.le_of_ble_eq_true rfl⟩ rfl rfl ?_
    refine aw_iload_n dX7_become_79 rfl ?_
    refine aw_iald_n (j := i) dX7_become_80 rfl (Nat.le_of_ble_eq_true rfl) (by decide) (by omega) ?_
    refine aw_top ((congrFun ((((hS.u (i := 0) (j := i) (v := t 0 i) (by decide) (by decide)).u (i := 1) (j := i) (v := t 1 i) (by decide) (by decide)).u (i := 2) (j := i) (v := t 2 i) (by decide) (by decide)).2 19 (by decide) (by decide)) i).trans (hT.1 3 i (by decide) (by omega))) ?_
    refine aw_iast_n (j := i) dX7_become_81 rfl ⟨Nat.le_of_ble_eq_true rfl, Nat.le_of_ble_eq_true rfl⟩ (by decide) (by omega) ?_
    refine aw_aload_n dX7_become_82 rfl ?_
    refine aw_getR dX7_become_83 f7_24 rfl ⟨Nat.le_of_ble_eq_true rfl, Nat.le_of_ble_eq_true rfl⟩ rfl rfl ?_
    refine aw_iload_n dX7_become_86 rfl ?_
    refine aw_aload_n dX7_become_87 rfl ?_
    refine aw_getR dX7_become_88 f7_24 rfl ⟨Nat.le_of_ble_eq_true rfl, Nat.le_of_ble_eq_true rfl⟩ rfl rfl ?_
    refine aw_iload_n dX7_become_91 rfl ?_
    refine aw_iald_n (j := i) dX7_become_92 rfl (Nat.le_of_ble_eq_true rfl) (by decide) (by omega) ?_
    refine aw_top ((congrFun (((((hS.u (i := 0) (j := i) (v := t 0 i) (by decide) (by decide)).u (i := 1) (j := i) (v := t 1 i) (by decide) (by decide)).u (i := 2) (j := i) (v := t 2 i) (by decide) (by decide)).u (i := 3) (j := i) (v := t 3 i) (by decide) (by decide)).2 20 (by decide) (by decide)) i).trans (hT.1 4 i (by decide) (by omega))) ?_
    refine aw_iast_n (j := i) dX7_become_93 rfl ⟨Nat.le_of_ble_eq_true rfl, Nat.le_of_ble_eq_true rfl⟩ (by decide) (by omega) ?_
    refine aw_aload_n dX7_become_94 rfl ?_
    refine aw_getR dX7_become_95 f7_27 rfl ⟨Nat.le_of_ble_eq_true rfl, Nat.le_of_ble_eq_true rfl⟩ rfl rfl ?_
    refine aw_iload_n dX7_become_98 rfl ?_
    refine aw_aload_n dX7_become_99 rfl ?_
    refine aw_getR dX7_become_100 f7_27 rfl ⟨Nat.le_of_ble_eq_true rfl, Nat.le_of_ble_eq_true rfl⟩ rfl rfl ?_
    refine aw_iload_n dX7_become_103 rfl ?_
    refine aw_iald_n (j := i) dX7_become_104 rfl (Nat.le_of_ble_eq_true rfl) (by decide) (by omega) ?_
    refine aw_top ((congrFun ((((((hS.u (i := 0) (j := i) (v := t 0 i) (by decide) (by decide)).u (i := 1) (j := i) (v := t 1 i) (by decide) (by decide)).u (i := 2) (j := i) (v := t 2 i) (by decide) (by decide)).u (i := 3) (j := i) (v := t 3 i) (by decide) (by decide)).u (i := 4) (j := i) (v := t 4 i) (by decide) (by decide)).2 21 (by decide) (by decide)) i).trans (hT.1 5 i (by decide) (by omega))) ?_
    refine aw_iast_n (j := i) dX7_become_105 rfl ⟨Nat.le_of_ble_eq_true rfl, Nat.le_of_ble_eq_true rfl⟩ (by decide) (by omega) ?_
    refine aw_iinc_n (ls2 := [_, _, _]) dX7_become_106 rfl (by decide) rfl rfl ?_
    refine aw_goto (tgt := 26) dX7_become_109 (by decide) ?_
    refine ih _ _ ⟨⟨?_, ?_, fun j k hj hk => ?_, ?_⟩, ((((((hS.u (i := 0) (j := i) (v := t 0 i) (by decide) (by decide)).u (i := 1) (j := i) (v := t 1 i) (by decide) (by decide)).u (i := 2) (j := i) (v := t 2 i) (by decide) (by decide)).u (i := 3) (j := i) (v := t 3 i) (by decide) (by decide)).u (i := 4) (j := i) (v := t 4 i) (by decide) (by decide)).u (i := 5) (j := i) (v := t 5 i) (by decide) (by decide))⟩
    · simp only [aw_u_ne (show 6 ≠ 0 by decide), aw_u_ne (show 6 ≠ 1 by decide), aw_u_ne (show 6 ≠ 2 by decide), aw_u_ne (show 6 ≠ 3 by decide), aw_u_ne (show 6 ≠ 4 by decide), aw_u_ne (show 6 ≠ 5 by decide)]; exact h1
    · simp only [aw_u_ne (show 6 ≠ 0 by decide), aw_u_ne (show 6 ≠ 1 by decide), aw_u_ne (show 6 ≠ 2 by decide), aw_u_ne (show 6 ≠ 3 by decide), aw_u_ne (show 6 ≠ 4 by decide), aw_u_ne (show 6 ≠ 5 by decide)]; exact h2
    · by_cases hki : k = i
      · subst hki
        have hjc : j = 0 ∨ j = 1 ∨ j = 2 ∨ j = 3 ∨ j = 4 ∨ j = 5 := by omega
        rcases hjc with rfl | rfl | rfl | rfl | rfl | rfl <;> simp [aw_u, va_up]
      · rw [aw_u_col hki, aw_u_col hki, aw_u_col hki, aw_u_col hki, aw_u_col hki, aw_u_col hki]; exact h4 j k hj (by omega)
    · refine (((((h5.u (by decide) ?_).u (by decide) ?_).u (by decide) ?_).u (by decide) ?_).u (by decide) ?_).u (by decide) ?_
      · show _ < 8; omega
      · show _ < 8; omega
      · show _ < 3; omega
      · show _ < 1000; omega
      · show _ < 1000; omega
      · show _ < 100; omega
theorem w_part0 (G : aw_G) {n c : Nat} {I : Nat → Nat → Int32} {L : Nat → Nat → Int64} {t : Nat → Nat → Nat} {k : Nat} (hT : zSet t 11 16 I) (hk : k < 8) : aw_Met G mX7_part [.ref 11, .int (nI k), .int 0] (zH n I L c) (fun v h2 => v = some (.int (nI (t 0 k))) ∧ h2 = zH n I L c) := by
  refine aw_Met.of okX7_part (Nat.le_of_ble_eq_true rfl) ?_
  show aw_W G mX7_part 0 [.ref 11, .int (nI k), .int 0] [] (zH n I L c) (0, 0) _
  refine aw_iload_n dX7_part_0 rfl ?_
  refine aw_swIn (off := 31) (tgt := 32) dX7_part_1 (by decide) (by decide) rfl (by decide) ?_
  refine aw_aload_n dX7_part_32 rfl ?_
  refine aw_getR dX7_part_33 f7_9 rfl ⟨Nat.le_of_ble_eq_true rfl, Nat.le_of_ble_eq_true rfl⟩ rfl rfl ?_
  refine aw_iload_n dX7_part_36 rfl ?_
  refine aw_iald_n (j := k) dX7_part_37 rfl (Nat.le_of_ble_eq_true rfl) (by decide) (by omega) ?_
  refine aw_top (hT.1 0 k (by decide) hk) ?_
  refine aw_reti dX7_part_38 rfl rfl ⟨Nat.le_of_ble_eq_true rfl, Nat.le_of_ble_eq_true rfl⟩ ?_
  exact ⟨rfl, rfl⟩
theorem w_part1 (G : aw_G) {n c : Nat} {I : Nat → Nat → Int32} {L : Nat → Nat → Int64} {t : Nat → Nat → Nat} {k : Nat} (hT : zSet t 11 16 I) (hk : k < 8) : aw_Met G mX7_part [.ref 11, .int (nI k), .int 1] (zH n I L c) (fun v h2 => v = some (.int (nI (t 1 k))) ∧ h2 = zH n I L c) := by
  refine aw_Met.of okX7_part (Nat.le_of_ble_eq_true rfl) ?_
  show aw_W G mX7_part 0 [.ref 11, .int (nI k), .int 1] [] (zH n I L c) (0, 0) _
  refine aw_iload_n dX7_part_0 rfl ?_
  refine aw_swIn (off := 38) (tgt := 39) dX7_part_1 (by decide) (by decide) rfl (by decide) ?_
  refine aw_aload_n dX7_part_39 rfl ?_
  refine aw_getR dX7_part_40 f7_15 rfl ⟨Nat.le_of_ble_eq_true rfl, Nat.le_of_ble_eq_true rfl⟩ rfl rfl ?_
  refine aw_iload_n dX7_part_43 rfl ?_
  refine aw_iald_n (j := k) dX7_part_44 rfl (Nat.le_of_ble_eq_true rfl) (by decide) (by omega) ?_
  refine aw_top (hT.1 1 k (by decide) hk) ?_
  refine aw_reti dX7_part_45 rfl rfl ⟨Nat.le_of_ble_eq_true rfl, Nat.le_of_ble_eq_true rfl⟩ ?_
  exact ⟨rfl, rfl⟩
theorem w_part2 (G : aw_G) {n c : Nat} {I : Nat → Nat → Int32} {L : Nat → Nat → Int64} {t : Nat → Nat → Nat} {k : Nat} (hT : zSet t 11 16 I) (hk : k < 8) : aw_Met G mX7_part [.ref 11, .int (nI k), .int 2] (zH n I L c) (fun v h2 => v = some (.int (nI (t 2 k))) ∧ h2 = zH n I L c) := by
  refine aw_Met.of okX7_part (Nat.le_of_ble_eq_true rfl) ?_
  show aw_W G mX7_part 0 [.ref 11, .int (nI k), .int 2] [] (zH n I L c) (0, 0) _
  refine aw_iload_n dX7_part_0 rfl ?_
  refine aw_swIn (off := 45) (tgt := 46) dX7_part_1 (by decide) (by decide) rfl (by decide) ?_
  refine aw_aload_n dX7_part_46 rfl ?_
  refine aw_getR dX7_part_47 f7_18 rfl ⟨Nat.le_of_ble_eq_true rfl, Nat.le_of_ble_eq_true rfl⟩ rfl rfl ?_
  refine aw_iload_n dX7_part_50 rfl ?_
  refine aw_iald_n (j := k) dX7_part_51 rfl (Nat.le_of_ble_eq_true rfl) (by decide) (by omega) ?_
  refine aw_top (hT.1 2 k (by decide) hk) ?_
  refine aw_reti dX7_part_52 rfl rfl ⟨Nat.le_of_ble_eq_true rfl, Nat.le_of_ble_eq_true rfl⟩ ?_
  exact ⟨rfl, rfl⟩
theorem w_part3 (G : aw_G) {n c : Nat} {I : Nat → Nat → Int32} {L : Nat → Nat → Int64} {t : Nat → Nat → Nat} {k : Nat} (hT : zSet t 11 16 I) (hk : k < 8) : aw_Met G mX7_part [.ref 11, .int (nI k), .int 3] (zH n I L c) (fun v h2 => v = some (.int (nI (t 3 k))) ∧ h2 = zH n I L c) := by
  refine aw_Met.of okX7_part (Nat.le_of_ble_eq_true rfl) ?_
  show aw_W G mX7_part 0 [.ref 11, .int (nI k), .int 3] [] (zH n I L c) (0, 0) _
  refine aw_iload_n dX7_part_0 rfl ?_
  refine aw_swIn (off := 52) (tgt := 53) dX7_part_1 (by decide) (by decide) rfl (by decide) ?_
  refine aw_aload_n dX7_part_53 rfl ?_
  refine aw_getR dX7_part_54 f7_21 rfl ⟨Nat.le_of_ble_eq_true rfl, Nat.le_of_ble_eq_true rfl⟩ rfl rfl ?_
  refine aw_iload_n dX7_part_57 rfl ?_
  refine aw_iald_n (j := k) dX7_part_58 rfl (Nat.le_of_ble_eq_true rfl) (by decide) (by omega) ?_
  refine aw_top (hT.1 3 k (by decide) hk) ?_
  refine aw_reti dX7_part_59 rfl rfl ⟨Nat.le_of_ble_eq_true rfl, Nat.le_of_ble_eq_true rfl⟩ ?_
  exact ⟨rfl, rfl⟩
theorem w_part4 (G : aw_G) {n c : Nat} {I : Nat → Nat → Int32} {L : Nat → Nat → Int64} {t : Nat → Nat → Nat} {k : Nat} (hT : zSet t 11 16 I) (hk : k < 8) : aw_Met G mX7_part [.ref 11, .int (nI k), .int 4] (zH n I L c) (fun v h2 => v = some (.int (nI (t 4 k))) ∧ h2 = zH n I L c) := by
  refine aw_Met.of okX7_part (Nat.le_of_ble_eq_true rfl) ?_
  show aw_W G mX7_part 0 [.ref 11, .int (nI k), .int 4] [] (zH n I L c) (0, 0) _
  refine aw_iload_n dX7_part_0 rfl ?_
  refine aw_swOut (tgt := 60) dX7_part_1 (by decide) (by decide) ?_
  refine aw_aload_n dX7_part_60 rfl ?_
  refine aw_getR dX7_part_61 f7_24 rfl ⟨Nat.le_of_ble_eq_true rfl, Nat.le_of_ble_eq_true rfl⟩ rfl rfl ?_
  refine aw_iload_n dX7_part_64 rfl ?_
  refine aw_iald_n (j := k) dX7_part_65 rfl (Nat.le_of_ble_eq_true rfl) (by decide) (by omega) ?_
  refine aw_top (hT.1 4 k (by decide) hk) ?_
  refine aw_reti dX7_part_66 rfl rfl ⟨Nat.le_of_ble_eq_true rfl, Nat.le_of_ble_eq_true rfl⟩ ?_
  exact ⟨rfl, rfl⟩
theorem w_part (G : aw_G) {n c : Nat} {I : Nat → Nat → Int32} {L : Nat → Nat → Int64} {t : Nat → Nat → Nat} {k j : Nat} (hT : zSet t 11 16 I) (hk : k < 8) (hj : j < 5) : aw_Met G mX7_part [.ref 11, .int (nI k), .int (nI j)] (zH n I L c) (fun v h2 => v = some (.int (nI (t j k))) ∧ h2 = zH n I L c) := by
  have h : j = 0 ∨ j = 1 ∨ j = 2 ∨ j = 3 ∨ j = 4 := by omega
  rcases h with rfl | rfl | rfl | rfl | rfl
  · exact w_part0 G hT hk
  · exact w_part1 G hT hk
  · exact w_part2 G hT hk
  · exact w_part3 G hT hk
  · exact w_part4 G hT hk
def t_swap (t : Nat → Nat → Nat) (a b : Nat) : Nat → Nat → Nat := aw_u (aw_u (aw_u (aw_u t 2 a (t 2 b)) 3 a (t 3 b)) 2 b (t 2 a)) 3 b (t 3 a)
theorem w_swap (G : aw_G) {n c : Nat} {I I0 : Nat → Nat → Int32} {L : Nat → Nat → Int64} {t : Nat → Nat → Nat} {a b : Nat} (hS : zSx t 37 38 I0 I) (ha : a < 8) (hb : b < 8) : aw_Met G mX7_swapQuestions [.ref 37, .int (nI a), .int (nI b)] (zH n I L c) (fun v h2 => v = none ∧ ∃ I2, h2 = zH n I2 L c ∧ zSx (t_swap t a b) 37 38 I0 I2) := by
  refine aw_Met.of okX7_swapQuestions (Nat.le_of_ble_eq_true rfl) ?_
  show aw_W G mX7_swapQuestions 0 [.ref 37, .int (nI a), .int (nI b), aw_x, aw_x] [] (zH n I L c) (0, 0) _
  refine aw_aload_n dX7_swapQuestions_0 rfl ?_
  refine aw_getR dX7_swapQuestions_1 f7_18 rfl ⟨Nat.le_of_ble_eq_true rfl, Nat.le_of_ble_eq_true rfl⟩ rfl rfl ?_
  refine aw_iload_n dX7_swapQuestions_4 rfl ?_
  refine aw_iald_n (j := a) dX7_swapQuestions_5 rfl (Nat.le_of_ble_eq_true rfl) (by decide) (by omega) ?_
  refine aw_top (hS.1.1 2 a (by decide) (by omega)) ?_
  refine aw_istore_n (ls2 := [_, _, _, _, _]) dX7_swapQuestions_6 (by decide) rfl rfl ?_
  refine aw_aload_n dX7_swapQuestions_7 rfl ?_
  refine aw_getR dX7_swapQuestions_8 f7_21 rfl ⟨Nat.le_of_ble_eq_true rfl, Nat.le_of_ble_eq_true rfl⟩ rfl rfl ?_
  refine aw_iload_n dX7_swapQuestions_11 rfl ?_
  refine aw_iald_n (j := a) dX7_swapQuestions_12 rfl (Nat.le_of_ble_eq_true rfl) (by decide) (by omega) ?_
  refine aw_top (hS.1.1 3 a (by decide) (by omega)) ?_
  refine aw_istore (ls2 := [_, _, _, _, _]) dX7_swapQuestions_13 (by decide) rfl rfl ?_
  refine aw_aload_n dX7_swapQuestions_15 rfl ?_
  refine aw_getR dX7_swapQuestions_16 f7_18 rfl ⟨Nat.le_of_ble_eq_true rfl, Nat.le_of_ble_eq_true rfl⟩ rfl rfl ?_
  refine aw_iload_n dX7_swapQuestions_19 rfl ?_
  refine aw_aload_n dX7_swapQuestions_20 rfl ?_
  refine aw_getR dX7_swapQuestions_21 f7_18 rfl ⟨Nat.le_of_ble_eq_true rfl, Nat.le_of_ble_eq_true rfl⟩ rfl rfl ?_
  refine aw_iload_n dX7_swapQuestions_24 rfl ?_
  refine aw_iald_n (j := b) dX7_swapQuestions_25 rfl (Nat.le_of_ble_eq_true rfl) (by decide) (by omega) ?_
  refine aw_top (hS.1.1 2 b (by decide) (by omega)) ?_
  refine aw_iast_n (j := a) dX7_swapQuestions_26 rfl ⟨Nat.le_of_ble_eq_true rfl, Nat.le_of_ble_eq_true rfl⟩ (by decide) (by omega) ?_
  refine aw_aload_n dX7_swapQuestions_27 rfl ?_
  refine aw_getR dX7_swapQuestions_28 f7_21 rfl ⟨Nat.le_of_ble_eq_true rfl, Nat.le_of_ble_eq_true rfl⟩ rfl rfl ?_
  refine aw_iload_n dX7_swapQuestions_31 rfl ?_
  refine aw_aload_n dX7_swapQuestions_32 rfl ?_
  refine aw_getR dX7_swapQuestions_33 f7_21 rfl ⟨Nat.le_of_ble_eq_true rfl, Nat.le_of_ble_eq_true rfl⟩ rfl rfl ?_
  refine aw_iload_n dX7_swapQuestions_36 rfl ?_
  refine aw_iald_n (j := b) dX7_swapQuestions_37 rfl (Nat.le_of_ble_eq_true rfl) (by decide) (by omega) ?_
  refine aw_top (((hS.u (i := 2) (j := a) (v := t 2 b) (by decide) (by decide)).1.1 3 b (by decide) (by omega)).trans (congrArg nI (congrFun (aw_u_ne (show 3 ≠ 2 by decide)) b))) ?_
  refine aw_iast_n (j := a) dX7_swapQuestions_38 rfl ⟨Nat.le_of_ble_eq_true rfl, Nat.le_of_ble_eq_true rfl⟩ (by decide) (by omega) ?_
  refine aw_aload_n dX7_swapQuestions_39 rfl ?_
  refine aw_getR dX7_swapQuestions_40 f7_18 rfl ⟨Nat.le_of_ble_eq_true rfl, Nat.le_of_ble_eq_true rfl⟩ rfl rfl ?_
  refine aw_iload_n dX7_swapQuestions_43 rfl ?_
  refine aw_iload_n dX7_swapQuestions_44 rfl ?_
  refine aw_iast_n (j := b) dX7_swapQuestions_45 rfl ⟨Nat.le_of_ble_eq_true rfl, Nat.le_of_ble_eq_true rfl⟩ (by decide) (by omega) ?_
  refine aw_aload_n dX7_swapQuestions_46 rfl ?_
  refine aw_getR dX7_swapQuestions_47 f7_21 rfl ⟨Nat.le_of_ble_eq_true rfl, Nat.le_of_ble_eq_true rfl⟩ rfl rfl ?_
  refine aw_iload_n dX7_swapQuestions_50 rfl ?_
  refine aw_iload dX7_swapQuestions_51 rfl ?_
  refine aw_iast_n (j := b) dX7_swapQuestions_53 rfl ⟨Nat.le_of_ble_eq_true rfl, Nat.le_of_ble_eq_true rfl⟩ (by decide) (by omega) ?_
  refine aw_ret0 dX7_swapQuestions_54 rfl ⟨Nat.le_of_ble_eq_true rfl, Nat.le_of_ble_eq_true rfl⟩ ?_
  exact ⟨rfl, _, rfl, ((((hS.u (i := 2) (j := a) (v := t 2 b) (by decide) (by decide)).u (i := 3) (j := a) (v := t 3 b) (by decide) (by decide)).u (i := 2) (j := b) (v := t 2 a) (by decide) (by decide)).u (i := 3) (j := b) (v := t 3 a) (by decide) (by decide))⟩
