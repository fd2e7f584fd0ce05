/-! THE CLASS and THE REFERENCE are made -/
def s1 (i _j : Nat) : Nat := if i = 7 ∨ i = 14 then 1 else 0
def g1 (i _j : Nat) : Nat := if i = 2 then 1 else 0
def m1 (i j : Nat) : Nat := if i = 1 ∨ i = 3 ∨ i = 5 ∨ i = 9 ∨ (i = 6 ∧ j % 2 = 1) then 1 else 0
def bz (_j : Nat) : Nat := 0
def ez (_i _j : Nat) : Int32 := 0
abbrev Xz : Nat → Nat → Nat := f_x (v_w bz) (q_k (q_w bz) 5 0)
abbrev Yz : Nat → Nat → Nat := f_y (v_w bz) (q_k (q_w bz) 5 0)
theorem s1_ok : zOk s1 := by
  have e : ∀ i j, i ≠ 7 → i ≠ 14 → s1 i j = 0 := fun i j a b => by unfold s1; rw [if_neg (by omega)]
  have f : ∀ i j, s1 i j ≤ 1 := fun i j => by unfold s1; split <;> omega
  refine ⟨⟨fun c _ => ⟨?_, ?_, ?_, ?_⟩, fun p _ => ?_⟩, fun i => ?_⟩
  · rw [e 1 c (by decide) (by decide)]; omega
  · have := f 7 c; omega
  · rw [e 5 c (by decide) (by decide)]; omega
  · rw [e 10 c (by decide) (by decide)]; omega
  · rw [e 4 p (by decide) (by decide)]; omega
  · have := f 14 i; omega
theorem s1_run {r : Nat} {I : Nat → Nat → Int32} (h0 : I r 0 = 0) (h10 : I r 10 = -1) (h11 : I r 11 = -1) (hz : ∀ i, 1 ≤ i → i < 15 → i ≠ 9 → I (r + i) = fun _ => 0) : zRun s1 r I I := by
  refine ⟨fun i j hi h9 hj0 hj => ?_, fun _ _ => rfl⟩
  match i, hi, h9 with
  | 0, _, _ =>
    rcases hj0 rfl with rfl | rfl | rfl
    · exact h0
    · exact h10
    · exact h11
  | 9, _, h => exact absurd rfl h
  | 1, _, _ => rw [hz 1 (by decide) (by decide) (by decide)]; rfl
  | 2, _, _ => rw [hz 2 (by decide) (by decide) (by decide)]; rfl
  | 3, _, _ => rw [hz 3 (by decide) (by decide) (by decide)]; rfl
  | 4, _, _ => rw [hz 4 (by decide) (by decide) (by decide)]; rfl
  | 5, _, _ => rw [hz 5 (by decide) (by decide) (by decide)]; rfl
  | 6, _, _ => rw [hz 6 (by decide) (by decide) (by decide)]; rfl
  | 7, _, _ => rw [hz 7 (by decide) (by decide) (by decide)]; show (0 : Int32) = nI 1 - 1; decide
  | 8, _, _ => rw [hz 8 (by decide) (by decide) (by decide)]; rfl
  | 10, _, _ => rw [hz 10 (by decide) (by decide) (by decide)]; rfl
  | 11, _, _ => rw [hz 11 (by decide) (by decide) (by decide)]; rfl
  | 12, _, _ => rw [hz 12 (by decide) (by decide) (by decide)]; rfl
  | 13, _, _ => rw [hz 13 (by decide) (by decide) (by decide)]; rfl
  | 14, _, _ => rw [hz 14 (by decide) (by decide) (by decide)]; show (0 : Int32) = nI 1 - 1; decide
  | i + 15, h, _ => omega
theorem z0_tok : zTok z0 := ⟨Nat.zero_le _, by decide, fun c _ => ⟨(show 0 < 8 by decide), (show 0 < 8 by decide), (show 0 < 3 by decide), (show 0 < 1000 by decide), (show 0 < 1000 by decide), (show 0 < 100 by decide)⟩⟩
theorem z0_uok : zUok z0 := ⟨Nat.zero_le _, fun a _ => ⟨(show 0 < 100000 by decide), (show 0 < 100000 by decide)⟩⟩
theorem z0_tx : zTx bz bz 0 0 z0 z0 Xz Yz (v_w bz) (q_k (q_w bz) 5 0) :=
  zTx.mk z0_tok (fun k _ => (show 0 < 40 by decide)) z0_uok rfl rfl (fun j k _ hk => absurd hk (Nat.not_lt_zero _))
theorem z0_txW {I : Nat → Nat → Int32} (h1 : I 1 = aw_way) (h5 : I 5 = fun _ => 0) (a1 : I 4 1 = 10) (a3 : I 4 3 = 0) (a4 : I 4 4 = -1) (a5 : I 4 5 = 0) : zTxW bz 0 I :=
  ⟨⟨by rw [h1]; exact ⟨rfl, rfl, rfl, rfl, rfl⟩, fun j _ => by rw [h5]; exact ⟨rfl, (show 0 < 256 by decide)⟩, a3, a1, by decide⟩, a4, a5⟩
theorem z0_txC {I : Nat → Nat → Int32} (h1 : I 2 = aw_car) (h5 : I 7 = fun _ => 0) (a1 : I 6 1 = 8) (a3 : I 6 3 = 0) (a4 : I 6 4 = -1) (a5 : I 6 5 = 0) : zTxC bz 0 I :=
  ⟨⟨by rw [h1]; exact ⟨rfl, rfl, rfl, rfl, rfl, rfl, rfl⟩, fun j _ => by rw [h5]; exact ⟨rfl, (show 0 < 256 by decide)⟩, a3, a1, by decide⟩, a4, a5⟩
theorem z0_set {s a : Nat} {I : Nat → Nat → Int32} (h8 : I s 8 = 0) (h9 : I s 9 = 0) (hz : ∀ i, i < 6 → I (a + i) = fun _ => 0) : zSet z0 s a I := ⟨fun i j hi _ => by rw [hz i hi]; rfl, h8, h9⟩
theorem z0_an {I : Nat → Nat → Int32} (h2 : I 8 2 = 0) (h9 : I 9 = fun _ => 0) (h10 : I 10 = fun _ => 0) : zAn z0 I := ⟨h2, fun a _ => by rw [h9, h10]; exact ⟨rfl, rfl⟩⟩
set_option maxHeartbeats 40000000 in
theorem k_road (G : aw_G) {n : Nat} {I : Nat → Nat → Int32} {L : Nat → Nat → Int64} (hZ : ∀ a, 3 ≤ a → I a = fun _ => 0) (hL : ∀ a, 3 ≤ a → L a = fun _ => 0) (hp1 : I 1 = aw_way) (hp2 : I 2 = aw_car) : aw_Met G mX10_init [.ref 3] (zS n, I, L, yR 0, 1) (fun v h2 => v = none ∧ ∃ I2 L2, h2 = (zS n, I2, L2, zR 12, 78) ∧ zCI bz bz 0 0 z0 z0 Xz Yz g1 bz bz ez 0 I2 ∧ (∀ o, 81 ≤ o → I2 o = fun _ => 0) ∧ (∀ o, 81 ≤ o → L2 o = fun _ => 0)) := by
  refine aw_Met.of okX10_init (Nat.le_of_ble_eq_true rfl) ?_
  show aw_W G mX10_init 0 [.ref 3, aw_x, aw_x, aw_x] [] (zS n, I, L, yR 0, 1) (0, 0) _
  refine aw_aload_n dX10_init_0 rfl ?_
  refine aw_obj dX10_init_1 ob10_1 ob_i ob_c ⟨Nat.le_of_ble_eq_true rfl, Nat.le_of_ble_eq_true rfl⟩ ?_
  refine aw_aload_n dX10_init_4 rfl ?_
  refine aw_newY (cl := 9) (o := 4) (N2 := 2) dX10_init_5 (by decide) cl10_7 (aw_inst (by decide)) (aw_init (c := 9) (by decide)) ⟨Nat.le_of_ble_eq_true rfl, Nat.le_of_ble_eq_true rfl⟩ rfl rfl rfl (hZ _ (by decide)) (hL _ (by decide)) (c2 := 1) rfl (s2 := 6) rfl ?_
  refine aw_dup dX10_init_8 rfl ?_
  refine aw_getWAY dX10_init_9 gs_WAY ?_
  refine aw_bipush (v := 10) dX10_init_12 (by decide) ?_
  refine aw_invIY (As := [_, _]) dX10_init_14 k10_15 rfl rfl (Nat.le_of_ble_eq_true rfl) ⟨⟨Nat.le_of_ble_eq_true rfl, Nat.le_of_ble_eq_true rfl⟩, ⟨Nat.le_of_ble_eq_true rfl, Nat.le_of_ble_eq_true rfl⟩⟩ (k_text4 G (k := 0) (fun a ha => hZ a (by omega)) (fun a ha => hL a (by omega))) (c2 := 2) rfl (s2 := 66) rfl (fun v h2 hq => ?_)
  obtain ⟨rfl, I1, rfl, f1, a1, a3, a4, a5⟩ := hq
  have hZ1 : ∀ a, 5 ≤ a → I1 a = fun _ => 0 := fun a ha => by rw [f1 a (by omega)]; exact hZ a (by omega)
  refine aw_putRR (k1 := 0) (k2 := 1) dX10_init_17 f10_18 rfl ⟨Nat.le_of_ble_eq_true rfl, Nat.le_of_ble_eq_true rfl⟩ (Or.inr ⟨rfl, rfl⟩) rfl rfl rfl ?_
  refine aw_aload_n dX10_init_20 rfl ?_
  refine aw_newY (cl := 9) (o := 6) (N2 := 4) dX10_init_21 (by decide) cl10_7 (aw_inst (by decide)) (aw_init (c := 9) (by decide)) ⟨Nat.le_of_ble_eq_true rfl, Nat.le_of_ble_eq_true rfl⟩ rfl rfl rfl (hZ1 _ (by decide)) (hL _ (by decide)) (c2 := 3) rfl (s2 := 72) rfl ?_
  refine aw_dup dX10_init_24 rfl ?_
  refine aw_getCAR dX10_init_25 gs_CARTER ?_
  refine aw_bipush (v := 8) dX10_init_28 (by decide) ?_
  refine aw_invIY (As := [_, _]) dX10_init_30 k10_15 rfl rfl (Nat.le_of_ble_eq_true rfl) ⟨⟨Nat.le_of_ble_eq_true rfl, Nat.le_of_ble_eq_true rfl⟩, ⟨Nat.le_of_ble_eq_true rfl, Nat.le_of_ble_eq_true rfl⟩⟩ (k_text6 G (k := 1) (fun a ha => hZ1 a (by omega)) (fun a ha => hL a (by omega))) (c2 := 4) rfl (s2 := 132) rfl (fun v h2 hq => ?_)
  obtain ⟨rfl, I2, rfl, f2, b1, b3, b4, b5⟩ := hq
  have hZ2 : ∀ a, 7 ≤ a → I2 a = fun _ => 0 := fun a ha => by rw [f2 a (by omega)]; exact hZ1 a (by omega)
  refine aw_putRR (k1 := 1) (k2 := 2) dX10_init_33 f10_25 rfl ⟨Nat.le_of_ble_eq_true rfl, Nat.le_of_ble_eq_true rfl⟩ (Or.inr ⟨rfl, rfl⟩) rfl rfl rfl ?_
  refine aw_aload_n dX10_init_36 rfl ?_
  refine aw_newY (cl := 0) (o := 8) (N2 := 6) dX10_init_37 (by decide) cl10_28 (aw_inst (by decide)) (aw_init (c := 0) (by decide)) ⟨Nat.le_of_ble_eq_true rfl, Nat.le_of_ble_eq_true rfl⟩ rfl rfl rfl (hZ2 _ (by decide)) (hL _ (by decide)) (c2 := 5) rfl (s2 := 135) rfl ?_
  refine aw_dup dX10_init_40 rfl ?_
  refine aw_invIY (As := []) dX10_init_41 k10_30 rfl rfl (Nat.le_of_ble_eq_true rfl) ⟨⟨Nat.le_of_ble_eq_true rfl, Nat.le_of_ble_eq_true rfl⟩, ⟨Nat.le_of_ble_eq_true rfl, Nat.le_of_ble_eq_true rfl⟩⟩ (k_answers G (k := 2) (fun a ha => hZ2 a (by omega)) (fun a ha => hL a (by omega))) (c2 := 7) rfl (s2 := 151) rfl (fun v h2 hq => ?_)
  obtain ⟨rfl, I3, rfl, f3, d2⟩ := hq
  have hZ3 : ∀ a, 9 ≤ a → I3 a = fun _ => 0 := fun a ha => by rw [f3 a (by omega)]; exact hZ2 a (by omega)
  refine aw_putRR (k1 := 2) (k2 := 3) dX10_init_44 f10_31 rfl ⟨Nat.le_of_ble_eq_true rfl, Nat.le_of_ble_eq_true rfl⟩ (Or.inr ⟨rfl, rfl⟩) rfl rfl rfl ?_
  refine aw_aload_n dX10_init_47 rfl ?_
  refine aw_newY (cl := 7) (o := 11) (N2 := 9) dX10_init_48 (by decide) cl10_35 (aw_inst (by decide)) (aw_init (c := 7) (by decide)) ⟨Nat.le_of_ble_eq_true rfl, Nat.le_of_ble_eq_true rfl⟩ rfl rfl rfl (hZ3 _ (by decide)) (hL _ (by decide)) (c2 := 8) rfl (s2 := 161) rfl ?_
  refine aw_dup dX10_init_51 rfl ?_
  refine aw_aload_n dX10_init_52 rfl ?_
  refine aw_getR dX10_init_53 f10_31 rfl ⟨Nat.le_of_ble_eq_true rfl, Nat.le_of_ble_eq_true rfl⟩ rfl rfl ?_
  refine aw_newY (cl := 2) (o := 12) (N2 := 10) dX10_init_56 (by decide) cl10_37 (aw_inst (by decide)) (aw_init (c := 2) (by decide)) ⟨Nat.le_of_ble_eq_true rfl, Nat.le_of_ble_eq_true rfl⟩ rfl rfl rfl (hZ3 _ (by decide)) (hL _ (by decide)) (c2 := 9) rfl (s2 := 164) rfl ?_
  refine aw_dup dX10_init_59 rfl ?_
  refine aw_invIY (As := []) dX10_init_60 k10_39 rfl rfl (Nat.le_of_ble_eq_true rfl) ⟨⟨Nat.le_of_ble_eq_true rfl, Nat.le_of_ble_eq_true rfl⟩, ⟨Nat.le_of_ble_eq_true rfl, Nat.le_of_ble_eq_true rfl⟩⟩ (k_chart12 G (fun a ha => hZ3 a (by omega)) (fun a ha => hL a (by omega)) (fun j => by rw [va_up_nat (by decide)]; rfl) (by rw [va_up_nat (by decide)]; rfl) (by rw [va_up_nat (by decide)]; rfl) (by rw [va_up_nat (by decide)]; rfl)) (c2 := 12) rfl (s2 := 356) rfl (fun v h2 hq => ?_)
  obtain ⟨rfl, I4, rfl, f4⟩ := hq
  have hZ4 : ∀ a, 13 ≤ a → I4 a = fun _ => 0 := fun a ha => by rw [f4 a (by omega)]; exact hZ3 a (by omega)
  refine aw_invIY (As := [_, _]) dX10_init_63 k10_40 rfl rfl (Nat.le_of_ble_eq_true rfl) ⟨⟨Nat.le_of_ble_eq_true rfl, Nat.le_of_ble_eq_true rfl⟩, ⟨Nat.le_of_ble_eq_true rfl, Nat.le_of_ble_eq_true rfl⟩⟩ (k_set11 G (k := 3) (fun a ha => hZ4 a (by omega)) (fun a ha => hL a (by omega))) (c2 := 18) rfl (s2 := 404) rfl (fun v h2 hq => ?_)
  obtain ⟨rfl, I5, rfl, f5, s8, s9⟩ := hq
  have hZ5 : ∀ a, 13 ≤ a → I5 a = fun _ => 0 := fun a ha => by rw [f5 a (by omega)]; exact hZ4 a (by omega)
  have e5 : ∀ a, a ≤ 2 → I5 a = I a := fun a ha => by rw [f5 a (by omega), f4 a (by omega), f3 a (by omega), f2 a (by omega), f1 a (by omega)]
  have hTX5 : zTxW bz 0 I5 := z0_txW (by rw [e5 1 (by decide)]; exact hp1) (by rw [f5 5 (by decide), f4 5 (by decide), f3 5 (by decide), f2 5 (by decide)]; exact hZ1 5 (by decide)) (by rw [f5 4 (by decide), f4 4 (by decide), f3 4 (by decide), f2 4 (by decide)]; exact a1) (by rw [f5 4 (by decide), f4 4 (by decide), f3 4 (by decide), f2 4 (by decide)]; exact a3) (by rw [f5 4 (by decide), f4 4 (by decide), f3 4 (by decide), f2 4 (by decide)]; exact a4) (by rw [f5 4 (by decide), f4 4 (by decide), f3 4 (by decide), f2 4 (by decide)]; exact a5)
  have hTC5 : zTxC bz 0 I5 := z0_txC (by rw [e5 2 (by decide)]; exact hp2) (by rw [f5 7 (by decide), f4 7 (by decide), f3 7 (by decide)]; exact hZ2 7 (by decide)) (by rw [f5 6 (by decide), f4 6 (by decide), f3 6 (by decide)]; exact b1) (by rw [f5 6 (by decide), f4 6 (by decide), f3 6 (by decide)]; exact b3) (by rw [f5 6 (by decide), f4 6 (by decide), f3 6 (by decide)]; exact b4) (by rw [f5 6 (by decide), f4 6 (by decide), f3 6 (by decide)]; exact b5)
  have hA5 : zAn z0 I5 := z0_an (by rw [f5 8 (by decide), f4 8 (by decide)]; exact d2) (by rw [f5 9 (by decide), f4 9 (by decide)]; exact hZ3 9 (by decide)) (by rw [f5 10 (by decide), f4 10 (by decide)]; exact hZ3 10 (by decide))
  have hS5 : zSet z0 11 16 I5 := z0_set s8 s9 (fun i hi => hZ5 _ (by omega))
  refine aw_putRR (k1 := 3) (k2 := 4) dX10_init_66 f10_43 rfl ⟨Nat.le_of_ble_eq_true rfl, Nat.le_of_ble_eq_true rfl⟩ (Or.inr ⟨rfl, rfl⟩) rfl rfl rfl ?_
  refine aw_aload_n dX10_init_69 rfl ?_
  refine aw_getR dX10_init_70 f10_43 rfl ⟨Nat.le_of_ble_eq_true rfl, Nat.le_of_ble_eq_true rfl⟩ rfl rfl ?_
  refine aw_getR dX10_init_73 f10_47 rfl ⟨Nat.le_of_ble_eq_true rfl, Nat.le_of_ble_eq_true rfl⟩ rfl rfl ?_
  refine aw_aload_n dX10_init_76 rfl ?_
  refine aw_getR dX10_init_77 f10_18 rfl ⟨Nat.le_of_ble_eq_true rfl, Nat.le_of_ble_eq_true rfl⟩ rfl rfl ?_
  refine aw_iconst (v := -1) dX10_init_80 rfl ?_
  refine aw_top (show (-1 : Int32) = nI 0 - 1 from by decide) ?_
  refine aw_V0c (As := [_, _]) dX10_init_81 k10_51 rfl rfl rfl ⟨Nat.le_of_ble_eq_true rfl, Nat.le_of_ble_eq_true rfl⟩ (Nat.le_of_ble_eq_true rfl) ⟨⟨Nat.le_of_ble_eq_true rfl, Nat.le_of_ble_eq_true rfl⟩, ⟨Nat.le_of_ble_eq_true rfl, Nat.le_of_ble_eq_true rfl⟩⟩ ⟨rfl, rfl⟩ (xw_fill12 G (lv := 0) hTX5 (by decide)) (fun v h2 hq => ?_)
  obtain ⟨rfl, I6, rfl, hC6⟩ := hq
  rw [f_lv_0] at hC6
  have hZ6 : ∀ a, 22 ≤ a → I6 a = fun _ => 0 := fun a ha => by rw [hC6.2 a (by omega)]; exact hZ5 a (by omega)
  refine aw_aload_n dX10_init_84 rfl ?_
  refine aw_newY (cl := 6) (o := 22) (N2 := 20) dX10_init_85 (by decide) cl10_55 (aw_inst (by decide)) (aw_init (c := 6) (by decide)) ⟨Nat.le_of_ble_eq_true rfl, Nat.le_of_ble_eq_true rfl⟩ rfl rfl rfl (hZ6 _ (by decide)) (hL _ (by decide)) (c2 := 19) rfl (s2 := 416) rfl ?_
  refine aw_dup dX10_init_88 rfl ?_
  refine aw_invIY (As := []) dX10_init_89 k10_57 rfl rfl (Nat.le_of_ble_eq_true rfl) ⟨⟨Nat.le_of_ble_eq_true rfl, Nat.le_of_ble_eq_true rfl⟩, ⟨Nat.le_of_ble_eq_true rfl, Nat.le_of_ble_eq_true rfl⟩⟩ (k_run22 G (k := 4) (fun a ha => hZ6 a (by omega)) (fun a ha => hL a (by omega))) (c2 := 33) rfl (s2 := 749) rfl (fun v h2 hq => ?_)
  obtain ⟨rfl, I7, rfl, f7, r0, r10, r11⟩ := hq
  have hZ7 : ∀ a, 37 ≤ a → I7 a = fun _ => 0 := fun a ha => by rw [f7 a (by omega) (by omega)]; exact hZ6 a (by omega)
  have hR7 : zRun s1 22 I7 I7 := s1_run r0 r10 r11 (fun i h1 h2 h3 => by rw [f7 _ (by omega) (by omega)]; exact hZ6 _ (by omega))
  have e7 : ∀ a, a < 13 → I7 a = I5 a := fun a ha => by rw [f7 a (by omega) (by omega), hC6.2 a (by omega)]
  have e7b : ∀ a, 15 < a → a < 22 → I7 a = I5 a := fun a h1 h2 => by rw [f7 a (by omega) (by omega), hC6.2 a (by omega)]
  have hS7 : zSet z0 11 16 I7 := hS5.mv3 (e7 11 (by decide)) (fun i hi => e7b _ (by omega) (by omega))
  have hA7 : zAn z0 I7 := hA5.mv3 (e7 8 (by decide)) (e7 9 (by decide)) (e7 10 (by decide))
  have hX7 : zCh Xz 12 I7 := fun j hj => by rw [f7 13 (by decide) (by decide), f7 14 (by decide) (by decide), f7 15 (by decide) (by decide)]; exact hC6.1 j hj
  have hGo : zGo Xz Yz := zCharts v_w_ok
  refine aw_putRR (k1 := 4) (k2 := 5) dX10_init_92 f10_58 rfl ⟨Nat.le_of_ble_eq_true rfl, Nat.le_of_ble_eq_true rfl⟩ (Or.inr ⟨rfl, rfl⟩) rfl rfl rfl ?_
  refine aw_aload_n dX10_init_95 rfl ?_
  refine aw_getR dX10_init_96 f10_58 rfl ⟨Nat.le_of_ble_eq_true rfl, Nat.le_of_ble_eq_true rfl⟩ rfl rfl ?_
  refine aw_aload_n dX10_init_99 rfl ?_
  refine aw_getR dX10_init_100 f10_43 rfl ⟨Nat.le_of_ble_eq_true rfl, Nat.le_of_ble_eq_true rfl⟩ rfl rfl ?_
  refine aw_V0c (As := [_]) dX10_init_103 k10_62 rfl rfl rfl ⟨Nat.le_of_ble_eq_true rfl, Nat.le_of_ble_eq_true rfl⟩ (Nat.le_of_ble_eq_true rfl) ⟨⟨Nat.le_of_ble_eq_true rfl, Nat.le_of_ble_eq_true rfl⟩, ⟨Nat.le_of_ble_eq_true rfl, Nat.le_of_ble_eq_true rfl⟩⟩ ⟨rfl, rfl⟩ (yw_playA G (c := 5) hR7 hS7 hX7 hA7 z0_tok hGo.2.1 z0_uok s1_ok.1) (fun v h2 hq => ?_)
  obtain ⟨rfl, I8, rfl, hR8⟩ := hq
  have hZ8 : ∀ a, 37 ≤ a → I8 a = fun _ => 0 := fun a ha => by rw [hR8.2 a (by omega)]; exact hZ7 a (by omega)
  have e8 : ∀ a, a < 22 → I8 a = I7 a := fun a ha => hR8.2 a (by omega)
  refine aw_newY (cl := 7) (o := 37) (N2 := 35) dX10_init_106 (by decide) cl10_35 (aw_inst (by decide)) (aw_init (c := 7) (by decide)) ⟨Nat.le_of_ble_eq_true rfl, Nat.le_of_ble_eq_true rfl⟩ rfl rfl rfl (hZ8 _ (by decide)) (hL _ (by decide)) (c2 := 34) rfl (s2 := 759) rfl ?_
  refine aw_dup dX10_init_109 rfl ?_
  refine aw_aload_n dX10_init_110 rfl ?_
  refine aw_getR dX10_init_111 f10_31 rfl ⟨Nat.le_of_ble_eq_true rfl, Nat.le_of_ble_eq_true rfl⟩ rfl rfl ?_
  refine aw_aload_n dX10_init_114 rfl ?_
  refine aw_getR dX10_init_115 f10_43 rfl ⟨Nat.le_of_ble_eq_true rfl, Nat.le_of_ble_eq_true rfl⟩ rfl rfl ?_
  refine aw_getR dX10_init_118 f10_47 rfl ⟨Nat.le_of_ble_eq_true rfl, Nat.le_of_ble_eq_true rfl⟩ rfl rfl ?_
  refine aw_invIY (As := [_, _]) dX10_init_121 k10_40 rfl rfl (Nat.le_of_ble_eq_true rfl) ⟨⟨Nat.le_of_ble_eq_true rfl, Nat.le_of_ble_eq_true rfl⟩, ⟨Nat.le_of_ble_eq_true rfl, Nat.le_of_ble_eq_true rfl⟩⟩ (k_set37 G (k := 5) (fun a ha => hZ8 a (by omega)) (fun a ha => hL a (by omega))) (c2 := 40) rfl (s2 := 807) rfl (fun v h2 hq => ?_)
  obtain ⟨rfl, I9, rfl, f9, z8, z9⟩ := hq
  have hZ9 : ∀ a, 38 ≤ a → I9 a = fun _ => 0 := fun a ha => by rw [f9 a (by omega)]; exact hZ8 a (by omega)
  refine aw_astore_n (ls2 := [_, _, _, _]) dX10_init_124 (by decide) rfl rfl ?_
  refine aw_newY (cl := 6) (o := 44) (N2 := 42) dX10_init_125 (by decide) cl10_55 (aw_inst (by decide)) (aw_init (c := 6) (by decide)) ⟨Nat.le_of_ble_eq_true rfl, Nat.le_of_ble_eq_true rfl⟩ rfl rfl rfl (hZ9 _ (by decide)) (hL _ (by decide)) (c2 := 41) rfl (s2 := 819) rfl ?_
  refine aw_dup dX10_init_128 rfl ?_
  refine aw_invIY (As := []) dX10_init_129 k10_57 rfl rfl (Nat.le_of_ble_eq_true rfl) ⟨⟨Nat.le_of_ble_eq_true rfl, Nat.le_of_ble_eq_true rfl⟩, ⟨Nat.le_of_ble_eq_true rfl, Nat.le_of_ble_eq_true rfl⟩⟩ (k_run44 G (k := 5) (fun a ha => hZ9 a (by omega)) (fun a ha => hL a (by omega))) (c2 := 55) rfl (s2 := 1152) rfl (fun v h2 hq => ?_)
  obtain ⟨rfl, I10, rfl, f10, v0, v10, v11⟩ := hq
  have hZ10 : ∀ a, 59 ≤ a → I10 a = fun _ => 0 := fun a ha => by rw [f10 a (by omega) (by omega)]; exact hZ9 a (by omega)
  have hR10 : zRun s1 44 I10 I10 := s1_run v0 v10 v11 (fun i h1 h2 h3 => by rw [f10 _ (by omega) (by omega)]; exact hZ9 _ (by omega))
  refine aw_astore_n (ls2 := [_, _, _, _]) dX10_init_132 (by decide) rfl rfl ?_
  refine aw_aload_n dX10_init_133 rfl ?_
  refine aw_newY (cl := 5) (o := 59) (N2 := 57) dX10_init_134 (by decide) cl10_66 (aw_inst (by decide)) (aw_init (c := 5) (by decide)) ⟨Nat.le_of_ble_eq_true rfl, Nat.le_of_ble_eq_true rfl⟩ rfl rfl rfl (hZ10 _ (by decide)) (hL _ (by decide)) (c2 := 56) rfl (s2 := 1159) rfl ?_
  refine aw_dup dX10_init_137 rfl ?_
  refine aw_aload_n dX10_init_138 rfl ?_
  refine aw_getR dX10_init_139 f10_43 rfl ⟨Nat.le_of_ble_eq_true rfl, Nat.le_of_ble_eq_true rfl⟩ rfl rfl ?_
  refine aw_aload_n dX10_init_142 rfl ?_
  refine aw_aload_n dX10_init_143 rfl ?_
  refine aw_invIY (As := [_, _, _]) dX10_init_144 k10_68 rfl rfl (Nat.le_of_ble_eq_true rfl) ⟨⟨Nat.le_of_ble_eq_true rfl, Nat.le_of_ble_eq_true rfl⟩, ⟨Nat.le_of_ble_eq_true rfl, Nat.le_of_ble_eq_true rfl⟩⟩ (k_plans G (k := 5) (fun a ha => hZ10 a (by omega)) (fun a ha => hL a (by omega))) (c2 := 60) rfl (s2 := 1354) rfl (fun v h2 hq => ?_)
  obtain ⟨rfl, I11, rfl, f11⟩ := hq
  have hZ11 : ∀ a, 61 ≤ a → I11 a = fun _ => 0 := fun a ha => by rw [f11 a (by omega) (by omega)]; exact hZ10 a (by omega)
  refine aw_putRR (k1 := 5) (k2 := 6) dX10_init_147 f10_71 rfl ⟨Nat.le_of_ble_eq_true rfl, Nat.le_of_ble_eq_true rfl⟩ (Or.inr ⟨rfl, rfl⟩) rfl rfl rfl ?_
  refine aw_aload_n dX10_init_150 rfl ?_
  refine aw_newY (cl := 3) (o := 64) (N2 := 62) dX10_init_151 (by decide) cl10_75 (aw_inst (by decide)) (aw_init (c := 3) (by decide)) ⟨Nat.le_of_ble_eq_true rfl, Nat.le_of_ble_eq_true rfl⟩ rfl rfl rfl (hZ11 _ (by decide)) (hL _ (by decide)) (c2 := 61) rfl (s2 := 1367) rfl ?_
  refine aw_dup dX10_init_154 rfl ?_
  refine aw_aload_n dX10_init_155 rfl ?_
  refine aw_getR dX10_init_156 f10_43 rfl ⟨Nat.le_of_ble_eq_true rfl, Nat.le_of_ble_eq_true rfl⟩ rfl rfl ?_
  refine aw_aload_n dX10_init_159 rfl ?_
  refine aw_aload_n dX10_init_160 rfl ?_
  refine aw_invIY (As := [_, _, _]) dX10_init_161 k10_77 rfl rfl (Nat.le_of_ble_eq_true rfl) ⟨⟨Nat.le_of_ble_eq_true rfl, Nat.le_of_ble_eq_true rfl⟩, ⟨Nat.le_of_ble_eq_true rfl, Nat.le_of_ble_eq_true rfl⟩⟩ (k_clues G (k := 6) (fun a ha => hZ11 a (by omega)) (fun a ha => hL a (by omega))) (c2 := 66) rfl (s2 := 1397) rfl (fun v h2 hq => ?_)
  obtain ⟨rfl, I12, rfl, f12, c9⟩ := hq
  have hZ12 : ∀ a, 65 ≤ a → I12 a = fun _ => 0 := fun a ha => by rw [f12 a (by omega)]; exact hZ11 a (by omega)
  refine aw_putRR (k1 := 6) (k2 := 7) dX10_init_164 f10_78 rfl ⟨Nat.le_of_ble_eq_true rfl, Nat.le_of_ble_eq_true rfl⟩ (Or.inr ⟨rfl, rfl⟩) rfl rfl rfl ?_
  refine aw_aload_n dX10_init_167 rfl ?_
  refine aw_newY (cl := 1) (o := 70) (N2 := 68) dX10_init_168 (by decide) cl10_82 (aw_inst (by decide)) (aw_init (c := 1) (by decide)) ⟨Nat.le_of_ble_eq_true rfl, Nat.le_of_ble_eq_true rfl⟩ rfl rfl rfl (hZ12 _ (by decide)) (hL _ (by decide)) (c2 := 67) rfl (s2 := 1404) rfl ?_
  refine aw_dup dX10_init_171 rfl ?_
  refine aw_aload_n dX10_init_172 rfl ?_
  refine aw_getR dX10_init_173 f10_43 rfl ⟨Nat.le_of_ble_eq_true rfl, Nat.le_of_ble_eq_true rfl⟩ rfl rfl ?_
  refine aw_aload_n dX10_init_176 rfl ?_
  refine aw_aload_n dX10_init_177 rfl ?_
  refine aw_invIY (As := [_, _, _]) dX10_init_178 k10_84 rfl rfl (Nat.le_of_ble_eq_true rfl) ⟨⟨Nat.le_of_ble_eq_true rfl, Nat.le_of_ble_eq_true rfl⟩, ⟨Nat.le_of_ble_eq_true rfl, Nat.le_of_ble_eq_true rfl⟩⟩ (k_chances G (k := 7) (fun a ha => hZ12 a (by omega)) (fun a ha => hL a (by omega))) (c2 := 68) rfl (s2 := 1412) rfl (fun v h2 hq => ?_)
  obtain ⟨rfl, I13, L13, rfl, f13, l13⟩ := hq
  have hZ13 : ∀ a, 71 ≤ a → I13 a = fun _ => 0 := fun a ha => by rw [f13 a (by omega)]; exact hZ12 a (by omega)
  have hL : ∀ a, 71 ≤ a → L13 a = fun _ => 0 := fun a ha => by rw [l13 a (by omega)]; exact hL a (by omega)
  refine aw_putRR (k1 := 7) (k2 := 8) dX10_init_181 f10_85 rfl ⟨Nat.le_of_ble_eq_true rfl, Nat.le_of_ble_eq_true rfl⟩ (Or.inr ⟨rfl, rfl⟩) rfl rfl rfl ?_
  refine aw_aload_n dX10_init_184 rfl ?_
  refine aw_iconst (v := 4) dX10_init_185 rfl ?_
  refine aw_newRY (o := 72) (N2 := 70) (n2 := 4) dX10_init_186 cl10_89 (by decide) (by decide) (by decide) ⟨Nat.le_of_ble_eq_true rfl, Nat.le_of_ble_eq_true rfl⟩ rfl rfl rfl (hZ13 _ (by decide)) (hL _ (by decide)) (c2 := 69) rfl (s2 := 1416) rfl ?_
  refine aw_putRS (k1 := 8) (k2 := 9) dX10_init_189 f10_91 rfl ⟨Nat.le_of_ble_eq_true rfl, Nat.le_of_ble_eq_true rfl⟩ (Or.inr ⟨rfl, rfl⟩) rfl rfl rfl (by decide) ?_
  refine aw_iconst (v := 0) dX10_init_192 rfl ?_
  refine aw_istore_n (ls2 := [_, _, _, _]) dX10_init_193 (by decide) rfl rfl ?_
  refine aw_iload_n dX10_init_194 rfl ?_
  refine aw_iconst (v := 4) dX10_init_195 rfl ?_
  refine aw_ic_ge (tgt := 218) dX10_init_196 (by decide) (fun z => absurd z (by decide)) (fun _ => ?_)
  refine aw_aload_n dX10_init_199 rfl ?_
  refine aw_getR dX10_init_200 f10_91 rfl ⟨Nat.le_of_ble_eq_true rfl, Nat.le_of_ble_eq_true rfl⟩ rfl rfl ?_
  refine aw_iload_n dX10_init_203 rfl ?_
  refine aw_newY (cl := 8) (o := 73) (N2 := 71) dX10_init_204 (by decide) cl10_89 (aw_inst (by decide)) (aw_init (c := 8) (by decide)) ⟨Nat.le_of_ble_eq_true rfl, Nat.le_of_ble_eq_true rfl⟩ rfl rfl rfl (hZ13 _ (by decide)) (hL _ (by decide)) (c2 := 70) rfl (s2 := 1420) rfl ?_
  refine aw_dup dX10_init_207 rfl ?_
  refine aw_invIY (As := []) dX10_init_208 k10_95 rfl rfl (Nat.le_of_ble_eq_true rfl) ⟨⟨Nat.le_of_ble_eq_true rfl, Nat.le_of_ble_eq_true rfl⟩, ⟨Nat.le_of_ble_eq_true rfl, Nat.le_of_ble_eq_true rfl⟩⟩ (k_sheet0 G (fun a ha => hZ13 a (by omega)) (fun a ha => hL a (by omega)) (fun j => by rw [va_up_nat (by decide)]; rfl) (by rw [va_up_nat (by decide)]; rfl)) (c2 := 71) rfl (s2 := 1480) rfl (fun v h2 hq => ?_)
  obtain ⟨rfl, I14, rfl, f14, w0a, w0b, w0c⟩ := hq
  have hZ14 : ∀ a, 74 ≤ a → I14 a = fun _ => 0 := fun a ha => by rw [f14 a (by omega)]; exact hZ13 a (by omega)
  refine aw_aastY dX10_init_211 rfl ⟨Nat.le_of_ble_eq_true rfl, Nat.le_of_ble_eq_true rfl⟩ (vp_in_nI (n := 0) (by decide) (by decide)) rfl ⟨Nat.le_of_ble_eq_true rfl, Nat.le_of_ble_eq_true rfl⟩ (jj := 0) (by decide) ?_
  refine aw_iinc_n (ls2 := [_, _, _, _]) dX10_init_212 rfl (by decide) rfl rfl ?_
  refine aw_goto (tgt := 194) dX10_init_215 (by decide) ?_
  refine aw_iload_n dX10_init_194 rfl ?_
  refine aw_iconst (v := 4) dX10_init_195 rfl ?_
  refine aw_ic_ge_n (a := 0 + 1) (b := 4) (tgt := 218) dX10_init_196 (by decide) (by omega) (by omega) (fun z => absurd z (by decide)) (fun c196 => ?_)
  refine aw_aload_n dX10_init_199 rfl ?_
  refine aw_getR dX10_init_200 f10_91 rfl ⟨Nat.le_of_ble_eq_true rfl, Nat.le_of_ble_eq_true rfl⟩ rfl rfl ?_
  refine aw_iload_n dX10_init_203 rfl ?_
  refine aw_newY (cl := 8) (o := 75) (N2 := 73) dX10_init_204 (by decide) cl10_89 (aw_inst (by decide)) (aw_init (c := 8) (by decide)) ⟨Nat.le_of_ble_eq_true rfl, Nat.le_of_ble_eq_true rfl⟩ rfl rfl rfl (hZ14 _ (by decide)) (hL _ (by decide)) (c2 := 72) rfl (s2 := 1484) rfl ?_
  refine aw_dup dX10_init_207 rfl ?_
  refine aw_invIY (As := []) dX10_init_208 k10_95 rfl rfl (Nat.le_of_ble_eq_true rfl) ⟨⟨Nat.le_of_ble_eq_true rfl, Nat.le_of_ble_eq_true rfl⟩, ⟨Nat.le_of_ble_eq_true rfl, Nat.le_of_ble_eq_true rfl⟩⟩ (k_sheet1 G (fun a ha => hZ14 a (by omega)) (fun a ha => hL a (by omega)) (fun j => by rw [va_up_nat (by decide)]; rfl) (by rw [va_up_nat (by decide)]; rfl)) (c2 := 73) rfl (s2 := 1544) rfl (fun v h2 hq => ?_)
  obtain ⟨rfl, I15, rfl, f15, w1a, w1b, w1c⟩ := hq
  have hZ15 : ∀ a, 76 ≤ a → I15 a = fun _ => 0 := fun a ha => by rw [f15 a (by omega)]; exact hZ14 a (by omega)
  refine aw_aastY dX10_init_211 rfl ⟨Nat.le_of_ble_eq_true rfl, Nat.le_of_ble_eq_true rfl⟩ (vp_in_nI (n := 1) (by decide) (by decide)) rfl ⟨Nat.le_of_ble_eq_true rfl, Nat.le_of_ble_eq_true rfl⟩ (jj := 1) (by decide) ?_
  refine aw_iinc_n (ls2 := [_, _, _, _]) dX10_init_212 rfl (by decide) rfl rfl ?_
  refine aw_goto (tgt := 194) dX10_init_215 (by decide) ?_
  refine aw_iload_n dX10_init_194 rfl ?_
  refine aw_iconst (v := 4) dX10_init_195 rfl ?_
  refine aw_ic_ge_n (a := 0 + 1 + 1) (b := 4) (tgt := 218) dX10_init_196 (by decide) (by omega) (by omega) (fun z => absurd z (by decide)) (fun c196 => ?_)
  refine aw_aload_n dX10_init_199 rfl ?_
  refine aw_getR dX10_init_200 f10_91 rfl ⟨Nat.le_of_ble_eq_true rfl, Nat.le_of_ble_eq_true rfl⟩ rfl rfl ?_
  refine aw_iload_n dX10_init_203 rfl ?_
  refine aw_newY (cl := 8) (o := 77) (N2 := 75) dX10_init_204 (by decide) cl10_89 (aw_inst (by decide)) (aw_init (c := 8) (by decide)) ⟨Nat.le_of_ble_eq_true rfl, Nat.le_of_ble_eq_true rfl⟩ rfl rfl rfl (hZ15 _ (by decide)) (hL _ (by decide)) (c2 := 74) rfl (s2 := 1548) rfl ?_
  refine aw_dup dX10_init_207 rfl ?_
  refine aw_invIY (As := []) dX10_init_208 k10_95 rfl rfl (Nat.le_of_ble_eq_true rfl) ⟨⟨Nat.le_of_ble_eq_true rfl, Nat.le_of_ble_eq_true rfl⟩, ⟨Nat.le_of_ble_eq_true rfl, Nat.le_of_ble_eq_true rfl⟩⟩ (k_sheet2 G (fun a ha => hZ15 a (by omega)) (fun a ha => hL a (by omega)) (fun j => by rw [va_up_nat (by decide)]; rfl) (by rw [va_up_nat (by decide)]; rfl)) (c2 := 75) rfl (s2 := 1608) rfl (fun v h2 hq => ?_)
  obtain ⟨rfl, I16, rfl, f16, w2a, w2b, w2c⟩ := hq
  have hZ16 : ∀ a, 78 ≤ a → I16 a = fun _ => 0 := fun a ha => by rw [f16 a (by omega)]; exact hZ15 a (by omega)
  refine aw_aastY dX10_init_211 rfl ⟨Nat.le_of_ble_eq_true rfl, Nat.le_of_ble_eq_true rfl⟩ (vp_in_nI (n := 2) (by decide) (by decide)) rfl ⟨Nat.le_of_ble_eq_true rfl, Nat.le_of_ble_eq_true rfl⟩ (jj := 2) (by decide) ?_
  refine aw_iinc_n (ls2 := [_, _, _, _]) dX10_init_212 rfl (by decide) rfl rfl ?_
  refine aw_goto (tgt := 194) dX10_init_215 (by decide) ?_
  refine aw_iload_n dX10_init_194 rfl ?_
  refine aw_iconst (v := 4) dX10_init_195 rfl ?_
  refine aw_ic_ge_n (a := 0 + 1 + 1 + 1) (b := 4) (tgt := 218) dX10_init_196 (by decide) (by omega) (by omega) (fun z => absurd z (by decide)) (fun c196 => ?_)
  refine aw_aload_n dX10_init_199 rfl ?_
  refine aw_getR dX10_init_200 f10_91 rfl ⟨Nat.le_of_ble_eq_true rfl, Nat.le_of_ble_eq_true rfl⟩ rfl rfl ?_
  refine aw_iload_n dX10_init_203 rfl ?_
  refine aw_newY (cl := 8) (o := 79) (N2 := 77) dX10_init_204 (by decide) cl10_89 (aw_inst (by decide)) (aw_init (c := 8) (by decide)) ⟨Nat.le_of_ble_eq_true rfl, Nat.le_of_ble_eq_true rfl⟩ rfl rfl rfl (hZ16 _ (by decide)) (hL _ (by decide)) (c2 := 76) rfl (s2 := 1612) rfl ?_
  refine aw_dup dX10_init_207 rfl ?_
  refine aw_invIY (As := []) dX10_init_208 k10_95 rfl rfl (Nat.le_of_ble_eq_true rfl) ⟨⟨Nat.le_of_ble_eq_true rfl, Nat.le_of_ble_eq_true rfl⟩, ⟨Nat.le_of_ble_eq_true rfl, Nat.le_of_ble_eq_true rfl⟩⟩ (k_sheet3 G (fun a ha => hZ16 a (by omega)) (fun a ha => hL a (by omega)) (fun j => by rw [va_up_nat (by decide)]; rfl) (by rw [va_up_nat (by decide)]; rfl)) (c2 := 77) rfl (s2 := 1672) rfl (fun v h2 hq => ?_)
  obtain ⟨rfl, I17, rfl, f17, w3a, w3b, w3c⟩ := hq
  have hZ17 : ∀ a, 80 ≤ a → I17 a = fun _ => 0 := fun a ha => by rw [f17 a (by omega)]; exact hZ16 a (by omega)
  refine aw_aastY dX10_init_211 rfl ⟨Nat.le_of_ble_eq_true rfl, Nat.le_of_ble_eq_true rfl⟩ (vp_in_nI (n := 3) (by decide) (by decide)) rfl ⟨Nat.le_of_ble_eq_true rfl, Nat.le_of_ble_eq_true rfl⟩ (jj := 3) (by decide) ?_
  refine aw_iinc_n (ls2 := [_, _, _, _]) dX10_init_212 rfl (by decide) rfl rfl ?_
  refine aw_goto (tgt := 194) dX10_init_215 (by decide) ?_
  refine aw_iload_n dX10_init_194 rfl ?_
  refine aw_iconst (v := 4) dX10_init_195 rfl ?_
  refine aw_ic_ge_n (a := 0 + 1 + 1 + 1 + 1) (b := 4) (tgt := 218) dX10_init_196 (by decide) (by omega) (by omega) (fun c196 => ?_) (fun z => absurd z (by decide))
  refine aw_aload_n dX10_init_218 rfl ?_
  refine aw_iconst (v := 0) dX10_init_219 rfl ?_
  refine aw_putI dX10_init_220 f10_96 rfl ⟨Nat.le_of_ble_eq_true rfl, Nat.le_of_ble_eq_true rfl⟩ (Or.inl rfl) rfl ?_
  refine aw_ret0 dX10_init_223 rfl ⟨Nat.le_of_ble_eq_true rfl, Nat.le_of_ble_eq_true rfl⟩ ?_
  have e9 : yR 9 = zR 12 := yR_9
  rw [yR_full (k := 9) (o := 72) (fun j => by
    match j with
    | 0 => rfl
    | 1 => rfl
    | 2 => rfl
    | 3 => rfl
    | j + 4 => rfl), e9]
  have e17 : ∀ a, a < 73 → a ≠ 70 → a ≠ 64 → a ≠ 59 → a ≠ 60 → a ≠ 44 → a ≠ 53 → a ≠ 37 → I17 a = I8 a := fun a h1 h2 h3 h4 h5 h6 h7 h8 => by rw [f17 a (by omega), f16 a (by omega), f15 a (by omega), f14 a (by omega), f13 a h2, f12 a h3, f11 a h4 h5, f10 a h6 h7, f9 a h8]
  have e17a : ∀ a, a < 73 → a ≠ 70 → a ≠ 64 → I17 a = I11 a := fun a h1 h2 h3 => by rw [f17 a (by omega), f16 a (by omega), f15 a (by omega), f14 a (by omega), f13 a h2, f12 a h3]
  have lo : ∀ a, a < 22 → a ≠ 3 → aw_u I17 3 9 (0 : Int32) a = I7 a := fun a h1 h2 => by rw [aw_u_ne h2, e17 a (by omega) (by omega) (by omega) (by omega) (by omega) (by omega) (by omega) (by omega), e8 a h1]
  have lo5 : ∀ a, a < 13 → a ≠ 3 → aw_u I17 3 9 (0 : Int32) a = I5 a := fun a h1 h2 => by rw [lo a (by omega) h2, e7 a h1]
  refine ⟨rfl, _, _, rfl, ⟨hTX5.mv (lo5 1 (by decide) (by decide)) (lo5 5 (by decide) (by decide)) (lo5 4 (by decide) (by decide)), hTC5.mv (lo5 2 (by decide) (by decide)) (lo5 7 (by decide) (by decide)) (lo5 6 (by decide) (by decide)), ⟨hS7.mv3 (lo 11 (by decide) (by decide)) (fun i hi => lo _ (by omega) (by omega)), z0_tok, fun k _ => (show 0 < 40 by decide), hA7.mv3 (lo 8 (by decide) (by decide)) (lo 9 (by decide) (by decide)) (lo 10 (by decide) (by decide)), z0_uok, fun j hj => by rw [lo 13 (by decide) (by decide), lo 14 (by decide) (by decide), lo 15 (by decide) (by decide)]; exact hX7 j hj, hGo⟩, ⟨s1, s1_ok, hR8.mv2 (fun i hi => by rw [aw_u_ne (by omega)]; exact e17 _ (by omega) (by omega) (by omega) (by omega) (by omega) (by omega) (by omega) (by omega))⟩, ⟨z0, s1, ?_, z0_tok, fun k hk => absurd hk (Nat.not_lt_zero _), hR10.mv2 (fun i hi => by rw [aw_u_ne (by omega), e17a _ (by omega) (by omega) (by omega)]; exact f11 _ (by omega) (by omega)), s1_ok, zFt.rfl _⟩, ⟨?_, by decide, fun i hi => ?_⟩, fun s hs => ?_, aw_u_eq⟩, fun o ho => ?_, fun o ho => ?_⟩
  · have g37 : ∀ a, 37 ≤ a → a < 44 → aw_u I17 3 9 (0 : Int32) a = I9 a := fun a h1 h2 => by rw [aw_u_ne (by omega), e17a a (by omega) (by omega) (by omega), f11 a (by omega) (by omega), f10 a (by omega) (by omega)]
    exact z0_set (by rw [g37 37 (by decide) (by decide)]; exact z8) (by rw [g37 37 (by decide) (by decide)]; exact z9) (fun i hi => by rw [g37 _ (by omega) (by omega)]; exact hZ9 _ (by omega))
  · rw [aw_u_ne (by decide), f17 64 (by decide), f16 64 (by decide), f15 64 (by decide), f14 64 (by decide), f13 64 (by decide)]; exact c9
  · have g64 : ∀ a, 65 ≤ a → a < 70 → aw_u I17 3 9 (0 : Int32) a = fun _ => 0 := fun a h1 h2 => by rw [aw_u_ne (by omega), e17a a (by omega) (by omega) (by omega)]; exact hZ11 a (by omega)
    rw [g64 65 (by decide) (by decide), g64 66 (by decide) (by decide), g64 67 (by decide) (by decide)]
    exact ⟨⟨rfl, rfl, (show (0 : Int32) = nI 1 - 1 by decide)⟩, (show 0 < 40 by decide), (show 0 < 8 by decide), (show 1 ≤ 8 by decide)⟩
  · refine ⟨Nat.zero_le _, Nat.zero_le _, ?_, fun z => absurd rfl z⟩
    rw [if_pos (show bz s = 0 from rfl), aw_u_ne (by omega)]
    have h' : s = 0 ∨ s = 1 ∨ s = 2 ∨ s = 3 := by omega
    rcases h' with rfl | rfl | rfl | rfl
    · rw [f17 _ (by decide), f16 _ (by decide), f15 _ (by decide)]; exact w0c
    · rw [f17 _ (by decide), f16 _ (by decide)]; exact w1c
    · rw [f17 _ (by decide)]; exact w2c
    · exact w3c
  · rw [aw_u_ne (by omega)]; exact hZ17 o (by omega)
  · exact hL o (by omega)
theorem m1_E {i j : Nat} (hi : i < 9) : mE i j (m1 i j) = 0 := by
  by_cases h : i = 6
  · subst h
    by_cases hj : j % 2 = 1
    · unfold mE m1; rw [if_pos (by omega), hj]; rfl
    · unfold mE m1; rw [if_neg (by omega), show j % 2 = 0 by omega]; rfl
  · match i, hi, h with
    | 0, _, _ => rfl
    | 1, _, _ => show nI 1 - 1 = (0 : Int32); decide
    | 2, _, _ => rfl
    | 3, _, _ => show nI 1 - 1 = (0 : Int32); decide
    | 4, _, _ => rfl
    | 5, _, _ => show nI 1 - 1 = (0 : Int32); decide
    | 6, _, h => exact absurd rfl h
    | 7, _, _ => rfl
    | 8, _, _ => rfl
    | i + 9, h, _ => omega
set_option maxHeartbeats 40000000 in
theorem k_model (G : aw_G) {n : Nat} {I : Nat → Nat → Int32} {L : Nat → Nat → Int64} (hZ : ∀ a, 81 ≤ a → I a = fun _ => 0) (hL : ∀ a, 81 ≤ a → L a = fun _ => 0) : aw_Met G mX11_init [.ref 81] (zS n, I, L, va_up (zR 12) 81 (fun _ => none), 79) (fun v h2 => v = none ∧ ∃ I2, h2 = zH n I2 L 12 ∧ zMI bz bz 0 0 z0 z0 g1 bz bz ez 0 I2 ∧ (∀ o, o < 81 → I2 o = I o)) := by
  refine aw_Met.of okX11_init (Nat.le_of_ble_eq_true rfl) ?_
  show aw_W G mX11_init 0 [.ref 81, aw_x] [] (zS n, I, L, va_up (zR 12) 81 (fun _ => none), 79) (0, 0) _
  refine aw_aload_n dX11_init_0 rfl ?_
  refine aw_obj dX11_init_1 ob11_1 ob_i ob_c ⟨Nat.le_of_ble_eq_true rfl, Nat.le_of_ble_eq_true rfl⟩ ?_
  refine aw_aload_n dX11_init_4 rfl ?_
  refine aw_iconst (v := 4) dX11_init_5 rfl ?_
  refine aw_newIY (o := 82) (N2 := 80) (n2 := 4) dX11_init_6 aw_arrI (by decide) (by decide) (by decide) ⟨Nat.le_of_ble_eq_true rfl, Nat.le_of_ble_eq_true rfl⟩ rfl rfl rfl (hZ _ (by decide)) (hL _ (by decide)) ((va_up_nat (by decide)).trans rfl) (c2 := 1) rfl (s2 := 4) rfl ?_
  refine aw_putRY dX11_init_8 f11_7 rfl ⟨Nat.le_of_ble_eq_true rfl, Nat.le_of_ble_eq_true rfl⟩ (Or.inr ⟨rfl, rfl⟩) rfl ?_
  refine aw_aload_n dX11_init_11 rfl ?_
  refine aw_iconst (v := 4) dX11_init_12 rfl ?_
  refine aw_newIY (o := 83) (N2 := 81) (n2 := 4) dX11_init_13 aw_arrI (by decide) (by decide) (by decide) ⟨Nat.le_of_ble_eq_true rfl, Nat.le_of_ble_eq_true rfl⟩ rfl rfl rfl (hZ _ (by decide)) (hL _ (by decide)) ((va_up_nat (by decide)).trans rfl) (c2 := 2) rfl (s2 := 8) rfl ?_
  refine aw_putRY dX11_init_15 f11_13 rfl ⟨Nat.le_of_ble_eq_true rfl, Nat.le_of_ble_eq_true rfl⟩ (Or.inr ⟨rfl, rfl⟩) rfl ?_
  refine aw_aload_n dX11_init_18 rfl ?_
  refine aw_sipush (v := 240) dX11_init_19 (by decide) ?_
  refine aw_newIY (o := 84) (N2 := 82) (n2 := 240) dX11_init_22 aw_arrI (by decide) (by decide) (by decide) ⟨Nat.le_of_ble_eq_true rfl, Nat.le_of_ble_eq_true rfl⟩ rfl rfl rfl (hZ _ (by decide)) (hL _ (by decide)) ((va_up_nat (by decide)).trans rfl) (c2 := 3) rfl (s2 := 248) rfl ?_
  refine aw_putRY dX11_init_24 f11_16 rfl ⟨Nat.le_of_ble_eq_true rfl, Nat.le_of_ble_eq_true rfl⟩ (Or.inr ⟨rfl, rfl⟩) rfl ?_
  refine aw_aload_n dX11_init_27 rfl ?_
  refine aw_bipush (v := 60) dX11_init_28 (by decide) ?_
  refine aw_newIY (o := 85) (N2 := 83) (n2 := 60) dX11_init_30 aw_arrI (by decide) (by decide) (by decide) ⟨Nat.le_of_ble_eq_true rfl, Nat.le_of_ble_eq_true rfl⟩ rfl rfl rfl (hZ _ (by decide)) (hL _ (by decide)) ((va_up_nat (by decide)).trans rfl) (c2 := 4) rfl (s2 := 308) rfl ?_
  refine aw_putRY dX11_init_32 f11_19 rfl ⟨Nat.le_of_ble_eq_true rfl, Nat.le_of_ble_eq_true rfl⟩ (Or.inr ⟨rfl, rfl⟩) rfl ?_
  refine aw_aload_n dX11_init_35 rfl ?_
  refine aw_bipush (v := 112) dX11_init_36 (by decide) ?_
  refine aw_newIY (o := 86) (N2 := 84) (n2 := 112) dX11_init_38 aw_arrI (by decide) (by decide) (by decide) ⟨Nat.le_of_ble_eq_true rfl, Nat.le_of_ble_eq_true rfl⟩ rfl rfl rfl (hZ _ (by decide)) (hL _ (by decide)) ((va_up_nat (by decide)).trans rfl) (c2 := 5) rfl (s2 := 420) rfl ?_
  refine aw_putRY dX11_init_40 f11_22 rfl ⟨Nat.le_of_ble_eq_true rfl, Nat.le_of_ble_eq_true rfl⟩ (Or.inr ⟨rfl, rfl⟩) rfl ?_
  refine aw_aload_n dX11_init_43 rfl ?_
  refine aw_iconst (v := 2) dX11_init_44 rfl ?_
  refine aw_newIY (o := 87) (N2 := 85) (n2 := 2) dX11_init_45 aw_arrI (by decide) (by decide) (by decide) ⟨Nat.le_of_ble_eq_true rfl, Nat.le_of_ble_eq_true rfl⟩ rfl rfl rfl (hZ _ (by decide)) (hL _ (by decide)) ((va_up_nat (by decide)).trans rfl) (c2 := 6) rfl (s2 := 422) rfl ?_
  refine aw_putRY dX11_init_47 f11_25 rfl ⟨Nat.le_of_ble_eq_true rfl, Nat.le_of_ble_eq_true rfl⟩ (Or.inr ⟨rfl, rfl⟩) rfl ?_
  refine aw_aload_n dX11_init_50 rfl ?_
  refine aw_bipush (v := 40) dX11_init_51 (by decide) ?_
  refine aw_newIY (o := 88) (N2 := 86) (n2 := 40) dX11_init_53 aw_arrI (by decide) (by decide) (by decide) ⟨Nat.le_of_ble_eq_true rfl, Nat.le_of_ble_eq_true rfl⟩ rfl rfl rfl (hZ _ (by decide)) (hL _ (by decide)) ((va_up_nat (by decide)).trans rfl) (c2 := 7) rfl (s2 := 462) rfl ?_
  refine aw_putRY dX11_init_55 f11_28 rfl ⟨Nat.le_of_ble_eq_true rfl, Nat.le_of_ble_eq_true rfl⟩ (Or.inr ⟨rfl, rfl⟩) rfl ?_
  refine aw_aload_n dX11_init_58 rfl ?_
  refine aw_bipush (v := 40) dX11_init_59 (by decide) ?_
  refine aw_newIY (o := 89) (N2 := 87) (n2 := 40) dX11_init_61 aw_arrI (by decide) (by decide) (by decide) ⟨Nat.le_of_ble_eq_true rfl, Nat.le_of_ble_eq_true rfl⟩ rfl rfl rfl (hZ _ (by decide)) (hL _ (by decide)) ((va_up_nat (by decide)).trans rfl) (c2 := 8) rfl (s2 := 502) rfl ?_
  refine aw_putRY dX11_init_63 f11_31 rfl ⟨Nat.le_of_ble_eq_true rfl, Nat.le_of_ble_eq_true rfl⟩ (Or.inr ⟨rfl, rfl⟩) rfl ?_
  refine aw_aload_n dX11_init_66 rfl ?_
  refine aw_bipush (v := 8) dX11_init_67 (by decide) ?_
  refine aw_newIY (o := 90) (N2 := 88) (n2 := 8) dX11_init_69 aw_arrI (by decide) (by decide) (by decide) ⟨Nat.le_of_ble_eq_true rfl, Nat.le_of_ble_eq_true rfl⟩ rfl rfl rfl (hZ _ (by decide)) (hL _ (by decide)) ((va_up_nat (by decide)).trans rfl) (c2 := 9) rfl (s2 := 510) rfl ?_
  refine aw_putRY dX11_init_71 f11_34 rfl ⟨Nat.le_of_ble_eq_true rfl, Nat.le_of_ble_eq_true rfl⟩ (Or.inr ⟨rfl, rfl⟩) rfl ?_
  refine aw_aload_n dX11_init_74 rfl ?_
  refine aw_bipush (v := 16) dX11_init_75 (by decide) ?_
  refine aw_newIY (o := 91) (N2 := 89) (n2 := 16) dX11_init_77 aw_arrI (by decide) (by decide) (by decide) ⟨Nat.le_of_ble_eq_true rfl, Nat.le_of_ble_eq_true rfl⟩ rfl rfl rfl (hZ _ (by decide)) (hL _ (by decide)) ((va_up_nat (by decide)).trans rfl) (c2 := 10) rfl (s2 := 526) rfl ?_
  refine aw_putRY dX11_init_79 f11_37 rfl ⟨Nat.le_of_ble_eq_true rfl, Nat.le_of_ble_eq_true rfl⟩ (Or.inr ⟨rfl, rfl⟩) rfl ?_
  refine aw_aload_n dX11_init_82 rfl ?_
  refine aw_bipush (v := 64) dX11_init_83 (by decide) ?_
  refine aw_newIY (o := 92) (N2 := 90) (n2 := 64) dX11_init_85 aw_arrI (by decide) (by decide) (by decide) ⟨Nat.le_of_ble_eq_true rfl, Nat.le_of_ble_eq_true rfl⟩ rfl rfl rfl (hZ _ (by decide)) (hL _ (by decide)) ((va_up_nat (by decide)).trans rfl) (c2 := 11) rfl (s2 := 590) rfl ?_
  refine aw_putRY dX11_init_87 f11_40 rfl ⟨Nat.le_of_ble_eq_true rfl, Nat.le_of_ble_eq_true rfl⟩ (Or.inr ⟨rfl, rfl⟩) rfl ?_
  refine aw_aload_n dX11_init_90 rfl ?_
  refine aw_bipush (v := 64) dX11_init_91 (by decide) ?_
  refine aw_newIY (o := 93) (N2 := 91) (n2 := 64) dX11_init_93 aw_arrI (by decide) (by decide) (by decide) ⟨Nat.le_of_ble_eq_true rfl, Nat.le_of_ble_eq_true rfl⟩ rfl rfl rfl (hZ _ (by decide)) (hL _ (by decide)) ((va_up_nat (by decide)).trans rfl) (c2 := 12) rfl (s2 := 654) rfl ?_
  refine aw_putRY dX11_init_95 f11_43 rfl ⟨Nat.le_of_ble_eq_true rfl, Nat.le_of_ble_eq_true rfl⟩ (Or.inr ⟨rfl, rfl⟩) rfl ?_
  refine aw_aload_n dX11_init_98 rfl ?_
  refine aw_bipush (v := 8) dX11_init_99 (by decide) ?_
  refine aw_newIY (o := 94) (N2 := 92) (n2 := 8) dX11_init_101 aw_arrI (by decide) (by decide) (by decide) ⟨Nat.le_of_ble_eq_true rfl, Nat.le_of_ble_eq_true rfl⟩ rfl rfl rfl (hZ _ (by decide)) (hL _ (by decide)) ((va_up_nat (by decide)).trans rfl) (c2 := 13) rfl (s2 := 662) rfl ?_
  refine aw_putRY dX11_init_103 f11_46 rfl ⟨Nat.le_of_ble_eq_true rfl, Nat.le_of_ble_eq_true rfl⟩ (Or.inr ⟨rfl, rfl⟩) rfl ?_
  refine aw_aload_n dX11_init_106 rfl ?_
  refine aw_bipush (v := 8) dX11_init_107 (by decide) ?_
  refine aw_newIY (o := 95) (N2 := 93) (n2 := 8) dX11_init_109 aw_arrI (by decide) (by decide) (by decide) ⟨Nat.le_of_ble_eq_true rfl, Nat.le_of_ble_eq_true rfl⟩ rfl rfl rfl (hZ _ (by decide)) (hL _ (by decide)) ((va_up_nat (by decide)).trans rfl) (c2 := 14) rfl (s2 := 670) rfl ?_
  refine aw_putRY dX11_init_111 f11_49 rfl ⟨Nat.le_of_ble_eq_true rfl, Nat.le_of_ble_eq_true rfl⟩ (Or.inr ⟨rfl, rfl⟩) rfl ?_
  refine aw_aload_n dX11_init_114 rfl ?_
  refine aw_bipush (v := 8) dX11_init_115 (by decide) ?_
  refine aw_newIY (o := 96) (N2 := 94) (n2 := 8) dX11_init_117 aw_arrI (by decide) (by decide) (by decide) ⟨Nat.le_of_ble_eq_true rfl, Nat.le_of_ble_eq_true rfl⟩ rfl rfl rfl (hZ _ (by decide)) (hL _ (by decide)) ((va_up_nat (by decide)).trans rfl) (c2 := 15) rfl (s2 := 678) rfl ?_
  refine aw_putRY dX11_init_119 f11_52 rfl ⟨Nat.le_of_ble_eq_true rfl, Nat.le_of_ble_eq_true rfl⟩ (Or.inr ⟨rfl, rfl⟩) rfl ?_
  refine aw_aload_n dX11_init_122 rfl ?_
  refine aw_bipush (v := 8) dX11_init_123 (by decide) ?_
  refine aw_newIY (o := 97) (N2 := 95) (n2 := 8) dX11_init_125 aw_arrI (by decide) (by decide) (by decide) ⟨Nat.le_of_ble_eq_true rfl, Nat.le_of_ble_eq_true rfl⟩ rfl rfl rfl (hZ _ (by decide)) (hL _ (by decide)) ((va_up_nat (by decide)).trans rfl) (c2 := 16) rfl (s2 := 686) rfl ?_
  refine aw_putRY dX11_init_127 f11_55 rfl ⟨Nat.le_of_ble_eq_true rfl, Nat.le_of_ble_eq_true rfl⟩ (Or.inr ⟨rfl, rfl⟩) rfl ?_
  refine aw_aload_n dX11_init_130 rfl ?_
  refine aw_bipush (v := 8) dX11_init_131 (by decide) ?_
  refine aw_newIY (o := 98) (N2 := 96) (n2 := 8) dX11_init_133 aw_arrI (by decide) (by decide) (by decide) ⟨Nat.le_of_ble_eq_true rfl, Nat.le_of_ble_eq_true rfl⟩ rfl rfl rfl (hZ _ (by decide)) (hL _ (by decide)) ((va_up_nat (by decide)).trans rfl) (c2 := 17) rfl (s2 := 694) rfl ?_
  refine aw_putRY dX11_init_135 f11_58 rfl ⟨Nat.le_of_ble_eq_true rfl, Nat.le_of_ble_eq_true rfl⟩ (Or.inr ⟨rfl, rfl⟩) rfl ?_
  refine aw_aload_n dX11_init_138 rfl ?_
  refine aw_bipush (v := 8) dX11_init_139 (by decide) ?_
  refine aw_newIY (o := 99) (N2 := 97) (n2 := 8) dX11_init_141 aw_arrI (by decide) (by decide) (by decide) ⟨Nat.le_of_ble_eq_true rfl, Nat.le_of_ble_eq_true rfl⟩ rfl rfl rfl (hZ _ (by decide)) (hL _ (by decide)) ((va_up_nat (by decide)).trans rfl) (c2 := 18) rfl (s2 := 702) rfl ?_
  refine aw_putRY dX11_init_143 f11_61 rfl ⟨Nat.le_of_ble_eq_true rfl, Nat.le_of_ble_eq_true rfl⟩ (Or.inr ⟨rfl, rfl⟩) rfl ?_
  refine aw_aload_n dX11_init_146 rfl ?_
  refine aw_sipush (v := 1280) dX11_init_147 (by decide) ?_
  refine aw_newIY (o := 100) (N2 := 98) (n2 := 1280) dX11_init_150 aw_arrI (by decide) (by decide) (by decide) ⟨Nat.le_of_ble_eq_true rfl, Nat.le_of_ble_eq_true rfl⟩ rfl rfl rfl (hZ _ (by decide)) (hL _ (by decide)) ((va_up_nat (by decide)).trans rfl) (c2 := 19) rfl (s2 := 1982) rfl ?_
  refine aw_putRY dX11_init_152 f11_64 rfl ⟨Nat.le_of_ble_eq_true rfl, Nat.le_of_ble_eq_true rfl⟩ (Or.inr ⟨rfl, rfl⟩) rfl ?_
  refine aw_aload_n dX11_init_155 rfl ?_
  refine aw_bipush (v := 8) dX11_init_156 (by decide) ?_
  refine aw_newIY (o := 101) (N2 := 99) (n2 := 8) dX11_init_158 aw_arrI (by decide) (by decide) (by decide) ⟨Nat.le_of_ble_eq_true rfl, Nat.le_of_ble_eq_true rfl⟩ rfl rfl rfl (hZ _ (by decide)) (hL _ (by decide)) ((va_up_nat (by decide)).trans rfl) (c2 := 20) rfl (s2 := 1990) rfl ?_
  refine aw_putRY dX11_init_160 f11_67 rfl ⟨Nat.le_of_ble_eq_true rfl, Nat.le_of_ble_eq_true rfl⟩ (Or.inr ⟨rfl, rfl⟩) rfl ?_
  refine aw_aload_n dX11_init_163 rfl ?_
  refine aw_bipush (v := 8) dX11_init_164 (by decide) ?_
  refine aw_newIY (o := 102) (N2 := 100) (n2 := 8) dX11_init_166 aw_arrI (by decide) (by decide) (by decide) ⟨Nat.le_of_ble_eq_true rfl, Nat.le_of_ble_eq_true rfl⟩ rfl rfl rfl (hZ _ (by decide)) (hL _ (by decide)) ((va_up_nat (by decide)).trans rfl) (c2 := 21) rfl (s2 := 1998) rfl ?_
  refine aw_putRY dX11_init_168 f11_70 rfl ⟨Nat.le_of_ble_eq_true rfl, Nat.le_of_ble_eq_true rfl⟩ (Or.inr ⟨rfl, rfl⟩) rfl ?_
  refine aw_aload_n dX11_init_171 rfl ?_
  refine aw_bipush (v := 24) dX11_init_172 (by decide) ?_
  refine aw_newIY (o := 103) (N2 := 101) (n2 := 24) dX11_init_174 aw_arrI (by decide) (by decide) (by decide) ⟨Nat.le_of_ble_eq_true rfl, Nat.le_of_ble_eq_true rfl⟩ rfl rfl rfl (hZ _ (by decide)) (hL _ (by decide)) ((va_up_nat (by decide)).trans rfl) (c2 := 22) rfl (s2 := 2022) rfl ?_
  refine aw_putRY dX11_init_176 f11_73 rfl ⟨Nat.le_of_ble_eq_true rfl, Nat.le_of_ble_eq_true rfl⟩ (Or.inr ⟨rfl, rfl⟩) rfl ?_
  refine aw_aload_n dX11_init_179 rfl ?_
  refine aw_bipush (v := 120) dX11_init_180 (by decide) ?_
  refine aw_newIY (o := 104) (N2 := 102) (n2 := 120) dX11_init_182 aw_arrI (by decide) (by decide) (by decide) ⟨Nat.le_of_ble_eq_true rfl, Nat.le_of_ble_eq_true rfl⟩ rfl rfl rfl (hZ _ (by decide)) (hL _ (by decide)) ((va_up_nat (by decide)).trans rfl) (c2 := 23) rfl (s2 := 2142) rfl ?_
  refine aw_putRY dX11_init_184 f11_76 rfl ⟨Nat.le_of_ble_eq_true rfl, Nat.le_of_ble_eq_true rfl⟩ (Or.inr ⟨rfl, rfl⟩) rfl ?_
  refine aw_iconst (v := 0) dX11_init_187 rfl ?_
  refine aw_istore_n (ls2 := [_, _]) dX11_init_188 (by decide) rfl rfl ?_
  refine aw_iload_n dX11_init_189 rfl ?_
  refine aw_iconst (v := 4) dX11_init_190 rfl ?_
  refine aw_ic_ge (tgt := 207) dX11_init_191 (by decide) (fun z => absurd z (by decide)) (fun _ => ?_)
  refine aw_aload_n dX11_init_194 rfl ?_
  refine aw_getR dX11_init_195 f11_7 rfl ⟨Nat.le_of_ble_eq_true rfl, Nat.le_of_ble_eq_true rfl⟩ rfl rfl ?_
  refine aw_iload_n dX11_init_198 rfl ?_
  refine aw_iconst (v := -1) dX11_init_199 rfl ?_
  refine aw_iast_n (j := 0) dX11_init_200 rfl ⟨Nat.le_of_ble_eq_true rfl, Nat.le_of_ble_eq_true rfl⟩ (by decide) (by omega) ?_
  refine aw_iinc_n (ls2 := [_, _]) dX11_init_201 rfl (by decide) rfl rfl ?_
  refine aw_goto (tgt := 189) dX11_init_204 (by decide) ?_
  refine aw_iload_n dX11_init_189 rfl ?_
  refine aw_iconst (v := 4) dX11_init_190 rfl ?_
  refine aw_ic_ge_n (a := 0 + 1) (b := 4) (tgt := 207) dX11_init_191 (by decide) (by omega) (by omega) (fun z => absurd z (by decide)) (fun c191 => ?_)
  refine aw_aload_n dX11_init_194 rfl ?_
  refine aw_getR dX11_init_195 f11_7 rfl ⟨Nat.le_of_ble_eq_true rfl, Nat.le_of_ble_eq_true rfl⟩ rfl rfl ?_
  refine aw_iload_n dX11_init_198 rfl ?_
  refine aw_iconst (v := -1) dX11_init_199 rfl ?_
  refine aw_iast_n (j := 0 + 1) dX11_init_200 rfl ⟨Nat.le_of_ble_eq_true rfl, Nat.le_of_ble_eq_true rfl⟩ (by decide) (by omega) ?_
  refine aw_iinc_n (ls2 := [_, _]) dX11_init_201 rfl (by decide) rfl rfl ?_
  refine aw_goto (tgt := 189) dX11_init_204 (by decide) ?_
  refine aw_iload_n dX11_init_189 rfl ?_
  refine aw_iconst (v := 4) dX11_init_190 rfl ?_
  refine aw_ic_ge_n (a := 0 + 1 + 1) (b := 4) (tgt := 207) dX11_init_191 (by decide) (by omega) (by omega) (fun z => absurd z (by decide)) (fun c191 => ?_)
  refine aw_aload_n dX11_init_194 rfl ?_
  refine aw_getR dX11_init_195 f11_7 rfl ⟨Nat.le_of_ble_eq_true rfl, Nat.le_of_ble_eq_true rfl⟩ rfl rfl ?_
  refine aw_iload_n dX11_init_198 rfl ?_
  refine aw_iconst (v := -1) dX11_init_199 rfl ?_
  refine aw_iast_n (j := 0 + 1 + 1) dX11_init_200 rfl ⟨Nat.le_of_ble_eq_true rfl, Nat.le_of_ble_eq_true rfl⟩ (by decide) (by omega) ?_
  refine aw_iinc_n (ls2 := [_, _]) dX11_init_201 rfl (by decide) rfl rfl ?_
  refine aw_goto (tgt := 189) dX11_init_204 (by decide) ?_
  refine aw_iload_n dX11_init_189 rfl ?_
  refine aw_iconst (v := 4) dX11_init_190 rfl ?_
  refine aw_ic_ge_n (a := 0 + 1 + 1 + 1) (b := 4) (tgt := 207) dX11_init_191 (by decide) (by omega) (by omega) (fun z => absurd z (by decide)) (fun c191 => ?_)
  refine aw_aload_n dX11_init_194 rfl ?_
  refine aw_getR dX11_init_195 f11_7 rfl ⟨Nat.le_of_ble_eq_true rfl, Nat.le_of_ble_eq_true rfl⟩ rfl rfl ?_
  refine aw_iload_n dX11_init_198 rfl ?_
  refine aw_iconst (v := -1) dX11_init_199 rfl ?_
  refine aw_iast_n (j := 0 + 1 + 1 + 1) dX11_init_200 rfl ⟨Nat.le_of_ble_eq_true rfl, Nat.le_of_ble_eq_true rfl⟩ (by decide) (by omega) ?_
  refine aw_iinc_n (ls2 := [_, _]) dX11_init_201 rfl (by decide) rfl rfl ?_
  refine aw_goto (tgt := 189) dX11_init_204 (by decide) ?_
  refine aw_iload_n dX11_init_189 rfl ?_
  refine aw_iconst (v := 4) dX11_init_190 rfl ?_
  refine aw_ic_ge_n (a := 0 + 1 + 1 + 1 + 1) (b := 4) (tgt := 207) dX11_init_191 (by decide) (by omega) (by omega) (fun c191 => ?_) (fun z => absurd z (by decide))
  refine aw_ret0 dX11_init_207 rfl ⟨Nat.le_of_ble_eq_true rfl, Nat.le_of_ble_eq_true rfl⟩ ?_
  rw [va_up_id (f := zR 12) (i := 81) (funext (fun j => by
    match j with
    | 0 => rfl
    | 1 => rfl
    | 2 => rfl
    | 3 => rfl
    | 4 => rfl
    | 5 => rfl
    | 6 => rfl
    | 7 => rfl
    | 8 => rfl
    | 9 => rfl
    | 10 => rfl
    | 11 => rfl
    | 12 => rfl
    | 13 => rfl
    | 14 => rfl
    | 15 => rfl
    | 16 => rfl
    | 17 => rfl
    | 18 => rfl
    | 19 => rfl
    | 20 => rfl
    | 21 => rfl
    | 22 => rfl
    | 23 => rfl
    | 24 => rfl
    | 25 => rfl
    | 26 => rfl
    | 27 => rfl
    | 28 => rfl
    | 29 => rfl
    | 30 => rfl
    | j + 31 => rfl))]
  have lo : ∀ a, a ≠ 82 → aw_u (aw_u (aw_u (aw_u I 82 0 (-1 : Int32)) 82 (0 + 1) (-1)) 82 (0 + 1 + 1) (-1)) 82 (0 + 1 + 1 + 1) (-1) a = I a := fun a ha => by rw [aw_u_ne ha, aw_u_ne ha, aw_u_ne ha, aw_u_ne ha]
  have lz : ∀ a, 81 ≤ a → a ≠ 82 → aw_u (aw_u (aw_u (aw_u I 82 0 (-1 : Int32)) 82 (0 + 1) (-1)) 82 (0 + 1 + 1) (-1)) 82 (0 + 1 + 1 + 1) (-1) a = fun _ => 0 := fun a h1 h2 => by rw [lo a h2]; exact hZ a h1
  refine ⟨rfl, _, rfl, ⟨⟨⟨fun j hj => ?_, fun j hj => ?_, ?_, ?_, by decide, by decide⟩, fun k hk => ?_, ⟨?_, fun a ha => ?_⟩, ?_, ⟨?_, by decide, fun i hi => ?_⟩, m1, ⟨fun i j hi hj => ?_, ⟨?_, ?_⟩, fun _ _ _ => rfl, fun _ _ _ => rfl⟩, ?_⟩, fun s hs => ⟨?_, fun z => absurd rfl z⟩, ?_⟩, fun o ho => lo o (by omega)⟩
  · rw [lz 86 (by decide) (by decide)]; exact ⟨rfl, (show 0 < 256 by decide)⟩
  · rw [lz 86 (by decide) (by decide)]; exact ⟨rfl, (show 0 < 256 by decide)⟩
  · rw [lz 87 (by decide) (by decide)]; rfl
  · rw [lz 87 (by decide) (by decide)]; rfl
  · rw [lz 90 (by decide) (by decide)]; rfl
  · rw [lz 81 (by decide) (by decide)]; rfl
  · rw [lz 91 (by decide) (by decide)]; exact ⟨rfl, rfl⟩
  · rw [lz 81 (by decide) (by decide)]; rfl
  · rw [lz 81 (by decide) (by decide)]; rfl
  · rw [lz 103 (by decide) (by decide)]; exact ⟨rfl, rfl, rfl, (show 0 < 40 by decide), (show 0 < 8 by decide), (show 1 ≤ 8 by decide)⟩
  · rw [lz (94 + i) (by omega) (by omega)]; exact (m1_E hi).symm
  · rw [lz 81 (by decide) (by decide)]; rfl
  · rw [lz 81 (by decide) (by decide)]; rfl
  · exact ⟨fun p _ => by show m1 8 p ≤ 100; exact Nat.le_trans (Nat.le_of_eq (if_neg (by omega))) (by decide), fun j _ => by show m1 0 j ≤ 5; exact Nat.le_trans (Nat.le_of_eq (if_neg (by omega))) (by decide)⟩
  · have h' : s = 0 ∨ s = 1 ∨ s = 2 ∨ s = 3 := by omega
    rcases h' with rfl | rfl | rfl | rfl
    · rw [aw_u_nj (by decide), aw_u_nj (by decide), aw_u_nj (by decide), aw_u_eq]; rfl
    · rw [aw_u_nj (by decide), aw_u_nj (by decide), aw_u_eq]; rfl
    · rw [aw_u_nj (by decide), aw_u_eq]; rfl
    · rw [aw_u_eq]; rfl
  · rw [lz 81 (by decide) (by decide)]
