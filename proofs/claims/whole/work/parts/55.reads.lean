/-! THE REFERENCE reads its texts -/
/-- signs and their number: b0, l0 the ways', b1, l1 the carters' -/
def zBm (b0 b1 : Nat → Nat) (l0 l1 : Nat) (I : Nat → Nat → Int32) : Prop := (∀ j, j < 49 → I 86 j = nI (b0 j) ∧ b0 j < 256) ∧ (∀ j, j < 55 → I 86 (56 + j) = nI (b1 j) ∧ b1 j < 256) ∧ I 87 0 = nI l0 ∧ I 87 1 = nI l1 ∧ l0 ≤ 49 ∧ l1 ≤ 55
theorem zBm.mv {b0 b1 : Nat → Nat} {l0 l1 : Nat} {I I2 : Nat → Nat → Int32} (h : zBm b0 b1 l0 l1 I) (h1 : I2 86 = I 86) (h2 : I2 87 = I 87) : zBm b0 b1 l0 l1 I2 := by
  unfold zBm at *; rw [h1, h2]; exact h
/-- row o and field f have changed, nothing else -/
def zFr1 (o f : Nat) (I0 I : Nat → Nat → Int32) : Prop := (∀ a, a ≠ o → a ≠ 81 → I a = I0 a) ∧ ∀ j, j ≠ f → I 81 j = I0 81 j
theorem zFr1.r {o f j : Nat} {I0 I : Nat → Nat → Int32} {x : Int32} (h : zFr1 o f I0 I) (ho : o ≠ 81) : zFr1 o f I0 (aw_u I o j x) :=
  ⟨fun a h1 h2 => by rw [aw_u_ne h1]; exact h.1 a h1 h2, fun b hb => by rw [aw_u_ne (Ne.symm ho)]; exact h.2 b hb⟩
theorem zFr1.f {o f : Nat} {I0 I : Nat → Nat → Int32} {x : Int32} (h : zFr1 o f I0 I) : zFr1 o f I0 (aw_u I 81 f x) :=
  ⟨fun a h1 h2 => by rw [aw_u_ne h2]; exact h.1 a h1 h2, fun b hb => by rw [aw_u_nj hb]; exact h.2 b hb⟩
def zWy (V : Nat → Nat → Nat) (k : Nat) (I : Nat → Nat → Int32) : Prop := I 81 7 = nI k ∧ ∀ w j, w < k → j < 4 → I 88 (4 * w + j) = nI (V w j)
/-- the carter's numbers of the reference: 0 .. 4 -/
def t_c (b : Nat → Nat) (k j : Nat) : Nat := if j < 3 then v_c b k j else if j = 3 then 10 * v_c b k 3 + v_c b k 4 else v_c b k 5
def zCy (V : Nat → Nat → Nat) (k : Nat) (I : Nat → Nat → Int32) : Prop := I 81 9 = nI k ∧ ∀ w j, w < k → j < 5 → I 89 (5 * w + j) = nI (V w j)
theorem w_readsWays (G : aw_G) {n c : Nat} {I : Nat → Nat → Int32} {L : Nat → Nat → Int64} {b0 b1 : Nat → Nat} {l0 l1 : Nat} (hB : zBm b0 b1 l0 l1 I) : aw_Met G mX11_readsWays [.ref 81] (zH n I L c) (fun v h2 => v = some (.int (nI (q_f (q_w b0) 5 l0) - 1)) ∧ ∃ I2, h2 = zH n I2 L c ∧ zWy (v_w b0) (q_k (q_w b0) 5 l0) I2 ∧ zFr1 88 7 I I2) := by
  have hl0 := hB.2.2.2.2.1
  refine aw_Met.of okX11_readsWays (Nat.le_of_ble_eq_true rfl) ?_
  show aw_W G mX11_readsWays 0 [.ref 81, aw_x, aw_x, aw_x, aw_x, aw_x] [] (zH n I L c) (0, 0) _
  refine aw_aload_n dX11_readsWays_0 rfl ?_
  refine aw_iconst (v := 0) dX11_readsWays_1 rfl ?_
  refine aw_putI dX11_readsWays_2 f11_127 rfl ⟨Nat.le_of_ble_eq_true rfl, Nat.le_of_ble_eq_true rfl⟩ (Or.inl rfl) rfl ?_
  refine aw_aload_n dX11_readsWays_5 rfl ?_
  refine aw_getR dX11_readsWays_6 f11_25 rfl ⟨Nat.le_of_ble_eq_true rfl, Nat.le_of_ble_eq_true rfl⟩ rfl rfl ?_
  refine aw_iconst (v := 0) dX11_readsWays_9 rfl ?_
  refine aw_iald_n (j := 0) dX11_readsWays_10 rfl (Nat.le_of_ble_eq_true rfl) (by decide) (by omega) ?_
  refine aw_top ((congrFun (aw_u_ne (show 87 ≠ 81 by decide)) 0).trans hB.2.2.1) ?_
  refine aw_istore_n (ls2 := [_, _, _, _, _, _]) dX11_readsWays_11 (by decide) rfl rfl ?_
  refine aw_iconst (v := 0) dX11_readsWays_12 rfl ?_
  refine aw_istore_n (ls2 := [_, _, _, _, _, _]) dX11_readsWays_13 (by decide) rfl rfl ?_
  obtain ⟨I1, hI1⟩ : ∃ I1, I1 = aw_u I 81 7 0 := ⟨_, rfl⟩
  rw [← hI1]
  obtain ⟨I0, hI0⟩ : ∃ I0, I0 = I := ⟨_, rfl⟩
  rw [← hI0] at hB ⊢
  refine aw_up (X := fun i => ∀ I, (∀ j, j < i → j % 5 < 4 → I 88 (4 * (j / 5) + j % 5) = nI (s_w b0 j)) ∧ I 81 7 = nI ((i + 1) / 5) ∧ zFr1 88 7 I0 I ∧ q_b (q_w b0) i = 0 → aw_W G mX11_readsWays 14 [.ref 81, .int (nI l0), .int (nI i), aw_x, aw_x, aw_x] [] (zH n I L c) (0, 0) _) (Nat.zero_le l0) (fun I hh => ?_) (fun i _ hi ih I hh => ?_) I1 ⟨fun j hj => absurd hj (by omega), by rw [hI1, aw_u_eq]; rfl, by rw [hI1, hI0]; exact zFr1.f ⟨fun _ _ _ => rfl, fun _ _ => rfl⟩, rfl⟩
  · obtain ⟨hv, hk, hF, hg⟩ := hh
    refine aw_iload_n dX11_readsWays_14 rfl ?_
    refine aw_iload_n dX11_readsWays_15 rfl ?_
    refine aw_ic_ge_n (a := l0) (b := l0) (tgt := 113) dX11_readsWays_16 (by decide) (by omega) (by omega) (fun c16 => ?_) (fun z => absurd z (by omega))
    refine aw_iload_n dX11_readsWays_113 rfl ?_
    refine aw_if_le_n (a := l0) (tgt := 131) dX11_readsWays_114 (by decide) (by omega) (fun c114 => ?_) (fun c114 => ?_)
    · refine aw_iconst (v := -1) dX11_readsWays_131 rfl ?_
      refine aw_reti dX11_readsWays_132 rfl rfl ⟨Nat.le_of_ble_eq_true rfl, Nat.le_of_ble_eq_true rfl⟩ ?_
      refine ⟨?_, _, rfl, ⟨?_, fun w j hw hj => ?_⟩, hF⟩
      · rw [q_f, hg, if_neg (by decide), if_pos (by omega)]; rfl
      · rw [hk, q_k, hg, if_neg (by decide)]
        by_cases hl : l0 % 5 = 5 - 1
        · rw [if_pos hl]; congr 1; omega
        · rw [if_neg hl]; congr 1; omega
      · have h1 := q_k_lt (j := j) hw (by omega)
        have h2 := hv (w * 5 + j) h1 (by omega)
        rw [show 4 * ((w * 5 + j) / 5) + (w * 5 + j) % 5 = 4 * w + j by omega, s_w_v hj] at h2
        exact h2
    · refine aw_iload_n dX11_readsWays_117 rfl ?_
      refine aw_iconst (v := 5) dX11_readsWays_118 rfl ?_
      refine aw_irem_n (a := l0) (b := 5) dX11_readsWays_119 (by omega) (by omega) (by omega) ?_
      refine aw_iconst (v := 4) dX11_readsWays_120 rfl ?_
      refine aw_ic_eq_n (a := l0 % 5) (b := 4) (tgt := 131) dX11_readsWays_121 (by decide) (by omega) (by omega) (fun c121 => ?_) (fun c121 => ?_)
      · refine aw_iconst (v := -1) dX11_readsWays_131 rfl ?_
        refine aw_reti dX11_readsWays_132 rfl rfl ⟨Nat.le_of_ble_eq_true rfl, Nat.le_of_ble_eq_true rfl⟩ ?_
        refine ⟨?_, _, rfl, ⟨?_, fun w j hw hj => ?_⟩, hF⟩
        · rw [q_f, hg, if_neg (by decide), if_pos (by omega)]; rfl
        · rw [hk, q_k, hg, if_neg (by decide)]
          by_cases hl : l0 % 5 = 5 - 1
          · rw [if_pos hl]; congr 1; omega
          · rw [if_neg hl]; congr 1; omega
        · have h1 := q_k_lt (j := j) hw (by omega)
          have h2 := hv (w * 5 + j) h1 (by omega)
          rw [show 4 * ((w * 5 + j) / 5) + (w * 5 + j) % 5 = 4 * w + j by omega, s_w_v hj] at h2
          exact h2
      · refine aw_aload_n dX11_readsWays_124 rfl ?_
        refine aw_iconst (v := 0) dX11_readsWays_125 rfl ?_
        refine aw_putI dX11_readsWays_126 f11_127 rfl ⟨Nat.le_of_ble_eq_true rfl, Nat.le_of_ble_eq_true rfl⟩ (Or.inl rfl) rfl ?_
        refine aw_iload_n dX11_readsWays_129 rfl ?_
        refine aw_reti dX11_readsWays_130 rfl rfl ⟨Nat.le_of_ble_eq_true rfl, Nat.le_of_ble_eq_true rfl⟩ ?_
        refine ⟨?_, _, rfl, ⟨?_, fun w j hw => ?_⟩, hF.f⟩
        · rw [q_f, hg, if_neg (by decide), if_neg (by omega), nI_pred]
        · rw [aw_u_eq, q_k, hg, if_neg (by decide), if_neg (by omega)]; rfl
        · rw [q_k, hg, if_neg (by decide), if_neg (by omega)] at hw; omega
  · obtain ⟨hv, hk, hF, hg⟩ := hh
    have hb := (hB.1 i (by omega)).2
    have hcs : i % 5 = 0 ∨ i % 5 = 1 ∨ i % 5 = 2 ∨ i % 5 = 3 ∨ i % 5 = 4 := by omega
    rcases hcs with hc | hc | hc | hc | hc
    · cases hq : q_w b0 i with
      | true =>
        have hsb : s_w b0 i < 100000 := by
          unfold s_w; repeat' split
          all_goals omega
        have hk2 : (aw_u I 88 (4 * (i / 5) + 0) (nI (s_w b0 i))) 81 7 = nI ((i + 1) / 5) := by rw [aw_u_ne (by decide)]; exact hk
        refine aw_iload_n dX11_readsWays_14 rfl ?_
        refine aw_iload_n dX11_readsWays_15 rfl ?_
        refine aw_ic_ge_n (a := i) (b := l0) (tgt := 113) dX11_readsWays_16 (by decide) (by omega) (by omega) (fun z => absurd z (by omega)) (fun c16 => ?_)
        refine aw_iload_n dX11_readsWays_19 rfl ?_
        refine aw_iconst (v := 5) dX11_readsWays_20 rfl ?_
        refine aw_irem_n (a := i) (b := 5) dX11_readsWays_21 (by omega) (by omega) (by omega) ?_
        refine aw_top (show nI (i % 5) = 0 by rw [hc]; rfl) ?_
        refine aw_istore_n (ls2 := [_, _, _, _, _, _]) dX11_readsWays_22 (by decide) rfl rfl ?_
        refine aw_iconst (v := 4) dX11_readsWays_23 rfl ?_
        refine aw_iload_n dX11_readsWays_24 rfl ?_
        refine aw_iconst (v := 5) dX11_readsWays_25 rfl ?_
        refine aw_idiv_n (a := i) (b := 5) dX11_readsWays_26 (by omega) (by omega) (by omega) ?_
        refine aw_imul_n (a := 4) (b := i / 5) dX11_readsWays_27 ?_
        refine aw_istore (ls2 := [_, _, _, _, _, _]) dX11_readsWays_28 (by decide) rfl rfl ?_
        refine aw_iload_n dX11_readsWays_30 rfl ?_
        refine aw_aload_n dX11_readsWays_31 rfl ?_
        refine aw_getR dX11_readsWays_32 f11_22 rfl ⟨Nat.le_of_ble_eq_true rfl, Nat.le_of_ble_eq_true rfl⟩ rfl rfl ?_
        refine aw_iload_n dX11_readsWays_35 rfl ?_
        refine aw_iald_n (j := i) dX11_readsWays_36 rfl (Nat.le_of_ble_eq_true rfl) (by decide) (by omega) ?_
        refine aw_top ((congrFun (hF.1 86 (by decide) (by decide)) i).trans (hB.1 i (by omega)).1) ?_
        refine aw_iload_n dX11_readsWays_37 rfl ?_
        refine aw_iconst (v := 1) dX11_readsWays_38 rfl ?_
        refine aw_ic_ne (tgt := 52) dX11_readsWays_39 (by decide) (fun _ => ?_) (fun z => absurd z (by decide))
        refine aw_iconst (v := -1) dX11_readsWays_52 rfl ?_
        refine aw_S0c (As := [_, _, _]) dX11_readsWays_53 k11_130 rfl rfl (Nat.le_of_ble_eq_true rfl) ⟨⟨Nat.le_of_ble_eq_true rfl, Nat.le_of_ble_eq_true rfl⟩, ⟨Nat.le_of_ble_eq_true rfl, Nat.le_of_ble_eq_true rfl⟩⟩ ⟨rfl, rfl⟩ (w_wayOf0Y G hb hc hq) (fun v h2 hq => ?_)
        obtain ⟨rfl, rfl⟩ := hq
        refine aw_istore (ls2 := [_, _, _, _, _, _]) dX11_readsWays_56 (by decide) rfl rfl ?_
        refine aw_iload dX11_readsWays_58 rfl ?_
        refine aw_bipush (v := -9) dX11_readsWays_60 (by decide) ?_
        refine aw_ic_ne (tgt := 72) dX11_readsWays_62 (by decide) (fun c62 => ?_) (fun z => absurd z (zm9 hsb))
        refine aw_iload_n dX11_readsWays_72 rfl ?_
        refine aw_iconst (v := 4) dX11_readsWays_73 rfl ?_
        refine aw_ic_ge (tgt := 88) dX11_readsWays_74 (by decide) (fun z => absurd z (by decide)) (fun _ => ?_)
        refine aw_aload_n dX11_readsWays_77 rfl ?_
        refine aw_getR dX11_readsWays_78 f11_28 rfl ⟨Nat.le_of_ble_eq_true rfl, Nat.le_of_ble_eq_true rfl⟩ rfl rfl ?_
        refine aw_iload dX11_readsWays_81 rfl ?_
        refine aw_iload_n dX11_readsWays_83 rfl ?_
        refine aw_iadd_n (a := 4 * (i / 5)) (b := 0) dX11_readsWays_84 ?_
        refine aw_iload dX11_readsWays_85 rfl ?_
        refine aw_iast_n (j := (4 * (i / 5)) + 0) dX11_readsWays_87 rfl ⟨Nat.le_of_ble_eq_true rfl, Nat.le_of_ble_eq_true rfl⟩ (by decide) (by omega) ?_
        refine aw_aload_n dX11_readsWays_88 rfl ?_
        refine aw_dup dX11_readsWays_89 rfl ?_
        refine aw_getI dX11_readsWays_90 f11_127 rfl ⟨Nat.le_of_ble_eq_true rfl, Nat.le_of_ble_eq_true rfl⟩ rfl ?_
        refine aw_top hk2 ?_
        refine aw_iload_n dX11_readsWays_93 rfl ?_
        refine aw_iconst (v := 3) dX11_readsWays_94 rfl ?_
        refine aw_ic_ne (tgt := 102) dX11_readsWays_95 (by decide) (fun _ => ?_) (fun z => absurd z (by decide))
        refine aw_iconst (v := 0) dX11_readsWays_102 rfl ?_
        refine aw_iadd_n (a := (i + 1) / 5) (b := 0) dX11_readsWays_103 ?_
        refine aw_putI dX11_readsWays_104 f11_127 rfl ⟨Nat.le_of_ble_eq_true rfl, Nat.le_of_ble_eq_true rfl⟩ (Or.inl rfl) rfl ?_
        refine aw_iinc_n (ls2 := [_, _, _, _, _, _]) dX11_readsWays_107 rfl (by decide) rfl rfl ?_
        refine aw_goto (tgt := 14) dX11_readsWays_110 (by decide) ?_
        refine aw_kill (j := 3) (ls2 := [_, _, _, aw_x, _, _]) rfl (aw_kill (j := 4) (ls2 := [_, _, _, _, aw_x, _]) rfl (aw_kill (j := 5) (ls2 := [_, _, _, _, _, aw_x]) rfl (ih _ ⟨fun j hj hj5 => ?_, ?_, ?_, ?_⟩)))
        · rw [aw_u_ne (by decide)]
          by_cases hji : j = i
          · subst hji; rw [hc, aw_u_eq]
          · rw [aw_u_nj (by omega)]; exact hv j (by omega) hj5
        · rw [aw_u_eq, show (i + 1 + 1) / 5 = (i + 1) / 5 + 0 by omega]
        · exact (hF.r (by decide)).f
        · rw [q_b_S hg, if_pos hq]
      | false =>
        refine aw_iload_n dX11_readsWays_14 rfl ?_
        refine aw_iload_n dX11_readsWays_15 rfl ?_
        refine aw_ic_ge_n (a := i) (b := l0) (tgt := 113) dX11_readsWays_16 (by decide) (by omega) (by omega) (fun z => absurd z (by omega)) (fun c16 => ?_)
        refine aw_iload_n dX11_readsWays_19 rfl ?_
        refine aw_iconst (v := 5) dX11_readsWays_20 rfl ?_
        refine aw_irem_n (a := i) (b := 5) dX11_readsWays_21 (by omega) (by omega) (by omega) ?_
        refine aw_top (show nI (i % 5) = 0 by rw [hc]; rfl) ?_
        refine aw_istore_n (ls2 := [_, _, _, _, _, _]) dX11_readsWays_22 (by decide) rfl rfl ?_
        refine aw_iconst (v := 4) dX11_readsWays_23 rfl ?_
        refine aw_iload_n dX11_readsWays_24 rfl ?_
        refine aw_iconst (v := 5) dX11_readsWays_25 rfl ?_
        refine aw_idiv_n (a := i) (b := 5) dX11_readsWays_26 (by omega) (by omega) (by omega) ?_
        refine aw_imul_n (a := 4) (b := i / 5) dX11_readsWays_27 ?_
        refine aw_istore (ls2 := [_, _, _, _, _, _]) dX11_readsWays_28 (by decide) rfl rfl ?_
        refine aw_iload_n dX11_readsWays_30 rfl ?_
        refine aw_aload_n dX11_readsWays_31 rfl ?_
        refine aw_getR dX11_readsWays_32 f11_22 rfl ⟨Nat.le_of_ble_eq_true rfl, Nat.le_of_ble_eq_true rfl⟩ rfl rfl ?_
        refine aw_iload_n dX11_readsWays_35 rfl ?_
        refine aw_iald_n (j := i) dX11_readsWays_36 rfl (Nat.le_of_ble_eq_true rfl) (by decide) (by omega) ?_
        refine aw_top ((congrFun (hF.1 86 (by decide) (by decide)) i).trans (hB.1 i (by omega)).1) ?_
        refine aw_iload_n dX11_readsWays_37 rfl ?_
        refine aw_iconst (v := 1) dX11_readsWays_38 rfl ?_
        refine aw_ic_ne (tgt := 52) dX11_readsWays_39 (by decide) (fun _ => ?_) (fun z => absurd z (by decide))
        refine aw_iconst (v := -1) dX11_readsWays_52 rfl ?_
        refine aw_S0c (As := [_, _, _]) dX11_readsWays_53 k11_130 rfl rfl (Nat.le_of_ble_eq_true rfl) ⟨⟨Nat.le_of_ble_eq_true rfl, Nat.le_of_ble_eq_true rfl⟩, ⟨Nat.le_of_ble_eq_true rfl, Nat.le_of_ble_eq_true rfl⟩⟩ ⟨rfl, rfl⟩ (w_wayOf0N G hb hc hq) (fun v h2 hq => ?_)
        obtain ⟨rfl, rfl⟩ := hq
        refine aw_istore (ls2 := [_, _, _, _, _, _]) dX11_readsWays_56 (by decide) rfl rfl ?_
        refine aw_iload dX11_readsWays_58 rfl ?_
        refine aw_bipush (v := -9) dX11_readsWays_60 (by decide) ?_
        refine aw_ic_ne (tgt := 72) dX11_readsWays_62 (by decide) (fun z => absurd (by decide) z) (fun _ => ?_)
        refine aw_aload_n dX11_readsWays_65 rfl ?_
        refine aw_iconst (v := 0) dX11_readsWays_66 rfl ?_
        refine aw_putI dX11_readsWays_67 f11_127 rfl ⟨Nat.le_of_ble_eq_true rfl, Nat.le_of_ble_eq_true rfl⟩ (Or.inl rfl) rfl ?_
        refine aw_iload_n dX11_readsWays_70 rfl ?_
        refine aw_reti dX11_readsWays_71 rfl rfl ⟨Nat.le_of_ble_eq_true rfl, Nat.le_of_ble_eq_true rfl⟩ ?_
        have e : q_b (q_w b0) (i + 1) = i + 1 := by rw [q_b_S hg, if_neg (by rw [hq]; decide)]
        have e2 : q_b (q_w b0) l0 = i + 1 := by
          have := q_b_stop (q := q_w b0) (i := i + 1) (by rw [e]; omega) (l0 - (i + 1))
          rw [show i + 1 + (l0 - (i + 1)) = l0 by omega, e] at this
          exact this
        refine ⟨?_, _, rfl, ⟨?_, fun w j hw => ?_⟩, hF.f⟩
        · rw [q_f, e2, if_pos (by omega), nI_pred]
        · rw [aw_u_eq, q_k, e2, if_pos (by omega)]; rfl
        · rw [q_k, e2, if_pos (by omega)] at hw; omega
    · cases hq : q_w b0 i with
      | true =>
        have hsb : s_w b0 i < 100000 := by
          unfold s_w; repeat' split
          all_goals omega
        have hk2 : (aw_u I 88 (4 * (i / 5) + 1) (nI (s_w b0 i))) 81 7 = nI ((i + 1) / 5) := by rw [aw_u_ne (by decide)]; exact hk
        have h0 : q_w b0 (i - 1) = true := q_b_all hg (i - 1) (by omega)
        have hpp : q_pl (b0 (i - 1)) := by
          unfold q_w at h0; rw [if_pos (by omega)] at h0; exact of_decide_eq_true h0
        have h88 : I 88 (4 * (i / 5)) = nI (b0 (i - 1) - 97) := by
          have := hv (i - 1) (by omega) (by omega)
          rw [show 4 * ((i - 1) / 5) + (i - 1) % 5 = 4 * (i / 5) by omega] at this
          rw [this]; unfold s_w; rw [if_pos (by omega)]
        refine aw_iload_n dX11_readsWays_14 rfl ?_
        refine aw_iload_n dX11_readsWays_15 rfl ?_
        refine aw_ic_ge_n (a := i) (b := l0) (tgt := 113) dX11_readsWays_16 (by decide) (by omega) (by omega) (fun z => absurd z (by omega)) (fun c16 => ?_)
        refine aw_iload_n dX11_readsWays_19 rfl ?_
        refine aw_iconst (v := 5) dX11_readsWays_20 rfl ?_
        refine aw_irem_n (a := i) (b := 5) dX11_readsWays_21 (by omega) (by omega) (by omega) ?_
        refine aw_top (show nI (i % 5) = 1 by rw [hc]; rfl) ?_
        refine aw_istore_n (ls2 := [_, _, _, _, _, _]) dX11_readsWays_22 (by decide) rfl rfl ?_
        refine aw_iconst (v := 4) dX11_readsWays_23 rfl ?_
        refine aw_iload_n dX11_readsWays_24 rfl ?_
        refine aw_iconst (v := 5) dX11_readsWays_25 rfl ?_
        refine aw_idiv_n (a := i) (b := 5) dX11_readsWays_26 (by omega) (by omega) (by omega) ?_
        refine aw_imul_n (a := 4) (b := i / 5) dX11_readsWays_27 ?_
        refine aw_istore (ls2 := [_, _, _, _, _, _]) dX11_readsWays_28 (by decide) rfl rfl ?_
        refine aw_iload_n dX11_readsWays_30 rfl ?_
        refine aw_aload_n dX11_readsWays_31 rfl ?_
        refine aw_getR dX11_readsWays_32 f11_22 rfl ⟨Nat.le_of_ble_eq_true rfl, Nat.le_of_ble_eq_true rfl⟩ rfl rfl ?_
        refine aw_iload_n dX11_readsWays_35 rfl ?_
        refine aw_iald_n (j := i) dX11_readsWays_36 rfl (Nat.le_of_ble_eq_true rfl) (by decide) (by omega) ?_
        refine aw_top ((congrFun (hF.1 86 (by decide) (by decide)) i).trans (hB.1 i (by omega)).1) ?_
        refine aw_iload_n dX11_readsWays_37 rfl ?_
        refine aw_iconst (v := 1) dX11_readsWays_38 rfl ?_
        refine aw_ic_ne (tgt := 52) dX11_readsWays_39 (by decide) (fun z => absurd (by decide) z) (fun _ => ?_)
        refine aw_aload_n dX11_readsWays_42 rfl ?_
        refine aw_getR dX11_readsWays_43 f11_28 rfl ⟨Nat.le_of_ble_eq_true rfl, Nat.le_of_ble_eq_true rfl⟩ rfl rfl ?_
        refine aw_iload dX11_readsWays_46 rfl ?_
        refine aw_iald_n (j := 4 * (i / 5)) dX11_readsWays_48 rfl (Nat.le_of_ble_eq_true rfl) (by decide) (by omega) ?_
        refine aw_top h88 ?_
        refine aw_goto (tgt := 53) dX11_readsWays_49 (by decide) ?_
        refine aw_S0c (As := [_, _, _]) dX11_readsWays_53 k11_130 rfl rfl (Nat.le_of_ble_eq_true rfl) ⟨⟨Nat.le_of_ble_eq_true rfl, Nat.le_of_ble_eq_true rfl⟩, ⟨Nat.le_of_ble_eq_true rfl, Nat.le_of_ble_eq_true rfl⟩⟩ ⟨rfl, rfl⟩ (w_wayOf1Y G hb hc hq hpp) (fun v h2 hq => ?_)
        obtain ⟨rfl, rfl⟩ := hq
        refine aw_istore (ls2 := [_, _, _, _, _, _]) dX11_readsWays_56 (by decide) rfl rfl ?_
        refine aw_iload dX11_readsWays_58 rfl ?_
        refine aw_bipush (v := -9) dX11_readsWays_60 (by decide) ?_
        refine aw_ic_ne (tgt := 72) dX11_readsWays_62 (by decide) (fun c62 => ?_) (fun z => absurd z (zm9 hsb))
        refine aw_iload_n dX11_readsWays_72 rfl ?_
        refine aw_iconst (v := 4) dX11_readsWays_73 rfl ?_
        refine aw_ic_ge (tgt := 88) dX11_readsWays_74 (by decide) (fun z => absurd z (by decide)) (fun _ => ?_)
        refine aw_aload_n dX11_readsWays_77 rfl ?_
        refine aw_getR dX11_readsWays_78 f11_28 rfl ⟨Nat.le_of_ble_eq_true rfl, Nat.le_of_ble_eq_true rfl⟩ rfl rfl ?_
        refine aw_iload dX11_readsWays_81 rfl ?_
        refine aw_iload_n dX11_readsWays_83 rfl ?_
        refine aw_iadd_n (a := 4 * (i / 5)) (b := 1) dX11_readsWays_84 ?_
        refine aw_iload dX11_readsWays_85 rfl ?_
        refine aw_iast_n (j := (4 * (i / 5)) + 1) dX11_readsWays_87 rfl ⟨Nat.le_of_ble_eq_true rfl, Nat.le_of_ble_eq_true rfl⟩ (by decide) (by omega) ?_
        refine aw_aload_n dX11_readsWays_88 rfl ?_
        refine aw_dup dX11_readsWays_89 rfl ?_
        refine aw_getI dX11_readsWays_90 f11_127 rfl ⟨Nat.le_of_ble_eq_true rfl, Nat.le_of_ble_eq_true rfl⟩ rfl ?_
        refine aw_top hk2 ?_
        refine aw_iload_n dX11_readsWays_93 rfl ?_
        refine aw_iconst (v := 3) dX11_readsWays_94 rfl ?_
        refine aw_ic_ne (tgt := 102) dX11_readsWays_95 (by decide) (fun _ => ?_) (fun z => absurd z (by decide))
        refine aw_iconst (v := 0) dX11_readsWays_102 rfl ?_
        refine aw_iadd_n (a := (i + 1) / 5) (b := 0) dX11_readsWays_103 ?_
        refine aw_putI dX11_readsWays_104 f11_127 rfl ⟨Nat.le_of_ble_eq_true rfl, Nat.le_of_ble_eq_true rfl⟩ (Or.inl rfl) rfl ?_
        refine aw_iinc_n (ls2 := [_, _, _, _, _, _]) dX11_readsWays_107 rfl (by decide) rfl rfl ?_
        refine aw_goto (tgt := 14) dX11_readsWays_110 (by decide) ?_
        refine aw_kill (j := 3) (ls2 := [_, _, _, aw_x, _, _]) rfl (aw_kill (j := 4) (ls2 := [_, _, _, _, aw_x, _]) rfl (aw_kill (j := 5) (ls2 := [_, _, _, _, _, aw_x]) rfl (ih _ ⟨fun j hj hj5 => ?_, ?_, ?_, ?_⟩)))
        · rw [aw_u_ne (by decide)]
          by_cases hji : j = i
          · subst hji; rw [hc, aw_u_eq]
          · rw [aw_u_nj (by omega)]; exact hv j (by omega) hj5
        · rw [aw_u_eq, show (i + 1 + 1) / 5 = (i + 1) / 5 + 0 by omega]
        · exact (hF.r (by decide)).f
        · rw [q_b_S hg, if_pos hq]
      | false =>
        have h0 : q_w b0 (i - 1) = true := q_b_all hg (i - 1) (by omega)
        have hpp : q_pl (b0 (i - 1)) := by
          unfold q_w at h0; rw [if_pos (by omega)] at h0; exact of_decide_eq_true h0
        have h88 : I 88 (4 * (i / 5)) = nI (b0 (i - 1) - 97) := by
          have := hv (i - 1) (by omega) (by omega)
          rw [show 4 * ((i - 1) / 5) + (i - 1) % 5 = 4 * (i / 5) by omega] at this
          rw [this]; unfold s_w; rw [if_pos (by omega)]
        refine aw_iload_n dX11_readsWays_14 rfl ?_
        refine aw_iload_n dX11_readsWays_15 rfl ?_
        refine aw_ic_ge_n (a := i) (b := l0) (tgt := 113) dX11_readsWays_16 (by decide) (by omega) (by omega) (fun z => absurd z (by omega)) (fun c16 => ?_)
        refine aw_iload_n dX11_readsWays_19 rfl ?_
        refine aw_iconst (v := 5) dX11_readsWays_20 rfl ?_
        refine aw_irem_n (a := i) (b := 5) dX11_readsWays_21 (by omega) (by omega) (by omega) ?_
        refine aw_top (show nI (i % 5) = 1 by rw [hc]; rfl) ?_
        refine aw_istore_n (ls2 := [_, _, _, _, _, _]) dX11_readsWays_22 (by decide) rfl rfl ?_
        refine aw_iconst (v := 4) dX11_readsWays_23 rfl ?_
        refine aw_iload_n dX11_readsWays_24 rfl ?_
        refine aw_iconst (v := 5) dX11_readsWays_25 rfl ?_
        refine aw_idiv_n (a := i) (b := 5) dX11_readsWays_26 (by omega) (by omega) (by omega) ?_
        refine aw_imul_n (a := 4) (b := i / 5) dX11_readsWays_27 ?_
        refine aw_istore (ls2 := [_, _, _, _, _, _]) dX11_readsWays_28 (by decide) rfl rfl ?_
        refine aw_iload_n dX11_readsWays_30 rfl ?_
        refine aw_aload_n dX11_readsWays_31 rfl ?_
        refine aw_getR dX11_readsWays_32 f11_22 rfl ⟨Nat.le_of_ble_eq_true rfl, Nat.le_of_ble_eq_true rfl⟩ rfl rfl ?_
        refine aw_iload_n dX11_readsWays_35 rfl ?_
        refine aw_iald_n (j := i) dX11_readsWays_36 rfl (Nat.le_of_ble_eq_true rfl) (by decide) (by omega) ?_
        refine aw_top ((congrFun (hF.1 86 (by decide) (by decide)) i).trans (hB.1 i (by omega)).1) ?_
        refine aw_iload_n dX11_readsWays_37 rfl ?_
        refine aw_iconst (v := 1) dX11_readsWays_38 rfl ?_
        refine aw_ic_ne (tgt := 52) dX11_readsWays_39 (by decide) (fun z => absurd (by decide) z) (fun _ => ?_)
        refine aw_aload_n dX11_readsWays_42 rfl ?_
        refine aw_getR dX11_readsWays_43 f11_28 rfl ⟨Nat.le_of_ble_eq_true rfl, Nat.le_of_ble_eq_true rfl⟩ rfl rfl ?_
        refine aw_iload dX11_readsWays_46 rfl ?_
        refine aw_iald_n (j := 4 * (i / 5)) dX11_readsWays_48 rfl (Nat.le_of_ble_eq_true rfl) (by decide) (by omega) ?_
        refine aw_top h88 ?_
        refine aw_goto (tgt := 53) dX11_readsWays_49 (by decide) ?_
        refine aw_S0c (As := [_, _, _]) dX11_readsWays_53 k11_130 rfl rfl (Nat.le_of_ble_eq_true rfl) ⟨⟨Nat.le_of_ble_eq_true rfl, Nat.le_of_ble_eq_true rfl⟩, ⟨Nat.le_of_ble_eq_true rfl, Nat.le_of_ble_eq_true rfl⟩⟩ ⟨rfl, rfl⟩ (w_wayOf1N G hb hc hq hpp) (fun v h2 hq => ?_)
        obtain ⟨rfl, rfl⟩ := hq
        refine aw_istore (ls2 := [_, _, _, _, _, _]) dX11_readsWays_56 (by decide) rfl rfl ?_
        refine aw_iload dX11_readsWays_58 rfl ?_
        refine aw_bipush (v := -9) dX11_readsWays_60 (by decide) ?_
        refine aw_ic_ne (tgt := 72) dX11_readsWays_62 (by decide) (fun z => absurd (by decide) z) (fun _ => ?_)
        refine aw_aload_n dX11_readsWays_65 rfl ?_
        refine aw_iconst (v := 0) dX11_readsWays_66 rfl ?_
        refine aw_putI dX11_readsWays_67 f11_127 rfl ⟨Nat.le_of_ble_eq_true rfl, Nat.le_of_ble_eq_true rfl⟩ (Or.inl rfl) rfl ?_
        refine aw_iload_n dX11_readsWays_70 rfl ?_
        refine aw_reti dX11_readsWays_71 rfl rfl ⟨Nat.le_of_ble_eq_true rfl, Nat.le_of_ble_eq_true rfl⟩ ?_
        have e : q_b (q_w b0) (i + 1) = i + 1 := by rw [q_b_S hg, if_neg (by rw [hq]; decide)]
        have e2 : q_b (q_w b0) l0 = i + 1 := by
          have := q_b_stop (q := q_w b0) (i := i + 1) (by rw [e]; omega) (l0 - (i + 1))
          rw [show i + 1 + (l0 - (i + 1)) = l0 by omega, e] at this
          exact this
        refine ⟨?_, _, rfl, ⟨?_, fun w j hw => ?_⟩, hF.f⟩
        · rw [q_f, e2, if_pos (by omega), nI_pred]
        · rw [aw_u_eq, q_k, e2, if_pos (by omega)]; rfl
        · rw [q_k, e2, if_pos (by omega)] at hw; omega
    · cases hq : q_w b0 i with
      | true =>
        have hsb : s_w b0 i < 100000 := by
          unfold s_w; repeat' split
          all_goals omega
        have hk2 : (aw_u I 88 (4 * (i / 5) + 2) (nI (s_w b0 i))) 81 7 = nI ((i + 1) / 5) := by rw [aw_u_ne (by decide)]; exact hk
        refine aw_iload_n dX11_readsWays_14 rfl ?_
        refine aw_iload_n dX11_readsWays_15 rfl ?_
        refine aw_ic_ge_n (a := i) (b := l0) (tgt := 113) dX11_readsWays_16 (by decide) (by omega) (by omega) (fun z => absurd z (by omega)) (fun c16 => ?_)
        refine aw_iload_n dX11_readsWays_19 rfl ?_
        refine aw_iconst (v := 5) dX11_readsWays_20 rfl ?_
        refine aw_irem_n (a := i) (b := 5) dX11_readsWays_21 (by omega) (by omega) (by omega) ?_
        refine aw_top (show nI (i % 5) = 2 by rw [hc]; rfl) ?_
        refine aw_istore_n (ls2 := [_, _, _, _, _, _]) dX11_readsWays_22 (by decide) rfl rfl ?_
        refine aw_iconst (v := 4) dX11_readsWays_23 rfl ?_
        refine aw_iload_n dX11_readsWays_24 rfl ?_
        refine aw_iconst (v := 5) dX11_readsWays_25 rfl ?_
        refine aw_idiv_n (a := i) (b := 5) dX11_readsWays_26 (by omega) (by omega) (by omega) ?_
        refine aw_imul_n (a := 4) (b := i / 5) dX11_readsWays_27 ?_
        refine aw_istore (ls2 := [_, _, _, _, _, _]) dX11_readsWays_28 (by decide) rfl rfl ?_
        refine aw_iload_n dX11_readsWays_30 rfl ?_
        refine aw_aload_n dX11_readsWays_31 rfl ?_
        refine aw_getR dX11_readsWays_32 f11_22 rfl ⟨Nat.le_of_ble_eq_true rfl, Nat.le_of_ble_eq_true rfl⟩ rfl rfl ?_
        refine aw_iload_n dX11_readsWays_35 rfl ?_
        refine aw_iald_n (j := i) dX11_readsWays_36 rfl (Nat.le_of_ble_eq_true rfl) (by decide) (by omega) ?_
        refine aw_top ((congrFun (hF.1 86 (by decide) (by decide)) i).trans (hB.1 i (by omega)).1) ?_
        refine aw_iload_n dX11_readsWays_37 rfl ?_
        refine aw_iconst (v := 1) dX11_readsWays_38 rfl ?_
        refine aw_ic_ne (tgt := 52) dX11_readsWays_39 (by decide) (fun _ => ?_) (fun z => absurd z (by decide))
        refine aw_iconst (v := -1) dX11_readsWays_52 rfl ?_
        refine aw_S0c (As := [_, _, _]) dX11_readsWays_53 k11_130 rfl rfl (Nat.le_of_ble_eq_true rfl) ⟨⟨Nat.le_of_ble_eq_true rfl, Nat.le_of_ble_eq_true rfl⟩, ⟨Nat.le_of_ble_eq_true rfl, Nat.le_of_ble_eq_true rfl⟩⟩ ⟨rfl, rfl⟩ (w_wayOf2Y G hb hc hq) (fun v h2 hq => ?_)
        obtain ⟨rfl, rfl⟩ := hq
        refine aw_istore (ls2 := [_, _, _, _, _, _]) dX11_readsWays_56 (by decide) rfl rfl ?_
        refine aw_iload dX11_readsWays_58 rfl ?_
        refine aw_bipush (v := -9) dX11_readsWays_60 (by decide) ?_
        refine aw_ic_ne (tgt := 72) dX11_readsWays_62 (by decide) (fun c62 => ?_) (fun z => absurd z (zm9 hsb))
        refine aw_iload_n dX11_readsWays_72 rfl ?_
        refine aw_iconst (v := 4) dX11_readsWays_73 rfl ?_
        refine aw_ic_ge (tgt := 88) dX11_readsWays_74 (by decide) (fun z => absurd z (by decide)) (fun _ => ?_)
        refine aw_aload_n dX11_readsWays_77 rfl ?_
        refine aw_getR dX11_readsWays_78 f11_28 rfl ⟨Nat.le_of_ble_eq_true rfl, Nat.le_of_ble_eq_true rfl⟩ rfl rfl ?_
        refine aw_iload dX11_readsWays_81 rfl ?_
        refine aw_iload_n dX11_readsWays_83 rfl ?_
        refine aw_iadd_n (a := 4 * (i / 5)) (b := 2) dX11_readsWays_84 ?_
        refine aw_iload dX11_readsWays_85 rfl ?_
        refine aw_iast_n (j := (4 * (i / 5)) + 2) dX11_readsWays_87 rfl ⟨Nat.le_of_ble_eq_true rfl, Nat.le_of_ble_eq_true rfl⟩ (by decide) (by omega) ?_
        refine aw_aload_n dX11_readsWays_88 rfl ?_
        refine aw_dup dX11_readsWays_89 rfl ?_
        refine aw_getI dX11_readsWays_90 f11_127 rfl ⟨Nat.le_of_ble_eq_true rfl, Nat.le_of_ble_eq_true rfl⟩ rfl ?_
        refine aw_top hk2 ?_
        refine aw_iload_n dX11_readsWays_93 rfl ?_
        refine aw_iconst (v := 3) dX11_readsWays_94 rfl ?_
        refine aw_ic_ne (tgt := 102) dX11_readsWays_95 (by decide) (fun _ => ?_) (fun z => absurd z (by decide))
        refine aw_iconst (v := 0) dX11_readsWays_102 rfl ?_
        refine aw_iadd_n (a := (i + 1) / 5) (b := 0) dX11_readsWays_103 ?_
        refine aw_putI dX11_readsWays_104 f11_127 rfl ⟨Nat.le_of_ble_eq_true rfl, Nat.le_of_ble_eq_true rfl⟩ (Or.inl rfl) rfl ?_
        refine aw_iinc_n (ls2 := [_, _, _, _, _, _]) dX11_readsWays_107 rfl (by decide) rfl rfl ?_
        refine aw_goto (tgt := 14) dX11_readsWays_110 (by decide) ?_
        refine aw_kill (j := 3) (ls2 := [_, _, _, aw_x, _, _]) rfl (aw_kill (j := 4) (ls2 := [_, _, _, _, aw_x, _]) rfl (aw_kill (j := 5) (ls2 := [_, _, _, _, _, aw_x]) rfl (ih _ ⟨fun j hj hj5 => ?_, ?_, ?_, ?_⟩)))
        · rw [aw_u_ne (by decide)]
          by_cases hji : j = i
          · subst hji; rw [hc, aw_u_eq]
          · rw [aw_u_nj (by omega)]; exact hv j (by omega) hj5
        · rw [aw_u_eq, show (i + 1 + 1) / 5 = (i + 1) / 5 + 0 by omega]
        · exact (hF.r (by decide)).f
        · rw [q_b_S hg, if_pos hq]
      | false =>
        refine aw_iload_n dX11_readsWays_14 rfl ?_
        refine aw_iload_n dX11_readsWays_15 rfl ?_
        refine aw_ic_ge_n (a := i) (b := l0) (tgt := 113) dX11_readsWays_16 (by decide) (by omega) (by omega) (fun z => absurd z (by omega)) (fun c16 => ?_)
        refine aw_iload_n dX11_readsWays_19 rfl ?_
        refine aw_iconst (v := 5) dX11_readsWays_20 rfl ?_
        refine aw_irem_n (a := i) (b := 5) dX11_readsWays_21 (by omega) (by omega) (by omega) ?_
        refine aw_top (show nI (i % 5) = 2 by rw [hc]; rfl) ?_
        refine aw_istore_n (ls2 := [_, _, _, _, _, _]) dX11_readsWays_22 (by decide) rfl rfl ?_
        refine aw_iconst (v := 4) dX11_readsWays_23 rfl ?_
        refine aw_iload_n dX11_readsWays_24 rfl ?_
        refine aw_iconst (v := 5) dX11_readsWays_25 rfl ?_
        refine aw_idiv_n (a := i) (b := 5) dX11_readsWays_26 (by omega) (by omega) (by omega) ?_
        refine aw_imul_n (a := 4) (b := i / 5) dX11_readsWays_27 ?_
        refine aw_istore (ls2 := [_, _, _, _, _, _]) dX11_readsWays_28 (by decide) rfl rfl ?_
        refine aw_iload_n dX11_readsWays_30 rfl ?_
        refine aw_aload_n dX11_readsWays_31 rfl ?_
        refine aw_getR dX11_readsWays_32 f11_22 rfl ⟨Nat.le_of_ble_eq_true rfl, Nat.le_of_ble_eq_true rfl⟩ rfl rfl ?_
        refine aw_iload_n dX11_readsWays_35 rfl ?_
        refine aw_iald_n (j := i) dX11_readsWays_36 rfl (Nat.le_of_ble_eq_true rfl) (by decide) (by omega) ?_
        refine aw_top ((congrFun (hF.1 86 (by decide) (by decide)) i).trans (hB.1 i (by omega)).1) ?_
        refine aw_iload_n dX11_readsWays_37 rfl ?_
        refine aw_iconst (v := 1) dX11_readsWays_38 rfl ?_
        refine aw_ic_ne (tgt := 52) dX11_readsWays_39 (by decide) (fun _ => ?_) (fun z => absurd z (by decide))
        refine aw_iconst (v := -1) dX11_readsWays_52 rfl ?_
        refine aw_S0c (As := [_, _, _]) dX11_readsWays_53 k11_130 rfl rfl (Nat.le_of_ble_eq_true rfl) ⟨⟨Nat.le_of_ble_eq_true rfl, Nat.le_of_ble_eq_true rfl⟩, ⟨Nat.le_of_ble_eq_true rfl, Nat.le_of_ble_eq_true rfl⟩⟩ ⟨rfl, rfl⟩ (w_wayOf2N G hb hc hq) (fun v h2 hq => ?_)
        obtain ⟨rfl, rfl⟩ := hq
        refine aw_istore (ls2 := [_, _, _, _, _, _]) dX11_readsWays_56 (by decide) rfl rfl ?_
        refine aw_iload dX11_readsWays_58 rfl ?_
        refine aw_bipush (v := -9) dX11_readsWays_60 (by decide) ?_
        refine aw_ic_ne (tgt := 72) dX11_readsWays_62 (by decide) (fun z => absurd (by decide) z) (fun _ => ?_)
        refine aw_aload_n dX11_readsWays_65 rfl ?_
        refine aw_iconst (v := 0) dX11_readsWays_66 rfl ?_
        refine aw_putI dX11_readsWays_67 f11_127 rfl ⟨Nat.le_of_ble_eq_true rfl, Nat.le_of_ble_eq_true rfl⟩ (Or.inl rfl) rfl ?_
        refine aw_iload_n dX11_readsWays_70 rfl ?_
        refine aw_reti dX11_readsWays_71 rfl rfl ⟨Nat.le_of_ble_eq_true rfl, Nat.le_of_ble_eq_true rfl⟩ ?_
        have e : q_b (q_w b0) (i + 1) = i + 1 := by rw [q_b_S hg, if_neg (by rw [hq]; decide)]
        have e2 : q_b (q_w b0) l0 = i + 1 := by
          have := q_b_stop (q := q_w b0) (i := i + 1) (by rw [e]; omega) (l0 - (i + 1))
          rw [show i + 1 + (l0 - (i + 1)) = l0 by omega, e] at this
          exact this
        refine ⟨?_, _, rfl, ⟨?_, fun w j hw => ?_⟩, hF.f⟩
        · rw [q_f, e2, if_pos (by omega), nI_pred]
        · rw [aw_u_eq, q_k, e2, if_pos (by omega)]; rfl
        · rw [q_k, e2, if_pos (by omega)] at hw; omega
    · cases hq : q_w b0 i with
      | true =>
        have hsb : s_w b0 i < 100000 := by
          unfold s_w; repeat' split
          all_goals omega
        have hk2 : (aw_u I 88 (4 * (i / 5) + 3) (nI (s_w b0 i))) 81 7 = nI ((i + 1) / 5) := by rw [aw_u_ne (by decide)]; exact hk
        refine aw_iload_n dX11_readsWays_14 rfl ?_
        refine aw_iload_n dX11_readsWays_15 rfl ?_
        refine aw_ic_ge_n (a := i) (b := l0) (tgt := 113) dX11_readsWays_16 (by decide) (by omega) (by omega) (fun z => absurd z (by omega)) (fun c16 => ?_)
        refine aw_iload_n dX11_readsWays_19 rfl ?_
        refine aw_iconst (v := 5) dX11_readsWays_20 rfl ?_
        refine aw_irem_n (a := i) (b := 5) dX11_readsWays_21 (by omega) (by omega) (by omega) ?_
        refine aw_top (show nI (i % 5) = 3 by rw [hc]; rfl) ?_
        refine aw_istore_n (ls2 := [_, _, _, _, _, _]) dX11_readsWays_22 (by decide) rfl rfl ?_
        refine aw_iconst (v := 4) dX11_readsWays_23 rfl ?_
        refine aw_iload_n dX11_readsWays_24 rfl ?_
        refine aw_iconst (v := 5) dX11_readsWays_25 rfl ?_
        refine aw_idiv_n (a := i) (b := 5) dX11_readsWays_26 (by omega) (by omega) (by omega) ?_
        refine aw_imul_n (a := 4) (b := i / 5) dX11_readsWays_27 ?_
        refine aw_istore (ls2 := [_, _, _, _, _, _]) dX11_readsWays_28 (by decide) rfl rfl ?_
        refine aw_iload_n dX11_readsWays_30 rfl ?_
        refine aw_aload_n dX11_readsWays_31 rfl ?_
        refine aw_getR dX11_readsWays_32 f11_22 rfl ⟨Nat.le_of_ble_eq_true rfl, Nat.le_of_ble_eq_true rfl⟩ rfl rfl ?_
        refine aw_iload_n dX11_readsWays_35 rfl ?_
        refine aw_iald_n (j := i) dX11_readsWays_36 rfl (Nat.le_of_ble_eq_true rfl) (by decide) (by omega) ?_
        refine aw_top ((congrFun (hF.1 86 (by decide) (by decide)) i).trans (hB.1 i (by omega)).1) ?_
        refine aw_iload_n dX11_readsWays_37 rfl ?_
        refine aw_iconst (v := 1) dX11_readsWays_38 rfl ?_
        refine aw_ic_ne (tgt := 52) dX11_readsWays_39 (by decide) (fun _ => ?_) (fun z => absurd z (by decide))
        refine aw_iconst (v := -1) dX11_readsWays_52 rfl ?_
        refine aw_S0c (As := [_, _, _]) dX11_readsWays_53 k11_130 rfl rfl (Nat.le_of_ble_eq_true rfl) ⟨⟨Nat.le_of_ble_eq_true rfl, Nat.le_of_ble_eq_true rfl⟩, ⟨Nat.le_of_ble_eq_true rfl, Nat.le_of_ble_eq_true rfl⟩⟩ ⟨rfl, rfl⟩ (w_wayOf3Y G hb hc hq) (fun v h2 hq => ?_)
        obtain ⟨rfl, rfl⟩ := hq
        refine aw_istore (ls2 := [_, _, _, _, _, _]) dX11_readsWays_56 (by decide) rfl rfl ?_
        refine aw_iload dX11_readsWays_58 rfl ?_
        refine aw_bipush (v := -9) dX11_readsWays_60 (by decide) ?_
        refine aw_ic_ne (tgt := 72) dX11_readsWays_62 (by decide) (fun c62 => ?_) (fun z => absurd z (zm9 hsb))
        refine aw_iload_n dX11_readsWays_72 rfl ?_
        refine aw_iconst (v := 4) dX11_readsWays_73 rfl ?_
        refine aw_ic_ge (tgt := 88) dX11_readsWays_74 (by decide) (fun z => absurd z (by decide)) (fun _ => ?_)
        refine aw_aload_n dX11_readsWays_77 rfl ?_
        refine aw_getR dX11_readsWays_78 f11_28 rfl ⟨Nat.le_of_ble_eq_true rfl, Nat.le_of_ble_eq_true rfl⟩ rfl rfl ?_
        refine aw_iload dX11_readsWays_81 rfl ?_
        refine aw_iload_n dX11_readsWays_83 rfl ?_
        refine aw_iadd_n (a := 4 * (i / 5)) (b := 3) dX11_readsWays_84 ?_
        refine aw_iload dX11_readsWays_85 rfl ?_
        refine aw_iast_n (j := (4 * (i / 5)) + 3) dX11_readsWays_87 rfl ⟨Nat.le_of_ble_eq_true rfl, Nat.le_of_ble_eq_true rfl⟩ (by decide) (by omega) ?_
        refine aw_aload_n dX11_readsWays_88 rfl ?_
        refine aw_dup dX11_readsWays_89 rfl ?_
        refine aw_getI dX11_readsWays_90 f11_127 rfl ⟨Nat.le_of_ble_eq_true rfl, Nat.le_of_ble_eq_true rfl⟩ rfl ?_
        refine aw_top hk2 ?_
        refine aw_iload_n dX11_readsWays_93 rfl ?_
        refine aw_iconst (v := 3) dX11_readsWays_94 rfl ?_
        refine aw_ic_ne (tgt := 102) dX11_readsWays_95 (by decide) (fun z => absurd (by decide) z) (fun _ => ?_)
        refine aw_iconst (v := 1) dX11_readsWays_98 rfl ?_
        refine aw_goto (tgt := 103) dX11_readsWays_99 (by decide) ?_
        refine aw_iadd_n (a := (i + 1) / 5) (b := 1) dX11_readsWays_103 ?_
        refine aw_putI dX11_readsWays_104 f11_127 rfl ⟨Nat.le_of_ble_eq_true rfl, Nat.le_of_ble_eq_true rfl⟩ (Or.inl rfl) rfl ?_
        refine aw_iinc_n (ls2 := [_, _, _, _, _, _]) dX11_readsWays_107 rfl (by decide) rfl rfl ?_
        refine aw_goto (tgt := 14) dX11_readsWays_110 (by decide) ?_
        refine aw_kill (j := 3) (ls2 := [_, _, _, aw_x, _, _]) rfl (aw_kill (j := 4) (ls2 := [_, _, _, _, aw_x, _]) rfl (aw_kill (j := 5) (ls2 := [_, _, _, _, _, aw_x]) rfl (ih _ ⟨fun j hj hj5 => ?_, ?_, ?_, ?_⟩)))
        · rw [aw_u_ne (by decide)]
          by_cases hji : j = i
          · subst hji; rw [hc, aw_u_eq]
          · rw [aw_u_nj (by omega)]; exact hv j (by omega) hj5
        · rw [aw_u_eq, show (i + 1 + 1) / 5 = (i + 1) / 5 + 1 by omega]
        · exact (hF.r (by decide)).f
        · rw [q_b_S hg, if_pos hq]
      | false =>
        refine aw_iload_n dX11_readsWays_14 rfl ?_
        refine aw_iload_n dX11_readsWays_15 rfl ?_
        refine aw_ic_ge_n (a := i) (b := l0) (tgt := 113) dX11_readsWays_16 (by decide) (by omega) (by omega) (fun z => absurd z (by omega)) (fun c16 => ?_)
        refine aw_iload_n dX11_readsWays_19 rfl ?_
        refine aw_iconst (v := 5) dX11_readsWays_20 rfl ?_
        refine aw_irem_n (a := i) (b := 5) dX11_readsWays_21 (by omega) (by omega) (by omega) ?_
        refine aw_top (show nI (i % 5) = 3 by rw [hc]; rfl) ?_
        refine aw_istore_n (ls2 := [_, _, _, _, _, _]) dX11_readsWays_22 (by decide) rfl rfl ?_
        refine aw_iconst (v := 4) dX11_readsWays_23 rfl ?_
        refine aw_iload_n dX11_readsWays_24 rfl ?_
        refine aw_iconst (v := 5) dX11_readsWays_25 rfl ?_
        refine aw_idiv_n (a := i) (b := 5) dX11_readsWays_26 (by omega) (by omega) (by omega) ?_
        refine aw_imul_n (a := 4) (b := i / 5) dX11_readsWays_27 ?_
        refine aw_istore (ls2 := [_, _, _, _, _, _]) dX11_readsWays_28 (by decide) rfl rfl ?_
        refine aw_iload_n dX11_readsWays_30 rfl ?_
        refine aw_aload_n dX11_readsWays_31 rfl ?_
        refine aw_getR dX11_readsWays_32 f11_22 rfl ⟨Nat.le_of_ble_eq_true rfl, Nat.le_of_ble_eq_true rfl⟩ rfl rfl ?_
        refine aw_iload_n dX11_readsWays_35 rfl ?_
        refine aw_iald_n (j := i) dX11_readsWays_36 rfl (Nat.le_of_ble_eq_true rfl) (by decide) (by omega) ?_
        refine aw_top ((congrFun (hF.1 86 (by decide) (by decide)) i).trans (hB.1 i (by omega)).1) ?_
        refine aw_iload_n dX11_readsWays_37 rfl ?_
        refine aw_iconst (v := 1) dX11_readsWays_38 rfl ?_
        refine aw_ic_ne (tgt := 52) dX11_readsWays_39 (by decide) (fun _ => ?_) (fun z => absurd z (by decide))
        refine aw_iconst (v := -1) dX11_readsWays_52 rfl ?_
        refine aw_S0c (As := [_, _, _]) dX11_readsWays_53 k11_130 rfl rfl (Nat.le_of_ble_eq_true rfl) ⟨⟨Nat.le_of_ble_eq_true rfl, Nat.le_of_ble_eq_true rfl⟩, ⟨Nat.le_of_ble_eq_true rfl, Nat.le_of_ble_eq_true rfl⟩⟩ ⟨rfl, rfl⟩ (w_wayOf3N G hb hc hq) (fun v h2 hq => ?_)
        obtain ⟨rfl, rfl⟩ := hq
        refine aw_istore (ls2 := [_, _, _, _, _, _]) dX11_readsWays_56 (by decide) rfl rfl ?_
        refine aw_iload dX11_readsWays_58 rfl ?_
        refine aw_bipush (v := -9) dX11_readsWays_60 (by decide) ?_
        refine aw_ic_ne (tgt := 72) dX11_readsWays_62 (by decide) (fun z => absurd (by decide) z) (fun _ => ?_)
        refine aw_aload_n dX11_readsWays_65 rfl ?_
        refine aw_iconst (v := 0) dX11_readsWays_66 rfl ?_
        refine aw_putI dX11_readsWays_67 f11_127 rfl ⟨Nat.le_of_ble_eq_true rfl, Nat.le_of_ble_eq_true rfl⟩ (Or.inl rfl) rfl ?_
        refine aw_iload_n dX11_readsWays_70 rfl ?_
        refine aw_reti dX11_readsWays_71 rfl rfl ⟨Nat.le_of_ble_eq_true rfl, Nat.le_of_ble_eq_true rfl⟩ ?_
        have e : q_b (q_w b0) (i + 1) = i + 1 := by rw [q_b_S hg, if_neg (by rw [hq]; decide)]
        have e2 : q_b (q_w b0) l0 = i + 1 := by
          have := q_b_stop (q := q_w b0) (i := i + 1) (by rw [e]; omega) (l0 - (i + 1))
          rw [show i + 1 + (l0 - (i + 1)) = l0 by omega, e] at this
          exact this
        refine ⟨?_, _, rfl, ⟨?_, fun w j hw => ?_⟩, hF.f⟩
        · rw [q_f, e2, if_pos (by omega), nI_pred]
        · rw [aw_u_eq, q_k, e2, if_pos (by omega)]; rfl
        · rw [q_k, e2, if_pos (by omega)] at hw; omega
    · cases hq : q_w b0 i with
      | true =>
        have hsb : s_w b0 i < 100000 := by
          unfold s_w; repeat' split
          all_goals omega
        have hk2 : I 81 7 = nI ((i + 1) / 5) := by exact hk
        refine aw_iload_n dX11_readsWays_14 rfl ?_
        refine aw_iload_n dX11_readsWays_15 rfl ?_
        refine aw_ic_ge_n (a := i) (b := l0) (tgt := 113) dX11_readsWays_16 (by decide) (by omega) (by omega) (fun z => absurd z (by omega)) (fun c16 => ?_)
        refine aw_iload_n dX11_readsWays_19 rfl ?_
        refine aw_iconst (v := 5) dX11_readsWays_20 rfl ?_
        refine aw_irem_n (a := i) (b := 5) dX11_readsWays_21 (by omega) (by omega) (by omega) ?_
        refine aw_top (show nI (i % 5) = 4 by rw [hc]; rfl) ?_
        refine aw_istore_n (ls2 := [_, _, _, _, _, _]) dX11_readsWays_22 (by decide) rfl rfl ?_
        refine aw_iconst (v := 4) dX11_readsWays_23 rfl ?_
        refine aw_iload_n dX11_readsWays_24 rfl ?_
        refine aw_iconst (v := 5) dX11_readsWays_25 rfl ?_
        refine aw_idiv_n (a := i) (b := 5) dX11_readsWays_26 (by omega) (by omega) (by omega) ?_
        refine aw_imul_n (a := 4) (b := i / 5) dX11_readsWays_27 ?_
        refine aw_istore (ls2 := [_, _, _, _, _, _]) dX11_readsWays_28 (by decide) rfl rfl ?_
        refine aw_iload_n dX11_readsWays_30 rfl ?_
        refine aw_aload_n dX11_readsWays_31 rfl ?_
        refine aw_getR dX11_readsWays_32 f11_22 rfl ⟨Nat.le_of_ble_eq_true rfl, Nat.le_of_ble_eq_true rfl⟩ rfl rfl ?_
        refine aw_iload_n dX11_readsWays_35 rfl ?_
        refine aw_iald_n (j := i) dX11_readsWays_36 rfl (Nat.le_of_ble_eq_true rfl) (by decide) (by omega) ?_
        refine aw_top ((congrFun (hF.1 86 (by decide) (by decide)) i).trans (hB.1 i (by omega)).1) ?_
        refine aw_iload_n dX11_readsWays_37 rfl ?_
        refine aw_iconst (v := 1) dX11_readsWays_38 rfl ?_
        refine aw_ic_ne (tgt := 52) dX11_readsWays_39 (by decide) (fun _ => ?_) (fun z => absurd z (by decide))
        refine aw_iconst (v := -1) dX11_readsWays_52 rfl ?_
        refine aw_S0c (As := [_, _, _]) dX11_readsWays_53 k11_130 rfl rfl (Nat.le_of_ble_eq_true rfl) ⟨⟨Nat.le_of_ble_eq_true rfl, Nat.le_of_ble_eq_true rfl⟩, ⟨Nat.le_of_ble_eq_true rfl, Nat.le_of_ble_eq_true rfl⟩⟩ ⟨rfl, rfl⟩ (w_wayOf4Y G hb hc hq) (fun v h2 hq => ?_)
        obtain ⟨rfl, rfl⟩ := hq
        refine aw_istore (ls2 := [_, _, _, _, _, _]) dX11_readsWays_56 (by decide) rfl rfl ?_
        refine aw_iload dX11_readsWays_58 rfl ?_
        refine aw_bipush (v := -9) dX11_readsWays_60 (by decide) ?_
        refine aw_ic_ne (tgt := 72) dX11_readsWays_62 (by decide) (fun c62 => ?_) (fun z => absurd z (zm9 hsb))
        refine aw_iload_n dX11_readsWays_72 rfl ?_
        refine aw_iconst (v := 4) dX11_readsWays_73 rfl ?_
        refine aw_ic_ge (tgt := 88) dX11_readsWays_74 (by decide) (fun _ => ?_) (fun z => absurd (by decide) z)
        refine aw_aload_n dX11_readsWays_88 rfl ?_
        refine aw_dup dX11_readsWays_89 rfl ?_
        refine aw_getI dX11_readsWays_90 f11_127 rfl ⟨Nat.le_of_ble_eq_true rfl, Nat.le_of_ble_eq_true rfl⟩ rfl ?_
        refine aw_top hk2 ?_
        refine aw_iload_n dX11_readsWays_93 rfl ?_
        refine aw_iconst (v := 3) dX11_readsWays_94 rfl ?_
        refine aw_ic_ne (tgt := 102) dX11_readsWays_95 (by decide) (fun _ => ?_) (fun z => absurd z (by decide))
        refine aw_iconst (v := 0) dX11_readsWays_102 rfl ?_
        refine aw_iadd_n (a := (i + 1) / 5) (b := 0) dX11_readsWays_103 ?_
        refine aw_putI dX11_readsWays_104 f11_127 rfl ⟨Nat.le_of_ble_eq_true rfl, Nat.le_of_ble_eq_true rfl⟩ (Or.inl rfl) rfl ?_
        refine aw_iinc_n (ls2 := [_, _, _, _, _, _]) dX11_readsWays_107 rfl (by decide) rfl rfl ?_
        refine aw_goto (tgt := 14) dX11_readsWays_110 (by decide) ?_
        refine aw_kill (j := 3) (ls2 := [_, _, _, aw_x, _, _]) rfl (aw_kill (j := 4) (ls2 := [_, _, _, _, aw_x, _]) rfl (aw_kill (j := 5) (ls2 := [_, _, _, _, _, aw_x]) rfl (ih _ ⟨fun j hj hj5 => ?_, ?_, ?_, ?_⟩)))
        · rw [aw_u_ne (by decide)]; exact hv j (by omega) hj5
        · rw [aw_u_eq, show (i + 1 + 1) / 5 = (i + 1) / 5 + 0 by omega]
        · exact (hF).f
        · rw [q_b_S hg, if_pos hq]
      | false =>
        refine aw_iload_n dX11_readsWays_14 rfl ?_
        refine aw_iload_n dX11_readsWays_15 rfl ?_
        refine aw_ic_ge_n (a := i) (b := l0) (tgt := 113) dX11_readsWays_16 (by decide) (by omega) (by omega) (fun z => absurd z (by omega)) (fun c16 => ?_)
        refine aw_iload_n dX11_readsWays_19 rfl ?_
        refine aw_iconst (v := 5) dX11_readsWays_20 rfl ?_
        refine aw_irem_n (a := i) (b := 5) dX11_readsWays_21 (by omega) (by omega) (by omega) ?_
        refine aw_top (show nI (i % 5) = 4 by rw [hc]; rfl) ?_
        refine aw_istore_n (ls2 := [_, _, _, _, _, _]) dX11_readsWays_22 (by decide) rfl rfl ?_
        refine aw_iconst (v := 4) dX11_readsWays_23 rfl ?_
        refine aw_iload_n dX11_readsWays_24 rfl ?_
        refine aw_iconst (v := 5) dX11_readsWays_25 rfl ?_
        refine aw_idiv_n (a := i) (b := 5) dX11_readsWays_26 (by omega) (by omega) (by omega) ?_
        refine aw_imul_n (a := 4) (b := i / 5) dX11_readsWays_27 ?_
        refine aw_istore (ls2 := [_, _, _, _, _, _]) dX11_readsWays_28 (by decide) rfl rfl ?_
        refine aw_iload_n dX11_readsWays_30 rfl ?_
        refine aw_aload_n dX11_readsWays_31 rfl ?_
        refine aw_getR dX11_readsWays_32 f11_22 rfl ⟨Nat.le_of_ble_eq_true rfl, Nat.le_of_ble_eq_true rfl⟩ rfl rfl ?_
        refine aw_iload_n dX11_readsWays_35 rfl ?_
        refine aw_iald_n (j := i) dX11_readsWays_36 rfl (Nat.le_of_ble_eq_true rfl) (by decide) (by omega) ?_
        refine aw_top ((congrFun (hF.1 86 (by decide) (by decide)) i).trans (hB.1 i (by omega)).1) ?_
        refine aw_iload_n dX11_readsWays_37 rfl ?_
        refine aw_iconst (v := 1) dX11_readsWays_38 rfl ?_
        refine aw_ic_ne (tgt := 52) dX11_readsWays_39 (by decide) (fun _ => ?_) (fun z => absurd z (by decide))
        refine aw_iconst (v := -1) dX11_readsWays_52 rfl ?_
        refine aw_S0c (As := [_, _, _]) dX11_readsWays_53 k11_130 rfl rfl (Nat.le_of_ble_eq_true rfl) ⟨⟨Nat.le_of_ble_eq_true rfl, Nat.le_of_ble_eq_true rfl⟩, ⟨Nat.le_of_ble_eq_true rfl, Nat.le_of_ble_eq_true rfl⟩⟩ ⟨rfl, rfl⟩ (w_wayOf4N G hb hc hq) (fun v h2 hq => ?_)
        obtain ⟨rfl, rfl⟩ := hq
        refine aw_istore (ls2 := [_, _, _, _, _, _]) dX11_readsWays_56 (by decide) rfl rfl ?_
        refine aw_iload dX11_readsWays_58 rfl ?_
        refine aw_bipush (v := -9) dX11_readsWays_60 (by decide) ?_
        refine aw_ic_ne (tgt := 72) dX11_readsWays_62 (by decide) (fun z => absurd (by decide) z) (fun _ => ?_)
        refine aw_aload_n dX11_readsWays_65 rfl ?_
        refine aw_iconst (v := 0) dX11_readsWays_66 rfl ?_
        refine aw_putI dX11_readsWays_67 f11_127 rfl ⟨Nat.le_of_ble_eq_true rfl, Nat.le_of_ble_eq_true rfl⟩ (Or.inl rfl) rfl ?_
        refine aw_iload_n dX11_readsWays_70 rfl ?_
        refine aw_reti dX11_readsWays_71 rfl rfl ⟨Nat.le_of_ble_eq_true rfl, Nat.le_of_ble_eq_true rfl⟩ ?_
        have e : q_b (q_w b0) (i + 1) = i + 1 := by rw [q_b_S hg, if_neg (by rw [hq]; decide)]
        have e2 : q_b (q_w b0) l0 = i + 1 := by
          have := q_b_stop (q := q_w b0) (i := i + 1) (by rw [e]; omega) (l0 - (i + 1))
          rw [show i + 1 + (l0 - (i + 1)) = l0 by omega, e] at this
          exact this
        refine ⟨?_, _, rfl, ⟨?_, fun w j hw => ?_⟩, hF.f⟩
        · rw [q_f, e2, if_pos (by omega), nI_pred]
        · rw [aw_u_eq, q_k, e2, if_pos (by omega)]; rfl
        · rw [q_k, e2, if_pos (by omega)] at hw; omega
theorem w_readsCarters (G : aw_G) {n c : Nat} {I : Nat → Nat → Int32} {L : Nat → Nat → Int64} {b0 b1 : Nat → Nat} {l0 l1 : Nat} (hB : zBm b0 b1 l0 l1 I) : aw_Met G mX11_readsCarters [.ref 81] (zH n I L c) (fun v h2 => v = some (.int (nI (q_f (q_c b1) 7 l1) - 1)) ∧ ∃ I2, h2 = zH n I2 L c ∧ zCy (t_c b1) (q_k (q_c b1) 7 l1) I2 ∧ zFr1 89 9 I I2) := by
  have hl1 := hB.2.2.2.2.2
  refine aw_Met.of okX11_readsCarters (Nat.le_of_ble_eq_true rfl) ?_
  show aw_W G mX11_readsCarters 0 [.ref 81, aw_x, aw_x, aw_x, aw_x, aw_x] [] (zH n I L c) (0, 0) _
  refine aw_aload_n dX11_readsCarters_0 rfl ?_
  refine aw_iconst (v := 0) dX11_readsCarters_1 rfl ?_
  refine aw_putI dX11_readsCarters_2 f11_133 rfl ⟨Nat.le_of_ble_eq_true rfl, Nat.le_of_ble_eq_true rfl⟩ (Or.inl rfl) rfl ?_
  refine aw_aload_n dX11_readsCarters_5 rfl ?_
  refine aw_getR dX11_readsCarters_6 f11_25 rfl ⟨Nat.le_of_ble_eq_true rfl, Nat.le_of_ble_eq_true rfl⟩ rfl rfl ?_
  refine aw_iconst (v := 1) dX11_readsCarters_9 rfl ?_
  refine aw_iald_n (j := 1) dX11_readsCarters_10 rfl (Nat.le_of_ble_eq_true rfl) (by decide) (by omega) ?_
  refine aw_top ((congrFun (aw_u_ne (show 87 ≠ 81 by decide)) 1).trans hB.2.2.2.1) ?_
  refine aw_istore_n (ls2 := [_, _, _, _, _, _]) dX11_readsCarters_11 (by decide) rfl rfl ?_
  refine aw_iconst (v := 0) dX11_readsCarters_12 rfl ?_
  refine aw_istore_n (ls2 := [_, _, _, _, _, _]) dX11_readsCarters_13 (by decide) rfl rfl ?_
  obtain ⟨I1, hI1⟩ : ∃ I1, I1 = aw_u I 81 9 0 := ⟨_, rfl⟩
  rw [← hI1]
  obtain ⟨I0, hI0⟩ : ∃ I0, I0 = I := ⟨_, rfl⟩
  rw [← hI0] at hB ⊢
  refine aw_up (X := fun i => ∀ I, (∀ j, j < i → j % 7 < 3 → I 89 (5 * (j / 7) + j % 7) = nI (s_c b1 j)) ∧ (∀ j, j < i → j % 7 = 3 → i ≤ j + 1 → I 89 (5 * (j / 7) + 3) = nI (10 * s_c b1 j)) ∧ (∀ j, j < i → j % 7 = 4 → I 89 (5 * (j / 7) + 3) = nI (10 * s_c b1 (j - 1) + s_c b1 j)) ∧ (∀ j, j < i → j % 7 = 5 → I 89 (5 * (j / 7) + 4) = nI (s_c b1 j)) ∧ I 81 9 = nI ((i + 1) / 7) ∧ zFr1 89 9 I0 I ∧ q_b (q_c b1) i = 0 → aw_W G mX11_readsCarters 14 [.ref 81, .int (nI l1), .int (nI i), aw_x, aw_x, aw_x] [] (zH n I L c) (0, 0) _) (Nat.zero_le l1) (fun I hh => ?_) (fun i _ hi ih I hh => ?_) I1 ⟨fun j hj => absurd hj (by omega), fun j hj => absurd hj (by omega), fun j hj => absurd hj (by omega), fun j hj => absurd hj (by omega), by rw [hI1, aw_u_eq]; rfl, by rw [hI1, hI0]; exact zFr1.f ⟨fun _ _ _ => rfl, fun _ _ => rfl⟩, rfl⟩
  · obtain ⟨hv, hv3, hv4, hv5, hk, hF, hg⟩ := hh
    refine aw_iload_n dX11_readsCarters_14 rfl ?_
    refine aw_iload_n dX11_readsCarters_15 rfl ?_
    refine aw_ic_ge_n (a := l1) (b := l1) (tgt := 156) dX11_readsCarters_16 (by decide) (by omega) (by omega) (fun c16 => ?_) (fun z => absurd z (by omega))
    refine aw_iload_n dX11_readsCarters_156 rfl ?_
    refine aw_if_le_n (a := l1) (tgt := 176) dX11_readsCarters_157 (by decide) (by omega) (fun c157 => ?_) (fun c157 => ?_)
    · refine aw_iconst (v := -1) dX11_readsCarters_176 rfl ?_
      refine aw_reti dX11_readsCarters_177 rfl rfl ⟨Nat.le_of_ble_eq_true rfl, Nat.le_of_ble_eq_true rfl⟩ ?_
      refine ⟨?_, _, rfl, ⟨?_, fun w j hw hj => ?_⟩, hF⟩
      · rw [q_f, hg, if_neg (by decide), if_pos (by omega)]; rfl
      · rw [hk, q_k, hg, if_neg (by decide)]
        by_cases hl : l1 % 7 = 7 - 1
        · rw [if_pos hl]; congr 1; omega
        · rw [if_neg hl]; congr 1; omega
      · have h5 := q_k_lt (j := 5) hw (by decide)
        unfold t_c
        by_cases h3 : j < 3
        · rw [if_pos h3, ← s_c_v (by omega)]
          have h2 := hv (w * 7 + j) (by omega) (by omega)
          rw [show 5 * ((w * 7 + j) / 7) + (w * 7 + j) % 7 = 5 * w + j by omega] at h2
          exact h2
        · rw [if_neg h3]
          by_cases h4 : j = 3
          · subst h4
            rw [if_pos rfl, ← s_c_v (j := 3) (by omega), ← s_c_v (j := 4) (by omega)]
            have h2 := hv4 (w * 7 + 4) (by omega) (by omega)
            rw [show 5 * ((w * 7 + 4) / 7) + 3 = 5 * w + 3 by omega] at h2
            exact h2
          · rw [if_neg h4, show j = 4 by omega, ← s_c_v (j := 5) (by omega)]
            have h2 := hv5 (w * 7 + 5) (by omega) (by omega)
            rw [show 5 * ((w * 7 + 5) / 7) + 4 = 5 * w + 4 by omega] at h2
            exact h2
    · refine aw_iload_n dX11_readsCarters_160 rfl ?_
      refine aw_bipush (v := 7) dX11_readsCarters_161 (by decide) ?_
      refine aw_irem_n (a := l1) (b := 7) dX11_readsCarters_163 (by omega) (by omega) (by omega) ?_
      refine aw_bipush (v := 6) dX11_readsCarters_164 (by decide) ?_
      refine aw_ic_eq_n (a := l1 % 7) (b := 6) (tgt := 176) dX11_readsCarters_166 (by decide) (by omega) (by omega) (fun c166 => ?_) (fun c166 => ?_)
      · refine aw_iconst (v := -1) dX11_readsCarters_176 rfl ?_
        refine aw_reti dX11_readsCarters_177 rfl rfl ⟨Nat.le_of_ble_eq_true rfl, Nat.le_of_ble_eq_true rfl⟩ ?_
        refine ⟨?_, _, rfl, ⟨?_, fun w j hw hj => ?_⟩, hF⟩
        · rw [q_f, hg, if_neg (by decide), if_pos (by omega)]; rfl
        · rw [hk, q_k, hg, if_neg (by decide)]
          by_cases hl : l1 % 7 = 7 - 1
          · rw [if_pos hl]; congr 1; omega
          · rw [if_neg hl]; congr 1; omega
        · have h5 := q_k_lt (j := 5) hw (by decide)
          unfold t_c
          by_cases h3 : j < 3
          · rw [if_pos h3, ← s_c_v (by omega)]
            have h2 := hv (w * 7 + j) (by omega) (by omega)
            rw [show 5 * ((w * 7 + j) / 7) + (w * 7 + j) % 7 = 5 * w + j by omega] at h2
            exact h2
          · rw [if_neg h3]
            by_cases h4 : j = 3
            · subst h4
              rw [if_pos rfl, ← s_c_v (j := 3) (by omega), ← s_c_v (j := 4) (by omega)]
              have h2 := hv4 (w * 7 + 4) (by omega) (by omega)
              rw [show 5 * ((w * 7 + 4) / 7) + 3 = 5 * w + 3 by omega] at h2
              exact h2
            · rw [if_neg h4, show j = 4 by omega, ← s_c_v (j := 5) (by omega)]
              have h2 := hv5 (w * 7 + 5) (by omega) (by omega)
              rw [show 5 * ((w * 7 + 5) / 7) + 4 = 5 * w + 4 by omega] at h2
              exact h2
      · refine aw_aload_n dX11_readsCarters_169 rfl ?_
        refine aw_iconst (v := 0) dX11_readsCarters_170 rfl ?_
        refine aw_putI dX11_readsCarters_171 f11_133 rfl ⟨Nat.le_of_ble_eq_true rfl, Nat.le_of_ble_eq_true rfl⟩ (Or.inl rfl) rfl ?_
        refine aw_iload_n dX11_readsCarters_174 rfl ?_
        refine aw_reti dX11_readsCarters_175 rfl rfl ⟨Nat.le_of_ble_eq_true rfl, Nat.le_of_ble_eq_true rfl⟩ ?_
        refine ⟨?_, _, rfl, ⟨?_, fun w j hw => ?_⟩, hF.f⟩
        · rw [q_f, hg, if_neg (by decide), if_neg (by omega), nI_pred]
        · rw [aw_u_eq, q_k, hg, if_neg (by decide), if_neg (by omega)]; rfl
        · rw [q_k, hg, if_neg (by decide), if_neg (by omega)] at hw; omega
  · obtain ⟨hv, hv3, hv4, hv5, hk, hF, hg⟩ := hh
    have hb := (hB.2.1 i (by omega)).2
    have hcs : i % 7 = 0 ∨ i % 7 = 1 ∨ i % 7 = 2 ∨ i % 7 = 3 ∨ i % 7 = 4 ∨ i % 7 = 5 ∨ i % 7 = 6 := by omega
    rcases hcs with hc | hc | hc | hc | hc | hc | hc
    · cases hq : q_c b1 i with
      | true =>
        have hsb : s_c b1 i < 100000 := by
          unfold s_c; repeat' split
          all_goals omega
        refine aw_iload_n dX11_readsCarters_14 rfl ?_
        refine aw_iload_n dX11_readsCarters_15 rfl ?_
        refine aw_ic_ge_n (a := i) (b := l1) (tgt := 156) dX11_readsCarters_16 (by decide) (by omega) (by omega) (fun z => absurd z (by omega)) (fun c16 => ?_)
        refine aw_iload_n dX11_readsCarters_19 rfl ?_
        refine aw_bipush (v := 7) dX11_readsCarters_20 (by decide) ?_
        refine aw_irem_n (a := i) (b := 7) dX11_readsCarters_22 (by omega) (by omega) (by omega) ?_
        refine aw_top (show nI (i % 7) = 0 by rw [hc]; rfl) ?_
        refine aw_istore_n (ls2 := [_, _, _, _, _, _]) dX11_readsCarters_23 (by decide) rfl rfl ?_
        refine aw_iload_n dX11_readsCarters_24 rfl ?_
        refine aw_aload_n dX11_readsCarters_25 rfl ?_
        refine aw_getR dX11_readsCarters_26 f11_22 rfl ⟨Nat.le_of_ble_eq_true rfl, Nat.le_of_ble_eq_true rfl⟩ rfl rfl ?_
        refine aw_bipush (v := 56) dX11_readsCarters_29 (by decide) ?_
        refine aw_iload_n dX11_readsCarters_31 rfl ?_
        refine aw_iadd_n (a := 56) (b := i) dX11_readsCarters_32 ?_
        refine aw_iald_n (j := 56 + i) dX11_readsCarters_33 rfl (Nat.le_of_ble_eq_true rfl) (by decide) (by omega) ?_
        refine aw_top ((congrFun (hF.1 86 (by decide) (by decide)) _).trans (hB.2.1 i (by omega)).1) ?_
        refine aw_S0c (As := [_, _]) dX11_readsCarters_34 k11_136 rfl rfl (Nat.le_of_ble_eq_true rfl) ⟨⟨Nat.le_of_ble_eq_true rfl, Nat.le_of_ble_eq_true rfl⟩, ⟨Nat.le_of_ble_eq_true rfl, Nat.le_of_ble_eq_true rfl⟩⟩ ⟨rfl, rfl⟩ (w_carterOf0Y G hb hc hq) (fun v h2 hq => ?_)
        obtain ⟨rfl, rfl⟩ := hq
        refine aw_istore (ls2 := [_, _, _, _, _, _]) dX11_readsCarters_37 (by decide) rfl rfl ?_
        refine aw_iload dX11_readsCarters_39 rfl ?_
        refine aw_bipush (v := -9) dX11_readsCarters_41 (by decide) ?_
        refine aw_ic_ne (tgt := 53) dX11_readsCarters_43 (by decide) (fun c43 => ?_) (fun z => absurd z (zm9 hsb))
        refine aw_iconst (v := 5) dX11_readsCarters_53 rfl ?_
        refine aw_iload_n dX11_readsCarters_54 rfl ?_
        refine aw_bipush (v := 7) dX11_readsCarters_55 (by decide) ?_
        refine aw_idiv_n (a := i) (b := 7) dX11_readsCarters_57 (by omega) (by omega) (by omega) ?_
        refine aw_imul_n (a := 5) (b := i / 7) dX11_readsCarters_58 ?_
        refine aw_istore (ls2 := [_, _, _, _, _, _]) dX11_readsCarters_59 (by decide) rfl rfl ?_
        refine aw_iload_n dX11_readsCarters_61 rfl ?_
        refine aw_iconst (v := 3) dX11_readsCarters_62 rfl ?_
        refine aw_ic_ge (tgt := 80) dX11_readsCarters_63 (by decide) (fun z => absurd z (by decide)) (fun _ => ?_)
        refine aw_aload_n dX11_readsCarters_66 rfl ?_
        refine aw_getR dX11_readsCarters_67 f11_31 rfl ⟨Nat.le_of_ble_eq_true rfl, Nat.le_of_ble_eq_true rfl⟩ rfl rfl ?_
        refine aw_iload dX11_readsCarters_70 rfl ?_
        refine aw_iload_n dX11_readsCarters_72 rfl ?_
        refine aw_iadd_n (a := 5 * (i / 7)) (b := 0) dX11_readsCarters_73 ?_
        refine aw_iload dX11_readsCarters_74 rfl ?_
        refine aw_iast_n (j := (5 * (i / 7)) + 0) dX11_readsCarters_76 rfl ⟨Nat.le_of_ble_eq_true rfl, Nat.le_of_ble_eq_true rfl⟩ (by decide) (by omega) ?_
        refine aw_goto (tgt := 150) dX11_readsCarters_77 (by decide) ?_
        refine aw_iinc_n (ls2 := [_, _, _, _, _, _]) dX11_readsCarters_150 rfl (by decide) rfl rfl ?_
        refine aw_goto (tgt := 14) dX11_readsCarters_153 (by decide) ?_
        refine aw_kill (j := 3) (ls2 := [_, _, _, aw_x, _, _]) rfl (aw_kill (j := 4) (ls2 := [_, _, _, _, aw_x, _]) rfl (aw_kill (j := 5) (ls2 := [_, _, _, _, _, aw_x]) rfl (ih _ ⟨fun j hj hj5 => ?_, fun j hj hj5 hlj => ?_, fun j hj hj5 => ?_, fun j hj hj5 => ?_, ?_, ?_, ?_⟩)))
        · by_cases hji : j = i
          · subst hji
            rw [hc, aw_u_eq]
          · rw [aw_u_nj (by omega)]; exact hv j (by omega) hj5
        · exfalso; omega
        · rw [aw_u_nj (by omega)]; exact hv4 j (by omega) hj5
        · rw [aw_u_nj (by omega)]; exact hv5 j (by omega) hj5
        · rw [aw_u_ne (by decide), hk, show (i + 1 + 1) / 7 = (i + 1) / 7 by omega]
        · exact hF.r (by decide)
        · rw [q_b_S hg, if_pos hq]
      | false =>
        refine aw_iload_n dX11_readsCarters_14 rfl ?_
        refine aw_iload_n dX11_readsCarters_15 rfl ?_
        refine aw_ic_ge_n (a := i) (b := l1) (tgt := 156) dX11_readsCarters_16 (by decide) (by omega) (by omega) (fun z => absurd z (by omega)) (fun c16 => ?_)
        refine aw_iload_n dX11_readsCarters_19 rfl ?_
        refine aw_bipush (v := 7) dX11_readsCarters_20 (by decide) ?_
        refine aw_irem_n (a := i) (b := 7) dX11_readsCarters_22 (by omega) (by omega) (by omega) ?_
        refine aw_top (show nI (i % 7) = 0 by rw [hc]; rfl) ?_
        refine aw_istore_n (ls2 := [_, _, _, _, _, _]) dX11_readsCarters_23 (by decide) rfl rfl ?_
        refine aw_iload_n dX11_readsCarters_24 rfl ?_
        refine aw_aload_n dX11_readsCarters_25 rfl ?_
        refine aw_getR dX11_readsCarters_26 f11_22 rfl ⟨Nat.le_of_ble_eq_true rfl, Nat.le_of_ble_eq_true rfl⟩ rfl rfl ?_
        refine aw_bipush (v := 56) dX11_readsCarters_29 (by decide) ?_
        refine aw_iload_n dX11_readsCarters_31 rfl ?_
        refine aw_iadd_n (a := 56) (b := i) dX11_readsCarters_32 ?_
        refine aw_iald_n (j := 56 + i) dX11_readsCarters_33 rfl (Nat.le_of_ble_eq_true rfl) (by decide) (by omega) ?_
        refine aw_top ((congrFun (hF.1 86 (by decide) (by decide)) _).trans (hB.2.1 i (by omega)).1) ?_
        refine aw_S0c (As := [_, _]) dX11_readsCarters_34 k11_136 rfl rfl (Nat.le_of_ble_eq_true rfl) ⟨⟨Nat.le_of_ble_eq_true rfl, Nat.le_of_ble_eq_true rfl⟩, ⟨Nat.le_of_ble_eq_true rfl, Nat.le_of_ble_eq_true rfl⟩⟩ ⟨rfl, rfl⟩ (w_carterOf0N G hb hc hq) (fun v h2 hq => ?_)
        obtain ⟨rfl, rfl⟩ := hq
        refine aw_istore (ls2 := [_, _, _, _, _, _]) dX11_readsCarters_37 (by decide) rfl rfl ?_
        refine aw_iload dX11_readsCarters_39 rfl ?_
        refine aw_bipush (v := -9) dX11_readsCarters_41 (by decide) ?_
        refine aw_ic_ne (tgt := 53) dX11_readsCarters_43 (by decide) (fun z => absurd (by decide) z) (fun _ => ?_)
        refine aw_aload_n dX11_readsCarters_46 rfl ?_
        refine aw_iconst (v := 0) dX11_readsCarters_47 rfl ?_
        refine aw_putI dX11_readsCarters_48 f11_133 rfl ⟨Nat.le_of_ble_eq_true rfl, Nat.le_of_ble_eq_true rfl⟩ (Or.inl rfl) rfl ?_
        refine aw_iload_n dX11_readsCarters_51 rfl ?_
        refine aw_reti dX11_readsCarters_52 rfl rfl ⟨Nat.le_of_ble_eq_true rfl, Nat.le_of_ble_eq_true rfl⟩ ?_
        have e : q_b (q_c b1) (i + 1) = i + 1 := by rw [q_b_S hg, if_neg (by rw [hq]; decide)]
        have e2 : q_b (q_c b1) l1 = i + 1 := by
          have := q_b_stop (q := q_c b1) (i := i + 1) (by rw [e]; omega) (l1 - (i + 1))
          rw [show i + 1 + (l1 - (i + 1)) = l1 by omega, e] at this
          exact this
        refine ⟨?_, _, rfl, ⟨?_, fun w j hw => ?_⟩, hF.f⟩
        · rw [q_f, e2, if_pos (by omega), nI_pred]
        · rw [aw_u_eq, q_k, e2, if_pos (by omega)]; rfl
        · rw [q_k, e2, if_pos (by omega)] at hw; omega
    · cases hq : q_c b1 i with
      | true =>
        have hsb : s_c b1 i < 100000 := by
          unfold s_c; repeat' split
          all_goals omega
        refine aw_iload_n dX11_readsCarters_14 rfl ?_
        refine aw_iload_n dX11_readsCarters_15 rfl ?_
        refine aw_ic_ge_n (a := i) (b := l1) (tgt := 156) dX11_readsCarters_16 (by decide) (by omega) (by omega) (fun z => absurd z (by omega)) (fun c16 => ?_)
        refine aw_iload_n dX11_readsCarters_19 rfl ?_
        refine aw_bipush (v := 7) dX11_readsCarters_20 (by decide) ?_
        refine aw_irem_n (a := i) (b := 7) dX11_readsCarters_22 (by omega) (by omega) (by omega) ?_
        refine aw_top (show nI (i % 7) = 1 by rw [hc]; rfl) ?_
        refine aw_istore_n (ls2 := [_, _, _, _, _, _]) dX11_readsCarters_23 (by decide) rfl rfl ?_
        refine aw_iload_n dX11_readsCarters_24 rfl ?_
        refine aw_aload_n dX11_readsCarters_25 rfl ?_
        refine aw_getR dX11_readsCarters_26 f11_22 rfl ⟨Nat.le_of_ble_eq_true rfl, Nat.le_of_ble_eq_true rfl⟩ rfl rfl ?_
        refine aw_bipush (v := 56) dX11_readsCarters_29 (by decide) ?_
        refine aw_iload_n dX11_readsCarters_31 rfl ?_
        refine aw_iadd_n (a := 56) (b := i) dX11_readsCarters_32 ?_
        refine aw_iald_n (j := 56 + i) dX11_readsCarters_33 rfl (Nat.le_of_ble_eq_true rfl) (by decide) (by omega) ?_
        refine aw_top ((congrFun (hF.1 86 (by decide) (by decide)) _).trans (hB.2.1 i (by omega)).1) ?_
        refine aw_S0c (As := [_, _]) dX11_readsCarters_34 k11_136 rfl rfl (Nat.le_of_ble_eq_true rfl) ⟨⟨Nat.le_of_ble_eq_true rfl, Nat.le_of_ble_eq_true rfl⟩, ⟨Nat.le_of_ble_eq_true rfl, Nat.le_of_ble_eq_true rfl⟩⟩ ⟨rfl, rfl⟩ (w_carterOf1Y G hb hc hq) (fun v h2 hq => ?_)
        obtain ⟨rfl, rfl⟩ := hq
        refine aw_istore (ls2 := [_, _, _, _, _, _]) dX11_readsCarters_37 (by decide) rfl rfl ?_
        refine aw_iload dX11_readsCarters_39 rfl ?_
        refine aw_bipush (v := -9) dX11_readsCarters_41 (by decide) ?_
        refine aw_ic_ne (tgt := 53) dX11_readsCarters_43 (by decide) (fun c43 => ?_) (fun z => absurd z (zm9 hsb))
        refine aw_iconst (v := 5) dX11_readsCarters_53 rfl ?_
        refine aw_iload_n dX11_readsCarters_54 rfl ?_
        refine aw_bipush (v := 7) dX11_readsCarters_55 (by decide) ?_
        refine aw_idiv_n (a := i) (b := 7) dX11_readsCarters_57 (by omega) (by omega) (by omega) ?_
        refine aw_imul_n (a := 5) (b := i / 7) dX11_readsCarters_58 ?_
        refine aw_istore (ls2 := [_, _, _, _, _, _]) dX11_readsCarters_59 (by decide) rfl rfl ?_
        refine aw_iload_n dX11_readsCarters_61 rfl ?_
        refine aw_iconst (v := 3) dX11_readsCarters_62 rfl ?_
        refine aw_ic_ge (tgt := 80) dX11_readsCarters_63 (by decide) (fun z => absurd z (by decide)) (fun _ => ?_)
        refine aw_aload_n dX11_readsCarters_66 rfl ?_
        refine aw_getR dX11_readsCarters_67 f11_31 rfl ⟨Nat.le_of_ble_eq_true rfl, Nat.le_of_ble_eq_true rfl⟩ rfl rfl ?_
        refine aw_iload dX11_readsCarters_70 rfl ?_
        refine aw_iload_n dX11_readsCarters_72 rfl ?_
        refine aw_iadd_n (a := 5 * (i / 7)) (b := 1) dX11_readsCarters_73 ?_
        refine aw_iload dX11_readsCarters_74 rfl ?_
        refine aw_iast_n (j := (5 * (i / 7)) + 1) dX11_readsCarters_76 rfl ⟨Nat.le_of_ble_eq_true rfl, Nat.le_of_ble_eq_true rfl⟩ (by decide) (by omega) ?_
        refine aw_goto (tgt := 150) dX11_readsCarters_77 (by decide) ?_
        refine aw_iinc_n (ls2 := [_, _, _, _, _, _]) dX11_readsCarters_150 rfl (by decide) rfl rfl ?_
        refine aw_goto (tgt := 14) dX11_readsCarters_153 (by decide) ?_
        refine aw_kill (j := 3) (ls2 := [_, _, _, aw_x, _, _]) rfl (aw_kill (j := 4) (ls2 := [_, _, _, _, aw_x, _]) rfl (aw_kill (j := 5) (ls2 := [_, _, _, _, _, aw_x]) rfl (ih _ ⟨fun j hj hj5 => ?_, fun j hj hj5 hlj => ?_, fun j hj hj5 => ?_, fun j hj hj5 => ?_, ?_, ?_, ?_⟩)))
        · by_cases hji : j = i
          · subst hji
            rw [hc, aw_u_eq]
          · rw [aw_u_nj (by omega)]; exact hv j (by omega) hj5
        · exfalso; omega
        · rw [aw_u_nj (by omega)]; exact hv4 j (by omega) hj5
        · rw [aw_u_nj (by omega)]; exact hv5 j (by omega) hj5
        · rw [aw_u_ne (by decide), hk, show (i + 1 + 1) / 7 = (i + 1) / 7 by omega]
        · exact hF.r (by decide)
        · rw [q_b_S hg, if_pos hq]
      | false =>
        refine aw_iload_n dX11_readsCarters_14 rfl ?_
        refine aw_iload_n dX11_readsCarters_15 rfl ?_
        refine aw_ic_ge_n (a := i) (b := l1) (tgt := 156) dX11_readsCarters_16 (by decide) (by omega) (by omega) (fun z => absurd z (by omega)) (fun c16 => ?_)
        refine aw_iload_n dX11_readsCarters_19 rfl ?_
        refine aw_bipush (v := 7) dX11_readsCarters_20 (by decide) ?_
        refine aw_irem_n (a := i) (b := 7) dX11_readsCarters_22 (by omega) (by omega) (by omega) ?_
        refine aw_top (show nI (i % 7) = 1 by rw [hc]; rfl) ?_
        refine aw_istore_n (ls2 := [_, _, _, _, _, _]) dX11_readsCarters_23 (by decide) rfl rfl ?_
        refine aw_iload_n dX11_readsCarters_24 rfl ?_
        refine aw_aload_n dX11_readsCarters_25 rfl ?_
        refine aw_getR dX11_readsCarters_26 f11_22 rfl ⟨Nat.le_of_ble_eq_true rfl, Nat.le_of_ble_eq_true rfl⟩ rfl rfl ?_
        refine aw_bipush (v := 56) dX11_readsCarters_29 (by decide) ?_
        refine aw_iload_n dX11_readsCarters_31 rfl ?_
        refine aw_iadd_n (a := 56) (b := i) dX11_readsCarters_32 ?_
        refine aw_iald_n (j := 56 + i) dX11_readsCarters_33 rfl (Nat.le_of_ble_eq_true rfl) (by decide) (by omega) ?_
        refine aw_top ((congrFun (hF.1 86 (by decide) (by decide)) _).trans (hB.2.1 i (by omega)).1) ?_
        refine aw_S0c (As := [_, _]) dX11_readsCarters_34 k11_136 rfl rfl (Nat.le_of_ble_eq_true rfl) ⟨⟨Nat.le_of_ble_eq_true rfl, Nat.le_of_ble_eq_true rfl⟩, ⟨Nat.le_of_ble_eq_true rfl, Nat.le_of_ble_eq_true rfl⟩⟩ ⟨rfl, rfl⟩ (w_carterOf1N G hb hc hq) (fun v h2 hq => ?_)
        obtain ⟨rfl, rfl⟩ := hq
        refine aw_istore (ls2 := [_, _, _, _, _, _]) dX11_readsCarters_37 (by decide) rfl rfl ?_
        refine aw_iload dX11_readsCarters_39 rfl ?_
        refine aw_bipush (v := -9) dX11_readsCarters_41 (by decide) ?_
        refine aw_ic_ne (tgt := 53) dX11_readsCarters_43 (by decide) (fun z => absurd (by decide) z) (fun _ => ?_)
        refine aw_aload_n dX11_readsCarters_46 rfl ?_
        refine aw_iconst (v := 0) dX11_readsCarters_47 rfl ?_
        refine aw_putI dX11_readsCarters_48 f11_133 rfl ⟨Nat.le_of_ble_eq_true rfl, Nat.le_of_ble_eq_true rfl⟩ (Or.inl rfl) rfl ?_
        refine aw_iload_n dX11_readsCarters_51 rfl ?_
        refine aw_reti dX11_readsCarters_52 rfl rfl ⟨Nat.le_of_ble_eq_true rfl, Nat.le_of_ble_eq_true rfl⟩ ?_
        have e : q_b (q_c b1) (i + 1) = i + 1 := by rw [q_b_S hg, if_neg (by rw [hq]; decide)]
        have e2 : q_b (q_c b1) l1 = i + 1 := by
          have := q_b_stop (q := q_c b1) (i := i + 1) (by rw [e]; omega) (l1 - (i + 1))
          rw [show i + 1 + (l1 - (i + 1)) = l1 by omega, e] at this
          exact this
        refine ⟨?_, _, rfl, ⟨?_, fun w j hw => ?_⟩, hF.f⟩
        · rw [q_f, e2, if_pos (by omega), nI_pred]
        · rw [aw_u_eq, q_k, e2, if_pos (by omega)]; rfl
        · rw [q_k, e2, if_pos (by omega)] at hw; omega
    · cases hq : q_c b1 i with
      | true =>
        have hsb : s_c b1 i < 100000 := by
          unfold s_c; repeat' split
          all_goals omega
        refine aw_iload_n dX11_readsCarters_14 rfl ?_
        refine aw_iload_n dX11_readsCarters_15 rfl ?_
        refine aw_ic_ge_n (a := i) (b := l1) (tgt := 156) dX11_readsCarters_16 (by decide) (by omega) (by omega) (fun z => absurd z (by omega)) (fun c16 => ?_)
        refine aw_iload_n dX11_readsCarters_19 rfl ?_
        refine aw_bipush (v := 7) dX11_readsCarters_20 (by decide) ?_
        refine aw_irem_n (a := i) (b := 7) dX11_readsCarters_22 (by omega) (by omega) (by omega) ?_
        refine aw_top (show nI (i % 7) = 2 by rw [hc]; rfl) ?_
        refine aw_istore_n (ls2 := [_, _, _, _, _, _]) dX11_readsCarters_23 (by decide) rfl rfl ?_
        refine aw_iload_n dX11_readsCarters_24 rfl ?_
        refine aw_aload_n dX11_readsCarters_25 rfl ?_
        refine aw_getR dX11_readsCarters_26 f11_22 rfl ⟨Nat.le_of_ble_eq_true rfl, Nat.le_of_ble_eq_true rfl⟩ rfl rfl ?_
        refine aw_bipush (v := 56) dX11_readsCarters_29 (by decide) ?_
        refine aw_iload_n dX11_readsCarters_31 rfl ?_
        refine aw_iadd_n (a := 56) (b := i) dX11_readsCarters_32 ?_
        refine aw_iald_n (j := 56 + i) dX11_readsCarters_33 rfl (Nat.le_of_ble_eq_true rfl) (by decide) (by omega) ?_
        refine aw_top ((congrFun (hF.1 86 (by decide) (by decide)) _).trans (hB.2.1 i (by omega)).1) ?_
        refine aw_S0c (As := [_, _]) dX11_readsCarters_34 k11_136 rfl rfl (Nat.le_of_ble_eq_true rfl) ⟨⟨Nat.le_of_ble_eq_true rfl, Nat.le_of_ble_eq_true rfl⟩, ⟨Nat.le_of_ble_eq_true rfl, Nat.le_of_ble_eq_true rfl⟩⟩ ⟨rfl, rfl⟩ (w_carterOf2Y G hb hc hq) (fun v h2 hq => ?_)
        obtain ⟨rfl, rfl⟩ := hq
        refine aw_istore (ls2 := [_, _, _, _, _, _]) dX11_readsCarters_37 (by decide) rfl rfl ?_
        refine aw_iload dX11_readsCarters_39 rfl ?_
        refine aw_bipush (v := -9) dX11_readsCarters_41 (by decide) ?_
        refine aw_ic_ne (tgt := 53) dX11_readsCarters_43 (by decide) (fun c43 => ?_) (fun z => absurd z (zm9 hsb))
        refine aw_iconst (v := 5) dX11_readsCarters_53 rfl ?_
        refine aw_iload_n dX11_readsCarters_54 rfl ?_
        refine aw_bipush (v := 7) dX11_readsCarters_55 (by decide) ?_
        refine aw_idiv_n (a := i) (b := 7) dX11_readsCarters_57 (by omega) (by omega) (by omega) ?_
        refine aw_imul_n (a := 5) (b := i / 7) dX11_readsCarters_58 ?_
        refine aw_istore (ls2 := [_, _, _, _, _, _]) dX11_readsCarters_59 (by decide) rfl rfl ?_
        refine aw_iload_n dX11_readsCarters_61 rfl ?_
        refine aw_iconst (v := 3) dX11_readsCarters_62 rfl ?_
        refine aw_ic_ge (tgt := 80) dX11_readsCarters_63 (by decide) (fun z => absurd z (by decide)) (fun _ => ?_)
        refine aw_aload_n dX11_readsCarters_66 rfl ?_
        refine aw_getR dX11_readsCarters_67 f11_31 rfl ⟨Nat.le_of_ble_eq_true rfl, Nat.le_of_ble_eq_true rfl⟩ rfl rfl ?_
        refine aw_iload dX11_readsCarters_70 rfl ?_
        refine aw_iload_n dX11_readsCarters_72 rfl ?_
        refine aw_iadd_n (a := 5 * (i / 7)) (b := 2) dX11_readsCarters_73 ?_
        refine aw_iload dX11_readsCarters_74 rfl ?_
        refine aw_iast_n (j := (5 * (i / 7)) + 2) dX11_readsCarters_76 rfl ⟨Nat.le_of_ble_eq_true rfl, Nat.le_of_ble_eq_true rfl⟩ (by decide) (by omega) ?_
        refine aw_goto (tgt := 150) dX11_readsCarters_77 (by decide) ?_
        refine aw_iinc_n (ls2 := [_, _, _, _, _, _]) dX11_readsCarters_150 rfl (by decide) rfl rfl ?_
        refine aw_goto (tgt := 14) dX11_readsCarters_153 (by decide) ?_
        refine aw_kill (j := 3) (ls2 := [_, _, _, aw_x, _, _]) rfl (aw_kill (j := 4) (ls2 := [_, _, _, _, aw_x, _]) rfl (aw_kill (j := 5) (ls2 := [_, _, _, _, _, aw_x]) rfl (ih _ ⟨fun j hj hj5 => ?_, fun j hj hj5 hlj => ?_, fun j hj hj5 => ?_, fun j hj hj5 => ?_, ?_, ?_, ?_⟩)))
        · by_cases hji : j = i
          · subst hji
            rw [hc, aw_u_eq]
          · rw [aw_u_nj (by omega)]; exact hv j (by omega) hj5
        · exfalso; omega
        · rw [aw_u_nj (by omega)]; exact hv4 j (by omega) hj5
        · rw [aw_u_nj (by omega)]; exact hv5 j (by omega) hj5
        · rw [aw_u_ne (by decide), hk, show (i + 1 + 1) / 7 = (i + 1) / 7 by omega]
        · exact hF.r (by decide)
        · rw [q_b_S hg, if_pos hq]
      | false =>
        refine aw_iload_n dX11_readsCarters_14 rfl ?_
        refine aw_iload_n dX11_readsCarters_15 rfl ?_
        refine aw_ic_ge_n (a := i) (b := l1) (tgt := 156) dX11_readsCarters_16 (by decide) (by omega) (by omega) (fun z => absurd z (by omega)) (fun c16 => ?_)
        refine aw_iload_n dX11_readsCarters_19 rfl ?_
        refine aw_bipush (v := 7) dX11_readsCarters_20 (by decide) ?_
        refine aw_irem_n (a := i) (b := 7) dX11_readsCarters_22 (by omega) (by omega) (by omega) ?_
        refine aw_top (show nI (i % 7) = 2 by rw [hc]; rfl) ?_
        refine aw_istore_n (ls2 := [_, _, _, _, _, _]) dX11_readsCarters_23 (by decide) rfl rfl ?_
        refine aw_iload_n dX11_readsCarters_24 rfl ?_
        refine aw_aload_n dX11_readsCarters_25 rfl ?_
        refine aw_getR dX11_readsCarters_26 f11_22 rfl ⟨Nat.le_of_ble_eq_true rfl, Nat.le_of_ble_eq_true rfl⟩ rfl rfl ?_
        refine aw_bipush (v := 56) dX11_readsCarters_29 (by decide) ?_
        refine aw_iload_n dX11_readsCarters_31 rfl ?_
        refine aw_iadd_n (a := 56) (b := i) dX11_readsCarters_32 ?_
        refine aw_iald_n (j := 56 + i) dX11_readsCarters_33 rfl (Nat.le_of_ble_eq_true rfl) (by decide) (by omega) ?_
        refine aw_top ((congrFun (hF.1 86 (by decide) (by decide)) _).trans (hB.2.1 i (by omega)).1) ?_
        refine aw_S0c (As := [_, _]) dX11_readsCarters_34 k11_136 rfl rfl (Nat.le_of_ble_eq_true rfl) ⟨⟨Nat.le_of_ble_eq_true rfl, Nat.le_of_ble_eq_true rfl⟩, ⟨Nat.le_of_ble_eq_true rfl, Nat.le_of_ble_eq_true rfl⟩⟩ ⟨rfl, rfl⟩ (w_carterOf2N G hb hc hq) (fun v h2 hq => ?_)
        obtain ⟨rfl, rfl⟩ := hq
        refine aw_istore (ls2 := [_, _, _, _, _, _]) dX11_readsCarters_37 (by decide) rfl rfl ?_
        refine aw_iload dX11_readsCarters_39 rfl ?_
        refine aw_bipush (v := -9) dX11_readsCarters_41 (by decide) ?_
        refine aw_ic_ne (tgt := 53) dX11_readsCarters_43 (by decide) (fun z => absurd (by decide) z) (fun _ => ?_)
        refine aw_aload_n dX11_readsCarters_46 rfl ?_
        refine aw_iconst (v := 0) dX11_readsCarters_47 rfl ?_
        refine aw_putI dX11_readsCarters_48 f11_133 rfl ⟨Nat.le_of_ble_eq_true rfl, Nat.le_of_ble_eq_true rfl⟩ (Or.inl rfl) rfl ?_
        refine aw_iload_n dX11_readsCarters_51 rfl ?_
        refine aw_reti dX11_readsCarters_52 rfl rfl ⟨Nat.le_of_ble_eq_true rfl, Nat.le_of_ble_eq_true rfl⟩ ?_
        have e : q_b (q_c b1) (i + 1) = i + 1 := by rw [q_b_S hg, if_neg (by rw [hq]; decide)]
        have e2 : q_b (q_c b1) l1 = i + 1 := by
          have := q_b_stop (q := q_c b1) (i := i + 1) (by rw [e]; omega) (l1 - (i + 1))
          rw [show i + 1 + (l1 - (i + 1)) = l1 by omega, e] at this
          exact this
        refine ⟨?_, _, rfl, ⟨?_, fun w j hw => ?_⟩, hF.f⟩
        · rw [q_f, e2, if_pos (by omega), nI_pred]
        · rw [aw_u_eq, q_k, e2, if_pos (by omega)]; rfl
        · rw [q_k, e2, if_pos (by omega)] at hw; omega
    · cases hq : q_c b1 i with
      | true =>
        have hsb : s_c b1 i < 100000 := by
          unfold s_c; repeat' split
          all_goals omega
        refine aw_iload_n dX11_readsCarters_14 rfl ?_
        refine aw_iload_n dX11_readsCarters_15 rfl ?_
        refine aw_ic_ge_n (a := i) (b := l1) (tgt := 156) dX11_readsCarters_16 (by decide) (by omega) (by omega) (fun z => absurd z (by omega)) (fun c16 => ?_)
        refine aw_iload_n dX11_readsCarters_19 rfl ?_
        refine aw_bipush (v := 7) dX11_readsCarters_20 (by decide) ?_
        refine aw_irem_n (a := i) (b := 7) dX11_readsCarters_22 (by omega) (by omega) (by omega) ?_
        refine aw_top (show nI (i % 7) = 3 by rw [hc]; rfl) ?_
        refine aw_istore_n (ls2 := [_, _, _, _, _, _]) dX11_readsCarters_23 (by decide) rfl rfl ?_
        refine aw_iload_n dX11_readsCarters_24 rfl ?_
        refine aw_aload_n dX11_readsCarters_25 rfl ?_
        refine aw_getR dX11_readsCarters_26 f11_22 rfl ⟨Nat.le_of_ble_eq_true rfl, Nat.le_of_ble_eq_true rfl⟩ rfl rfl ?_
        refine aw_bipush (v := 56) dX11_readsCarters_29 (by decide) ?_
        refine aw_iload_n dX11_readsCarters_31 rfl ?_
        refine aw_iadd_n (a := 56) (b := i) dX11_readsCarters_32 ?_
        refine aw_iald_n (j := 56 + i) dX11_readsCarters_33 rfl (Nat.le_of_ble_eq_true rfl) (by decide) (by omega) ?_
        refine aw_top ((congrFun (hF.1 86 (by decide) (by decide)) _).trans (hB.2.1 i (by omega)).1) ?_
        refine aw_S0c (As := [_, _]) dX11_readsCarters_34 k11_136 rfl rfl (Nat.le_of_ble_eq_true rfl) ⟨⟨Nat.le_of_ble_eq_true rfl, Nat.le_of_ble_eq_true rfl⟩, ⟨Nat.le_of_ble_eq_true rfl, Nat.le_of_ble_eq_true rfl⟩⟩ ⟨rfl, rfl⟩ (w_carterOf3Y G hb hc hq) (fun v h2 hq => ?_)
        obtain ⟨rfl, rfl⟩ := hq
        refine aw_istore (ls2 := [_, _, _, _, _, _]) dX11_readsCarters_37 (by decide) rfl rfl ?_
        refine aw_iload dX11_readsCarters_39 rfl ?_
        refine aw_bipush (v := -9) dX11_readsCarters_41 (by decide) ?_
        refine aw_ic_ne (tgt := 53) dX11_readsCarters_43 (by decide) (fun c43 => ?_) (fun z => absurd z (zm9 hsb))
        refine aw_iconst (v := 5) dX11_readsCarters_53 rfl ?_
        refine aw_iload_n dX11_readsCarters_54 rfl ?_
        refine aw_bipush (v := 7) dX11_readsCarters_55 (by decide) ?_
        refine aw_idiv_n (a := i) (b := 7) dX11_readsCarters_57 (by omega) (by omega) (by omega) ?_
        refine aw_imul_n (a := 5) (b := i / 7) dX11_readsCarters_58 ?_
        refine aw_istore (ls2 := [_, _, _, _, _, _]) dX11_readsCarters_59 (by decide) rfl rfl ?_
        refine aw_iload_n dX11_readsCarters_61 rfl ?_
        refine aw_iconst (v := 3) dX11_readsCarters_62 rfl ?_
        refine aw_ic_ge (tgt := 80) dX11_readsCarters_63 (by decide) (fun _ => ?_) (fun z => absurd (by decide) z)
        refine aw_iload_n dX11_readsCarters_80 rfl ?_
        refine aw_iconst (v := 3) dX11_readsCarters_81 rfl ?_
        refine aw_ic_ne (tgt := 102) dX11_readsCarters_82 (by decide) (fun z => absurd (by decide) z) (fun _ => ?_)
        refine aw_aload_n dX11_readsCarters_85 rfl ?_
        refine aw_getR dX11_readsCarters_86 f11_31 rfl ⟨Nat.le_of_ble_eq_true rfl, Nat.le_of_ble_eq_true rfl⟩ rfl rfl ?_
        refine aw_iload dX11_readsCarters_89 rfl ?_
        refine aw_iconst (v := 3) dX11_readsCarters_91 rfl ?_
        refine aw_iadd_n (a := 5 * (i / 7)) (b := 3) dX11_readsCarters_92 ?_
        refine aw_bipush (v := 10) dX11_readsCarters_93 (by decide) ?_
        refine aw_iload dX11_readsCarters_95 rfl ?_
        refine aw_imul_n (a := 10) (b := s_c b1 i) dX11_readsCarters_97 ?_
        refine aw_iast_n (j := (5 * (i / 7)) + 3) dX11_readsCarters_98 rfl ⟨Nat.le_of_ble_eq_true rfl, Nat.le_of_ble_eq_true rfl⟩ (by decide) (by omega) ?_
        refine aw_goto (tgt := 150) dX11_readsCarters_99 (by decide) ?_
        refine aw_iinc_n (ls2 := [_, _, _, _, _, _]) dX11_readsCarters_150 rfl (by decide) rfl rfl ?_
        refine aw_goto (tgt := 14) dX11_readsCarters_153 (by decide) ?_
        refine aw_kill (j := 3) (ls2 := [_, _, _, aw_x, _, _]) rfl (aw_kill (j := 4) (ls2 := [_, _, _, _, aw_x, _]) rfl (aw_kill (j := 5) (ls2 := [_, _, _, _, _, aw_x]) rfl (ih _ ⟨fun j hj hj5 => ?_, fun j hj hj5 hlj => ?_, fun j hj hj5 => ?_, fun j hj hj5 => ?_, ?_, ?_, ?_⟩)))
        · rw [aw_u_nj (by omega)]; exact hv j (by omega) hj5
        · by_cases hji : j = i
          · subst hji
            rw [aw_u_eq]
          · rw [aw_u_nj (by omega)]; exact hv3 j (by omega) hj5 (by omega)
        · rw [aw_u_nj (by omega)]; exact hv4 j (by omega) hj5
        · rw [aw_u_nj (by omega)]; exact hv5 j (by omega) hj5
        · rw [aw_u_ne (by decide), hk, show (i + 1 + 1) / 7 = (i + 1) / 7 by omega]
        · exact hF.r (by decide)
        · rw [q_b_S hg, if_pos hq]
      | false =>
        refine aw_iload_n dX11_readsCarters_14 rfl ?_
        refine aw_iload_n dX11_readsCarters_15 rfl ?_
        refine aw_ic_ge_n (a := i) (b := l1) (tgt := 156) dX11_readsCarters_16 (by decide) (by omega) (by omega) (fun z => absurd z (by omega)) (fun c16 => ?_)
        refine aw_iload_n dX11_readsCarters_19 rfl ?_
        refine aw_bipush (v := 7) dX11_readsCarters_20 (by decide) ?_
        refine aw_irem_n (a := i) (b := 7) dX11_readsCarters_22 (by omega) (by omega) (by omega) ?_
        refine aw_top (show nI (i % 7) = 3 by rw [hc]; rfl) ?_
        refine aw_istore_n (ls2 := [_, _, _, _, _, _]) dX11_readsCarters_23 (by decide) rfl rfl ?_
        refine aw_iload_n dX11_readsCarters_24 rfl ?_
        refine aw_aload_n dX11_readsCarters_25 rfl ?_
        refine aw_getR dX11_readsCarters_26 f11_22 rfl ⟨Nat.le_of_ble_eq_true rfl, Nat.le_of_ble_eq_true rfl⟩ rfl rfl ?_
        refine aw_bipush (v := 56) dX11_readsCarters_29 (by decide) ?_
        refine aw_iload_n dX11_readsCarters_31 rfl ?_
        refine aw_iadd_n (a := 56) (b := i) dX11_readsCarters_32 ?_
        refine aw_iald_n (j := 56 + i) dX11_readsCarters_33 rfl (Nat.le_of_ble_eq_true rfl) (by decide) (by omega) ?_
        refine aw_top ((congrFun (hF.1 86 (by decide) (by decide)) _).trans (hB.2.1 i (by omega)).1) ?_
        refine aw_S0c (As := [_, _]) dX11_readsCarters_34 k11_136 rfl rfl (Nat.le_of_ble_eq_true rfl) ⟨⟨Nat.le_of_ble_eq_true rfl, Nat.le_of_ble_eq_true rfl⟩, ⟨Nat.le_of_ble_eq_true rfl, Nat.le_of_ble_eq_true rfl⟩⟩ ⟨rfl, rfl⟩ (w_carterOf3N G hb hc hq) (fun v h2 hq => ?_)
        obtain ⟨rfl, rfl⟩ := hq
        refine aw_istore (ls2 := [_, _, _, _, _, _]) dX11_readsCarters_37 (by decide) rfl rfl ?_
        refine aw_iload dX11_readsCarters_39 rfl ?_
        refine aw_bipush (v := -9) dX11_readsCarters_41 (by decide) ?_
        refine aw_ic_ne (tgt := 53) dX11_readsCarters_43 (by decide) (fun z => absurd (by decide) z) (fun _ => ?_)
        refine aw_aload_n dX11_readsCarters_46 rfl ?_
        refine aw_iconst (v := 0) dX11_readsCarters_47 rfl ?_
        refine aw_putI dX11_readsCarters_48 f11_133 rfl ⟨Nat.le_of_ble_eq_true rfl, Nat.le_of_ble_eq_true rfl⟩ (Or.inl rfl) rfl ?_
        refine aw_iload_n dX11_readsCarters_51 rfl ?_
        refine aw_reti dX11_readsCarters_52 rfl rfl ⟨Nat.le_of_ble_eq_true rfl, Nat.le_of_ble_eq_true rfl⟩ ?_
        have e : q_b (q_c b1) (i + 1) = i + 1 := by rw [q_b_S hg, if_neg (by rw [hq]; decide)]
        have e2 : q_b (q_c b1) l1 = i + 1 := by
          have := q_b_stop (q := q_c b1) (i := i + 1) (by rw [e]; omega) (l1 - (i + 1))
          rw [show i + 1 + (l1 - (i + 1)) = l1 by omega, e] at this
          exact this
        refine ⟨?_, _, rfl, ⟨?_, fun w j hw => ?_⟩, hF.f⟩
        · rw [q_f, e2, if_pos (by omega), nI_pred]
        · rw [aw_u_eq, q_k, e2, if_pos (by omega)]; rfl
        · rw [q_k, e2, if_pos (by omega)] at hw; omega
    · cases hq : q_c b1 i with
      | true =>
        have hsb : s_c b1 i < 100000 := by
          unfold s_c; repeat' split
          all_goals omega
        have h89 : I 89 (5 * (i / 7) + 3) = nI (10 * s_c b1 (i - 1)) := by
          have := hv3 (i - 1) (by omega) (by omega) (by omega)
          rw [show (i - 1) / 7 = i / 7 by omega] at this
          exact this
        refine aw_iload_n dX11_readsCarters_14 rfl ?_
        refine aw_iload_n dX11_readsCarters_15 rfl ?_
        refine aw_ic_ge_n (a := i) (b := l1) (tgt := 156) dX11_readsCarters_16 (by decide) (by omega) (by omega) (fun z => absurd z (by omega)) (fun c16 => ?_)
        refine aw_iload_n dX11_readsCarters_19 rfl ?_
        refine aw_bipush (v := 7) dX11_readsCarters_20 (by decide) ?_
        refine aw_irem_n (a := i) (b := 7) dX11_readsCarters_22 (by omega) (by omega) (by omega) ?_
        refine aw_top (show nI (i % 7) = 4 by rw [hc]; rfl) ?_
        refine aw_istore_n (ls2 := [_, _, _, _, _, _]) dX11_readsCarters_23 (by decide) rfl rfl ?_
        refine aw_iload_n dX11_readsCarters_24 rfl ?_
        refine aw_aload_n dX11_readsCarters_25 rfl ?_
        refine aw_getR dX11_readsCarters_26 f11_22 rfl ⟨Nat.le_of_ble_eq_true rfl, Nat.le_of_ble_eq_true rfl⟩ rfl rfl ?_
        refine aw_bipush (v := 56) dX11_readsCarters_29 (by decide) ?_
        refine aw_iload_n dX11_readsCarters_31 rfl ?_
        refine aw_iadd_n (a := 56) (b := i) dX11_readsCarters_32 ?_
        refine aw_iald_n (j := 56 + i) dX11_readsCarters_33 rfl (Nat.le_of_ble_eq_true rfl) (by decide) (by omega) ?_
        refine aw_top ((congrFun (hF.1 86 (by decide) (by decide)) _).trans (hB.2.1 i (by omega)).1) ?_
        refine aw_S0c (As := [_, _]) dX11_readsCarters_34 k11_136 rfl rfl (Nat.le_of_ble_eq_true rfl) ⟨⟨Nat.le_of_ble_eq_true rfl, Nat.le_of_ble_eq_true rfl⟩, ⟨Nat.le_of_ble_eq_true rfl, Nat.le_of_ble_eq_true rfl⟩⟩ ⟨rfl, rfl⟩ (w_carterOf4Y G hb hc hq) (fun v h2 hq => ?_)
        obtain ⟨rfl, rfl⟩ := hq
        refine aw_istore (ls2 := [_, _, _, _, _, _]) dX11_readsCarters_37 (by decide) rfl rfl ?_
        refine aw_iload dX11_readsCarters_39 rfl ?_
        refine aw_bipush (v := -9) dX11_readsCarters_41 (by decide) ?_
        refine aw_ic_ne (tgt := 53) dX11_readsCarters_43 (by decide) (fun c43 => ?_) (fun z => absurd z (zm9 hsb))
        refine aw_iconst (v := 5) dX11_readsCarters_53 rfl ?_
        refine aw_iload_n dX11_readsCarters_54 rfl ?_
        refine aw_bipush (v := 7) dX11_readsCarters_55 (by decide) ?_
        refine aw_idiv_n (a := i) (b := 7) dX11_readsCarters_57 (by omega) (by omega) (by omega) ?_
        refine aw_imul_n (a := 5) (b := i / 7) dX11_readsCarters_58 ?_
        refine aw_istore (ls2 := [_, _, _, _, _, _]) dX11_readsCarters_59 (by decide) rfl rfl ?_
        refine aw_iload_n dX11_readsCarters_61 rfl ?_
        refine aw_iconst (v := 3) dX11_readsCarters_62 rfl ?_
        refine aw_ic_ge (tgt := 80) dX11_readsCarters_63 (by decide) (fun _ => ?_) (fun z => absurd (by decide) z)
        refine aw_iload_n dX11_readsCarters_80 rfl ?_
        refine aw_iconst (v := 3) dX11_readsCarters_81 rfl ?_
        refine aw_ic_ne (tgt := 102) dX11_readsCarters_82 (by decide) (fun _ => ?_) (fun z => absurd z (by decide))
        refine aw_iload_n dX11_readsCarters_102 rfl ?_
        refine aw_iconst (v := 4) dX11_readsCarters_103 rfl ?_
        refine aw_ic_ne (tgt := 124) dX11_readsCarters_104 (by decide) (fun z => absurd (by decide) z) (fun _ => ?_)
        refine aw_aload_n dX11_readsCarters_107 rfl ?_
        refine aw_getR dX11_readsCarters_108 f11_31 rfl ⟨Nat.le_of_ble_eq_true rfl, Nat.le_of_ble_eq_true rfl⟩ rfl rfl ?_
        refine aw_iload dX11_readsCarters_111 rfl ?_
        refine aw_iconst (v := 3) dX11_readsCarters_113 rfl ?_
        refine aw_iadd_n (a := 5 * (i / 7)) (b := 3) dX11_readsCarters_114 ?_
        refine aw_dup2 dX11_readsCarters_115 rfl rfl ?_
        refine aw_iald_n (j := (5 * (i / 7)) + 3) dX11_readsCarters_116 rfl (Nat.le_of_ble_eq_true rfl) (by decide) (by omega) ?_
        refine aw_top h89 ?_
        refine aw_iload dX11_readsCarters_117 rfl ?_
        refine aw_iadd_n (a := 10 * s_c b1 (i - 1)) (b := s_c b1 i) dX11_readsCarters_119 ?_
        refine aw_iast_n (j := (5 * (i / 7)) + 3) dX11_readsCarters_120 rfl ⟨Nat.le_of_ble_eq_true rfl, Nat.le_of_ble_eq_true rfl⟩ (by decide) (by omega) ?_
        refine aw_goto (tgt := 150) dX11_readsCarters_121 (by decide) ?_
        refine aw_iinc_n (ls2 := [_, _, _, _, _, _]) dX11_readsCarters_150 rfl (by decide) rfl rfl ?_
        refine aw_goto (tgt := 14) dX11_readsCarters_153 (by decide) ?_
        refine aw_kill (j := 3) (ls2 := [_, _, _, aw_x, _, _]) rfl (aw_kill (j := 4) (ls2 := [_, _, _, _, aw_x, _]) rfl (aw_kill (j := 5) (ls2 := [_, _, _, _, _, aw_x]) rfl (ih _ ⟨fun j hj hj5 => ?_, fun j hj hj5 hlj => ?_, fun j hj hj5 => ?_, fun j hj hj5 => ?_, ?_, ?_, ?_⟩)))
        · rw [aw_u_nj (by omega)]; exact hv j (by omega) hj5
        · exfalso; omega
        · by_cases hji : j = i
          · subst hji
            rw [aw_u_eq]
          · rw [aw_u_nj (by omega)]; exact hv4 j (by omega) hj5
        · rw [aw_u_nj (by omega)]; exact hv5 j (by omega) hj5
        · rw [aw_u_ne (by decide), hk, show (i + 1 + 1) / 7 = (i + 1) / 7 by omega]
        · exact hF.r (by decide)
        · rw [q_b_S hg, if_pos hq]
      | false =>
        refine aw_iload_n dX11_readsCarters_14 rfl ?_
        refine aw_iload_n dX11_readsCarters_15 rfl ?_
        refine aw_ic_ge_n (a := i) (b := l1) (tgt := 156) dX11_readsCarters_16 (by decide) (by omega) (by omega) (fun z => absurd z (by omega)) (fun c16 => ?_)
        refine aw_iload_n dX11_readsCarters_19 rfl ?_
        refine aw_bipush (v := 7) dX11_readsCarters_20 (by decide) ?_
        refine aw_irem_n (a := i) (b := 7) dX11_readsCarters_22 (by omega) (by omega) (by omega) ?_
        refine aw_top (show nI (i % 7) = 4 by rw [hc]; rfl) ?_
        refine aw_istore_n (ls2 := [_, _, _, _, _, _]) dX11_readsCarters_23 (by decide) rfl rfl ?_
        refine aw_iload_n dX11_readsCarters_24 rfl ?_
        refine aw_aload_n dX11_readsCarters_25 rfl ?_
        refine aw_getR dX11_readsCarters_26 f11_22 rfl ⟨Nat.le_of_ble_eq_true rfl, Nat.le_of_ble_eq_true rfl⟩ rfl rfl ?_
        refine aw_bipush (v := 56) dX11_readsCarters_29 (by decide) ?_
        refine aw_iload_n dX11_readsCarters_31 rfl ?_
        refine aw_iadd_n (a := 56) (b := i) dX11_readsCarters_32 ?_
        refine aw_iald_n (j := 56 + i) dX11_readsCarters_33 rfl (Nat.le_of_ble_eq_true rfl) (by decide) (by omega) ?_
        refine aw_top ((congrFun (hF.1 86 (by decide) (by decide)) _).trans (hB.2.1 i (by omega)).1) ?_
        refine aw_S0c (As := [_, _]) dX11_readsCarters_34 k11_136 rfl rfl (Nat.le_of_ble_eq_true rfl) ⟨⟨Nat.le_of_ble_eq_true rfl, Nat.le_of_ble_eq_true rfl⟩, ⟨Nat.le_of_ble_eq_true rfl, Nat.le_of_ble_eq_true rfl⟩⟩ ⟨rfl, rfl⟩ (w_carterOf4N G hb hc hq) (fun v h2 hq => ?_)
        obtain ⟨rfl, rfl⟩ := hq
        refine aw_istore (ls2 := [_, _, _, _, _, _]) dX11_readsCarters_37 (by decide) rfl rfl ?_
        refine aw_iload dX11_readsCarters_39 rfl ?_
        refine aw_bipush (v := -9) dX11_readsCarters_41 (by decide) ?_
        refine aw_ic_ne (tgt := 53) dX11_readsCarters_43 (by decide) (fun z => absurd (by decide) z) (fun _ => ?_)
        refine aw_aload_n dX11_readsCarters_46 rfl ?_
        refine aw_iconst (v := 0) dX11_readsCarters_47 rfl ?_
        refine aw_putI dX11_readsCarters_48 f11_133 rfl ⟨Nat.le_of_ble_eq_true rfl, Nat.le_of_ble_eq_true rfl⟩ (Or.inl rfl) rfl ?_
        refine aw_iload_n dX11_readsCarters_51 rfl ?_
        refine aw_reti dX11_readsCarters_52 rfl rfl ⟨Nat.le_of_ble_eq_true rfl, Nat.le_of_ble_eq_true rfl⟩ ?_
        have e : q_b (q_c b1) (i + 1) = i + 1 := by rw [q_b_S hg, if_neg (by rw [hq]; decide)]
        have e2 : q_b (q_c b1) l1 = i + 1 := by
          have := q_b_stop (q := q_c b1) (i := i + 1) (by rw [e]; omega) (l1 - (i + 1))
          rw [show i + 1 + (l1 - (i + 1)) = l1 by omega, e] at this
          exact this
        refine ⟨?_, _, rfl, ⟨?_, fun w j hw => ?_⟩, hF.f⟩
        · rw [q_f, e2, if_pos (by omega), nI_pred]
        · rw [aw_u_eq, q_k, e2, if_pos (by omega)]; rfl
        · rw [q_k, e2, if_pos (by omega)] at hw; omega
    · cases hq : q_c b1 i with
      | true =>
        have hsb : s_c b1 i < 100000 := by
          unfold s_c; repeat' split
          all_goals omega
        have hk2 : (aw_u I 89 (5 * (i / 7) + 4) (nI (s_c b1 i))) 81 9 = nI ((i + 1) / 7) := by rw [aw_u_ne (by decide)]; exact hk
        refine aw_iload_n dX11_readsCarters_14 rfl ?_
        refine aw_iload_n dX11_readsCarters_15 rfl ?_
        refine aw_ic_ge_n (a := i) (b := l1) (tgt := 156) dX11_readsCarters_16 (by decide) (by omega) (by omega) (fun z => absurd z (by omega)) (fun c16 => ?_)
        refine aw_iload_n dX11_readsCarters_19 rfl ?_
        refine aw_bipush (v := 7) dX11_readsCarters_20 (by decide) ?_
        refine aw_irem_n (a := i) (b := 7) dX11_readsCarters_22 (by omega) (by omega) (by omega) ?_
        refine aw_top (show nI (i % 7) = 5 by rw [hc]; rfl) ?_
        refine aw_istore_n (ls2 := [_, _, _, _, _, _]) dX11_readsCarters_23 (by decide) rfl rfl ?_
        refine aw_iload_n dX11_readsCarters_24 rfl ?_
        refine aw_aload_n dX11_readsCarters_25 rfl ?_
        refine aw_getR dX11_readsCarters_26 f11_22 rfl ⟨Nat.le_of_ble_eq_true rfl, Nat.le_of_ble_eq_true rfl⟩ rfl rfl ?_
        refine aw_bipush (v := 56) dX11_readsCarters_29 (by decide) ?_
        refine aw_iload_n dX11_readsCarters_31 rfl ?_
        refine aw_iadd_n (a := 56) (b := i) dX11_readsCarters_32 ?_
        refine aw_iald_n (j := 56 + i) dX11_readsCarters_33 rfl (Nat.le_of_ble_eq_true rfl) (by decide) (by omega) ?_
        refine aw_top ((congrFun (hF.1 86 (by decide) (by decide)) _).trans (hB.2.1 i (by omega)).1) ?_
        refine aw_S0c (As := [_, _]) dX11_readsCarters_34 k11_136 rfl rfl (Nat.le_of_ble_eq_true rfl) ⟨⟨Nat.le_of_ble_eq_true rfl, Nat.le_of_ble_eq_true rfl⟩, ⟨Nat.le_of_ble_eq_true rfl, Nat.le_of_ble_eq_true rfl⟩⟩ ⟨rfl, rfl⟩ (w_carterOf5Y G hb hc hq) (fun v h2 hq => ?_)
        obtain ⟨rfl, rfl⟩ := hq
        refine aw_istore (ls2 := [_, _, _, _, _, _]) dX11_readsCarters_37 (by decide) rfl rfl ?_
        refine aw_iload dX11_readsCarters_39 rfl ?_
        refine aw_bipush (v := -9) dX11_readsCarters_41 (by decide) ?_
        refine aw_ic_ne (tgt := 53) dX11_readsCarters_43 (by decide) (fun c43 => ?_) (fun z => absurd z (zm9 hsb))
        refine aw_iconst (v := 5) dX11_readsCarters_53 rfl ?_
        refine aw_iload_n dX11_readsCarters_54 rfl ?_
        refine aw_bipush (v := 7) dX11_readsCarters_55 (by decide) ?_
        refine aw_idiv_n (a := i) (b := 7) dX11_readsCarters_57 (by omega) (by omega) (by omega) ?_
        refine aw_imul_n (a := 5) (b := i / 7) dX11_readsCarters_58 ?_
        refine aw_istore (ls2 := [_, _, _, _, _, _]) dX11_readsCarters_59 (by decide) rfl rfl ?_
        refine aw_iload_n dX11_readsCarters_61 rfl ?_
        refine aw_iconst (v := 3) dX11_readsCarters_62 rfl ?_
        refine aw_ic_ge (tgt := 80) dX11_readsCarters_63 (by decide) (fun _ => ?_) (fun z => absurd (by decide) z)
        refine aw_iload_n dX11_readsCarters_80 rfl ?_
        refine aw_iconst (v := 3) dX11_readsCarters_81 rfl ?_
        refine aw_ic_ne (tgt := 102) dX11_readsCarters_82 (by decide) (fun _ => ?_) (fun z => absurd z (by decide))
        refine aw_iload_n dX11_readsCarters_102 rfl ?_
        refine aw_iconst (v := 4) dX11_readsCarters_103 rfl ?_
        refine aw_ic_ne (tgt := 124) dX11_readsCarters_104 (by decide) (fun _ => ?_) (fun z => absurd z (by decide))
        refine aw_iload_n dX11_readsCarters_124 rfl ?_
        refine aw_iconst (v := 5) dX11_readsCarters_125 rfl ?_
        refine aw_ic_ne (tgt := 150) dX11_readsCarters_126 (by decide) (fun z => absurd (by decide) z) (fun _ => ?_)
        refine aw_aload_n dX11_readsCarters_129 rfl ?_
        refine aw_getR dX11_readsCarters_130 f11_31 rfl ⟨Nat.le_of_ble_eq_true rfl, Nat.le_of_ble_eq_true rfl⟩ rfl rfl ?_
        refine aw_iload dX11_readsCarters_133 rfl ?_
        refine aw_iconst (v := 4) dX11_readsCarters_135 rfl ?_
        refine aw_iadd_n (a := 5 * (i / 7)) (b := 4) dX11_readsCarters_136 ?_
        refine aw_iload dX11_readsCarters_137 rfl ?_
        refine aw_iast_n (j := (5 * (i / 7)) + 4) dX11_readsCarters_139 rfl ⟨Nat.le_of_ble_eq_true rfl, Nat.le_of_ble_eq_true rfl⟩ (by decide) (by omega) ?_
        refine aw_aload_n dX11_readsCarters_140 rfl ?_
        refine aw_dup dX11_readsCarters_141 rfl ?_
        refine aw_getI dX11_readsCarters_142 f11_133 rfl ⟨Nat.le_of_ble_eq_true rfl, Nat.le_of_ble_eq_true rfl⟩ rfl ?_
        refine aw_top hk2 ?_
        refine aw_iconst (v := 1) dX11_readsCarters_145 rfl ?_
        refine aw_iadd_n (a := (i + 1) / 7) (b := 1) dX11_readsCarters_146 ?_
        refine aw_putI dX11_readsCarters_147 f11_133 rfl ⟨Nat.le_of_ble_eq_true rfl, Nat.le_of_ble_eq_true rfl⟩ (Or.inl rfl) rfl ?_
        refine aw_iinc_n (ls2 := [_, _, _, _, _, _]) dX11_readsCarters_150 rfl (by decide) rfl rfl ?_
        refine aw_goto (tgt := 14) dX11_readsCarters_153 (by decide) ?_
        refine aw_kill (j := 3) (ls2 := [_, _, _, aw_x, _, _]) rfl (aw_kill (j := 4) (ls2 := [_, _, _, _, aw_x, _]) rfl (aw_kill (j := 5) (ls2 := [_, _, _, _, _, aw_x]) rfl (ih _ ⟨fun j hj hj5 => ?_, fun j hj hj5 hlj => ?_, fun j hj hj5 => ?_, fun j hj hj5 => ?_, ?_, ?_, ?_⟩)))
        · rw [aw_u_ne (show 89 ≠ 81 by decide)]; rw [aw_u_nj (by omega)]; exact hv j (by omega) hj5
        · exfalso; omega
        · rw [aw_u_ne (show 89 ≠ 81 by decide)]; rw [aw_u_nj (by omega)]; exact hv4 j (by omega) hj5
        · rw [aw_u_ne (show 89 ≠ 81 by decide)]; by_cases hji : j = i
          · subst hji
            rw [aw_u_eq]
          · rw [aw_u_nj (by omega)]; exact hv5 j (by omega) hj5
        · rw [aw_u_eq, show (i + 1 + 1) / 7 = (i + 1) / 7 + 1 by omega]
        · exact (hF.r (by decide)).f
        · rw [q_b_S hg, if_pos hq]
      | false =>
        refine aw_iload_n dX11_readsCarters_14 rfl ?_
        refine aw_iload_n dX11_readsCarters_15 rfl ?_
        refine aw_ic_ge_n (a := i) (b := l1) (tgt := 156) dX11_readsCarters_16 (by decide) (by omega) (by omega) (fun z => absurd z (by omega)) (fun c16 => ?_)
        refine aw_iload_n dX11_readsCarters_19 rfl ?_
        refine aw_bipush (v := 7) dX11_readsCarters_20 (by decide) ?_
        refine aw_irem_n (a := i) (b := 7) dX11_readsCarters_22 (by omega) (by omega) (by omega) ?_
        refine aw_top (show nI (i % 7) = 5 by rw [hc]; rfl) ?_
        refine aw_istore_n (ls2 := [_, _, _, _, _, _]) dX11_readsCarters_23 (by decide) rfl rfl ?_
        refine aw_iload_n dX11_readsCarters_24 rfl ?_
        refine aw_aload_n dX11_readsCarters_25 rfl ?_
        refine aw_getR dX11_readsCarters_26 f11_22 rfl ⟨Nat.le_of_ble_eq_true rfl, Nat.le_of_ble_eq_true rfl⟩ rfl rfl ?_
        refine aw_bipush (v := 56) dX11_readsCarters_29 (by decide) ?_
        refine aw_iload_n dX11_readsCarters_31 rfl ?_
        refine aw_iadd_n (a := 56) (b := i) dX11_readsCarters_32 ?_
        refine aw_iald_n (j := 56 + i) dX11_readsCarters_33 rfl (Nat.le_of_ble_eq_true rfl) (by decide) (by omega) ?_
        refine aw_top ((congrFun (hF.1 86 (by decide) (by decide)) _).trans (hB.2.1 i (by omega)).1) ?_
        refine aw_S0c (As := [_, _]) dX11_readsCarters_34 k11_136 rfl rfl (Nat.le_of_ble_eq_true rfl) ⟨⟨Nat.le_of_ble_eq_true rfl, Nat.le_of_ble_eq_true rfl⟩, ⟨Nat.le_of_ble_eq_true rfl, Nat.le_of_ble_eq_true rfl⟩⟩ ⟨rfl, rfl⟩ (w_carterOf5N G hb hc hq) (fun v h2 hq => ?_)
        obtain ⟨rfl, rfl⟩ := hq
        refine aw_istore (ls2 := [_, _, _, _, _, _]) dX11_readsCarters_37 (by decide) rfl rfl ?_
        refine aw_iload dX11_readsCarters_39 rfl ?_
        refine aw_bipush (v := -9) dX11_readsCarters_41 (by decide) ?_
        refine aw_ic_ne (tgt := 53) dX11_readsCarters_43 (by decide) (fun z => absurd (by decide) z) (fun _ => ?_)
        refine aw_aload_n dX11_readsCarters_46 rfl ?_
        refine aw_iconst (v := 0) dX11_readsCarters_47 rfl ?_
        refine aw_putI dX11_readsCarters_48 f11_133 rfl ⟨Nat.le_of_ble_eq_true rfl, Nat.le_of_ble_eq_true rfl⟩ (Or.inl rfl) rfl ?_
        refine aw_iload_n dX11_readsCarters_51 rfl ?_
        refine aw_reti dX11_readsCarters_52 rfl rfl ⟨Nat.le_of_ble_eq_true rfl, Nat.le_of_ble_eq_true rfl⟩ ?_
        have e : q_b (q_c b1) (i + 1) = i + 1 := by rw [q_b_S hg, if_neg (by rw [hq]; decide)]
        have e2 : q_b (q_c b1) l1 = i + 1 := by
          have := q_b_stop (q := q_c b1) (i := i + 1) (by rw [e]; omega) (l1 - (i + 1))
          rw [show i + 1 + (l1 - (i + 1)) = l1 by omega, e] at this
          exact this
        refine ⟨?_, _, rfl, ⟨?_, fun w j hw => ?_⟩, hF.f⟩
        · rw [q_f, e2, if_pos (by omega), nI_pred]
        · rw [aw_u_eq, q_k, e2, if_pos (by omega)]; rfl
        · rw [q_k, e2, if_pos (by omega)] at hw; omega
    · cases hq : q_c b1 i with
      | true =>
        have hsb : s_c b1 i < 100000 := by
          unfold s_c; repeat' split
          all_goals omega
        refine aw_iload_n dX11_readsCarters_14 rfl ?_
        refine aw_iload_n dX11_readsCarters_15 rfl ?_
        refine aw_ic_ge_n (a := i) (b := l1) (tgt := 156) dX11_readsCarters_16 (by decide) (by omega) (by omega) (fun z => absurd z (by omega)) (fun c16 => ?_)
        refine aw_iload_n dX11_readsCarters_19 rfl ?_
        refine aw_bipush (v := 7) dX11_readsCarters_20 (by decide) ?_
        refine aw_irem_n (a := i) (b := 7) dX11_readsCarters_22 (by omega) (by omega) (by omega) ?_
        refine aw_top (show nI (i % 7) = 6 by rw [hc]; rfl) ?_
        refine aw_istore_n (ls2 := [_, _, _, _, _, _]) dX11_readsCarters_23 (by decide) rfl rfl ?_
        refine aw_iload_n dX11_readsCarters_24 rfl ?_
        refine aw_aload_n dX11_readsCarters_25 rfl ?_
        refine aw_getR dX11_readsCarters_26 f11_22 rfl ⟨Nat.le_of_ble_eq_true rfl, Nat.le_of_ble_eq_true rfl⟩ rfl rfl ?_
        refine aw_bipush (v := 56) dX11_readsCarters_29 (by decide) ?_
        refine aw_iload_n dX11_readsCarters_31 rfl ?_
        refine aw_iadd_n (a := 56) (b := i) dX11_readsCarters_32 ?_
        refine aw_iald_n (j := 56 + i) dX11_readsCarters_33 rfl (Nat.le_of_ble_eq_true rfl) (by decide) (by omega) ?_
        refine aw_top ((congrFun (hF.1 86 (by decide) (by decide)) _).trans (hB.2.1 i (by omega)).1) ?_
        refine aw_S0c (As := [_, _]) dX11_readsCarters_34 k11_136 rfl rfl (Nat.le_of_ble_eq_true rfl) ⟨⟨Nat.le_of_ble_eq_true rfl, Nat.le_of_ble_eq_true rfl⟩, ⟨Nat.le_of_ble_eq_true rfl, Nat.le_of_ble_eq_true rfl⟩⟩ ⟨rfl, rfl⟩ (w_carterOf6Y G hb hc hq) (fun v h2 hq => ?_)
        obtain ⟨rfl, rfl⟩ := hq
        refine aw_istore (ls2 := [_, _, _, _, _, _]) dX11_readsCarters_37 (by decide) rfl rfl ?_
        refine aw_iload dX11_readsCarters_39 rfl ?_
        refine aw_bipush (v := -9) dX11_readsCarters_41 (by decide) ?_
        refine aw_ic_ne (tgt := 53) dX11_readsCarters_43 (by decide) (fun c43 => ?_) (fun z => absurd z (zm9 hsb))
        refine aw_iconst (v := 5) dX11_readsCarters_53 rfl ?_
        refine aw_iload_n dX11_readsCarters_54 rfl ?_
        refine aw_bipush (v := 7) dX11_readsCarters_55 (by decide) ?_
        refine aw_idiv_n (a := i) (b := 7) dX11_readsCarters_57 (by omega) (by omega) (by omega) ?_
        refine aw_imul_n (a := 5) (b := i / 7) dX11_readsCarters_58 ?_
        refine aw_istore (ls2 := [_, _, _, _, _, _]) dX11_readsCarters_59 (by decide) rfl rfl ?_
        refine aw_iload_n dX11_readsCarters_61 rfl ?_
        refine aw_iconst (v := 3) dX11_readsCarters_62 rfl ?_
        refine aw_ic_ge (tgt := 80) dX11_readsCarters_63 (by decide) (fun _ => ?_) (fun z => absurd (by decide) z)
        refine aw_iload_n dX11_readsCarters_80 rfl ?_
        refine aw_iconst (v := 3) dX11_readsCarters_81 rfl ?_
        refine aw_ic_ne (tgt := 102) dX11_readsCarters_82 (by decide) (fun _ => ?_) (fun z => absurd z (by decide))
        refine aw_iload_n dX11_readsCarters_102 rfl ?_
        refine aw_iconst (v := 4) dX11_readsCarters_103 rfl ?_
        refine aw_ic_ne (tgt := 124) dX11_readsCarters_104 (by decide) (fun _ => ?_) (fun z => absurd z (by decide))
        refine aw_iload_n dX11_readsCarters_124 rfl ?_
        refine aw_iconst (v := 5) dX11_readsCarters_125 rfl ?_
        refine aw_ic_ne (tgt := 150) dX11_readsCarters_126 (by decide) (fun _ => ?_) (fun z => absurd z (by decide))
        refine aw_iinc_n (ls2 := [_, _, _, _, _, _]) dX11_readsCarters_150 rfl (by decide) rfl rfl ?_
        refine aw_goto (tgt := 14) dX11_readsCarters_153 (by decide) ?_
        refine aw_kill (j := 3) (ls2 := [_, _, _, aw_x, _, _]) rfl (aw_kill (j := 4) (ls2 := [_, _, _, _, aw_x, _]) rfl (aw_kill (j := 5) (ls2 := [_, _, _, _, _, aw_x]) rfl (ih _ ⟨fun j hj hj5 => ?_, fun j hj hj5 hlj => ?_, fun j hj hj5 => ?_, fun j hj hj5 => ?_, ?_, ?_, ?_⟩)))
        · exact hv j (by omega) hj5
        · exact hv3 j (by omega) hj5 (by omega)
        · exact hv4 j (by omega) hj5
        · exact hv5 j (by omega) hj5
        · rw [hk, show (i + 1 + 1) / 7 = (i + 1) / 7 by omega]
        · exact hF
        · rw [q_b_S hg, if_pos hq]
      | false =>
        refine aw_iload_n dX11_readsCarters_14 rfl ?_
        refine aw_iload_n dX11_readsCarters_15 rfl ?_
        refine aw_ic_ge_n (a := i) (b := l1) (tgt := 156) dX11_readsCarters_16 (by decide) (by omega) (by omega) (fun z => absurd z (by omega)) (fun c16 => ?_)
        refine aw_iload_n dX11_readsCarters_19 rfl ?_
        refine aw_bipush (v := 7) dX11_readsCarters_20 (by decide) ?_
        refine aw_irem_n (a := i) (b := 7) dX11_readsCarters_22 (by omega) (by omega) (by omega) ?_
        refine aw_top (show nI (i % 7) = 6 by rw [hc]; rfl) ?_
        refine aw_istore_n (ls2 := [_, _, _, _, _, _]) dX11_readsCarters_23 (by decide) rfl rfl ?_
        refine aw_iload_n dX11_readsCarters_24 rfl ?_
        refine aw_aload_n dX11_readsCarters_25 rfl ?_
        refine aw_getR dX11_readsCarters_26 f11_22 rfl ⟨Nat.le_of_ble_eq_true rfl, Nat.le_of_ble_eq_true rfl⟩ rfl rfl ?_
        refine aw_bipush (v := 56) dX11_readsCarters_29 (by decide) ?_
        refine aw_iload_n dX11_readsCarters_31 rfl ?_
        refine aw_iadd_n (a := 56) (b := i) dX11_readsCarters_32 ?_
        refine aw_iald_n (j := 56 + i) dX11_readsCarters_33 rfl (Nat.le_of_ble_eq_true rfl) (by decide) (by omega) ?_
        refine aw_top ((congrFun (hF.1 86 (by decide) (by decide)) _).trans (hB.2.1 i (by omega)).1) ?_
        refine aw_S0c (As := [_, _]) dX11_readsCarters_34 k11_136 rfl rfl (Nat.le_of_ble_eq_true rfl) ⟨⟨Nat.le_of_ble_eq_true rfl, Nat.le_of_ble_eq_true rfl⟩, ⟨Nat.le_of_ble_eq_true rfl, Nat.le_of_ble_eq_true rfl⟩⟩ ⟨rfl, rfl⟩ (w_carterOf6N G hb hc hq) (fun v h2 hq => ?_)
        obtain ⟨rfl, rfl⟩ := hq
        refine aw_istore (ls2 := [_, _, _, _, _, _]) dX11_readsCarters_37 (by decide) rfl rfl ?_
        refine aw_iload dX11_readsCarters_39 rfl ?_
        refine aw_bipush (v := -9) dX11_readsCarters_41 (by decide) ?_
        refine aw_ic_ne (tgt := 53) dX11_readsCarters_43 (by decide) (fun z => absurd (by decide) z) (fun _ => ?_)
        refine aw_aload_n dX11_readsCarters_46 rfl ?_
        refine aw_iconst (v := 0) dX11_readsCarters_47 rfl ?_
        refine aw_putI dX11_readsCarters_48 f11_133 rfl ⟨Nat.le_of_ble_eq_true rfl, Nat.le_of_ble_eq_true rfl⟩ (Or.inl rfl) rfl ?_
        refine aw_iload_n dX11_readsCarters_51 rfl ?_
        refine aw_reti dX11_readsCarters_52 rfl rfl ⟨Nat.le_of_ble_eq_true rfl, Nat.le_of_ble_eq_true rfl⟩ ?_
        have e : q_b (q_c b1) (i + 1) = i + 1 := by rw [q_b_S hg, if_neg (by rw [hq]; decide)]
        have e2 : q_b (q_c b1) l1 = i + 1 := by
          have := q_b_stop (q := q_c b1) (i := i + 1) (by rw [e]; omega) (l1 - (i + 1))
          rw [show i + 1 + (l1 - (i + 1)) = l1 by omega, e] at this
          exact this
        refine ⟨?_, _, rfl, ⟨?_, fun w j hw => ?_⟩, hF.f⟩
        · rw [q_f, e2, if_pos (by omega), nI_pred]
        · rw [aw_u_eq, q_k, e2, if_pos (by omega)]; rfl
        · rw [q_k, e2, if_pos (by omega)] at hw; omega
