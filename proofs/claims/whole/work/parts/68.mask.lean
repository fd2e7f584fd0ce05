/-! asking, rumours, markets of the reference -/
theorem aw_st {X : Nat → Prop} (h : ∀ b, (∀ b', b' < b → X b') → X b) (b : Nat) : X b := Nat.strongRecOn b h
theorem z_mx_congr {f g : Nat → Nat} {n : Nat} (h : ∀ i, i < n → f i = g i) : z_mx f n = z_mx g n := by
  induction n with
  | zero => rfl
  | succ n ih => rw [z_mx, z_mx, ih (fun i hi => h i (by omega)), h n (by omega)]
theorem z_who_bit : ∀ b0 b1 b2 : Bool, ∀ a, a < 3 → (z_who (fun j => match j with | 0 => b0 | 1 => b1 | _ => b2) 3).testBit a = (match a with | 0 => b0 | 1 => b1 | _ => b2) := by decide
theorem z_who_tb {f : Nat → Bool} {a : Nat} (ha : a < 3) : (z_who f 3).testBit a = f a := by
  have e : z_who f 3 = z_who (fun j => match j with | 0 => f 0 | 1 => f 1 | _ => f 2) 3 := z_who_congr (fun j hj => by
    have h' : j = 0 ∨ j = 1 ∨ j = 2 := by omega
    rcases h' with rfl | rfl | rfl <;> rfl)
  rw [e, z_who_bit _ _ _ a ha]
  have h' : a = 0 ∨ a = 1 ∨ a = 2 := by omega
  rcases h' with rfl | rfl | rfl <;> rfl
theorem z_alk {f : Nat → Bool} {p e : Nat → Nat} {h : Nat} : z_mx (fun a => zc (fun b => ((z_who f 3).testBit a && (z_who f 3).testBit b) && (z_sb (e a) (p a) h == z_sb (e b) (p b) h)) 3) 3 = z_al f p e h := by
  unfold z_al
  rw [z_alike (f := f) (E := fun i j => z_sb (e i) (p i) h == z_sb (e j) (p j) h) (fun i => by simp) (fun i j => Bool.beq_comm)]
  exact z_mx_congr (fun a ha => zc_congr (fun b hb => by rw [z_who_tb ha, z_who_tb hb]))
theorem w_alike (G : aw_G) {n c : Nat} {I : Nat → Nat → Int32} {L : Nat → Nat → Int64} {b h : Nat} {P : Nat → Nat} (hb : b < 256) (hh : h < 40) (hPl : ∀ w, w < 3 → I 104 (40 * w + h) = nI (P w) - 1 ∧ P w ≤ 8) : aw_Met G mX11_alike [.ref 81, .int (nI b), .int (nI h)] (zH n I L c) (fun v h2 => v = some (.int (nI (z_mx (fun a => zc (fun b2 => (b.testBit a && b.testBit b2) && (P a == P b2)) 3) 3))) ∧ h2 = zH n I L c) := by
  refine aw_Met.of okX11_alike (Nat.le_of_ble_eq_true rfl) ?_
  show aw_W G mX11_alike 0 [.ref 81, .int (nI b), .int (nI h), aw_x, aw_x, aw_x, aw_x] [] (zH n I L c) (0, 0) _
  refine aw_iconst (v := 0) dX11_alike_0 rfl ?_
  refine aw_istore_n (ls2 := [_, _, _, _, _, _, _]) dX11_alike_1 (by decide) rfl rfl ?_
  refine aw_iconst (v := 0) dX11_alike_2 rfl ?_
  refine aw_istore (ls2 := [_, _, _, _, _, _, _]) dX11_alike_3 (by decide) rfl rfl ?_
  refine aw_up (X := fun a => aw_W G mX11_alike 5 [.ref 81, .int (nI b), .int (nI h), .int (nI (z_mx (fun a => zc (fun b2 => (b.testBit a && b.testBit b2) && (P a == P b2)) 3) a)), .int (nI a), aw_x, aw_x] [] (zH n I L c) (0, 0) _) (Nat.zero_le 3) ?_ (fun a _ ha ih => ?_)
  · refine aw_iload dX11_alike_5 rfl ?_
    refine aw_iconst (v := 3) dX11_alike_7 rfl ?_
    refine aw_ic_ge_n (a := 3) (b := 3) (tgt := 97) dX11_alike_8 (by decide) (by omega) (by omega) (fun c8 => ?_) (fun z => absurd z (by omega))
    refine aw_iload_n dX11_alike_97 rfl ?_
    refine aw_reti dX11_alike_98 rfl rfl ⟨Nat.le_of_ble_eq_true rfl, Nat.le_of_ble_eq_true rfl⟩ ?_
    exact ⟨rfl, rfl⟩
  · refine aw_iload dX11_alike_5 rfl ?_
    refine aw_iconst (v := 3) dX11_alike_7 rfl ?_
    refine aw_ic_ge_n (a := a) (b := 3) (tgt := 97) dX11_alike_8 (by decide) (by omega) (by omega) (fun z => absurd z (by omega)) (fun c8 => ?_)
    refine aw_iconst (v := 0) dX11_alike_11 rfl ?_
    refine aw_istore (ls2 := [_, _, _, _, _, _, _]) dX11_alike_12 (by decide) rfl rfl ?_
    refine aw_iconst (v := 0) dX11_alike_14 rfl ?_
    refine aw_istore (ls2 := [_, _, _, _, _, _, _]) dX11_alike_15 (by decide) rfl rfl ?_
    refine aw_up (X := fun i => aw_W G mX11_alike 17 [.ref 81, .int (nI b), .int (nI h), .int (nI (z_mx (fun a => zc (fun b2 => (b.testBit a && b.testBit b2) && (P a == P b2)) 3) a)), .int (nI a), .int (nI (zc (fun b2 => (b.testBit a && b.testBit b2) && (P a == P b2)) i)), .int (nI i)] [] (zH n I L c) (0, 0) _) (Nat.zero_le 3) ?_ (fun i _ hi ih2 => ?_)
    · refine aw_iload dX11_alike_17 rfl ?_
      refine aw_iconst (v := 3) dX11_alike_19 rfl ?_
      refine aw_ic_ge_n (a := 3) (b := 3) (tgt := 84) dX11_alike_20 (by decide) (by omega) (by omega) (fun c20 => ?_) (fun z => absurd z (by omega))
      have hz3 : zc (fun b2 => (b.testBit a && b.testBit b2) && (P a == P b2)) 3 ≤ 3 := zc_le0
      have hmx : z_mx (fun a => zc (fun b2 => (b.testBit a && b.testBit b2) && (P a == P b2)) 3) a ≤ 3 := z_mx_le (fun i hi => zc_le0)
      refine aw_iload dX11_alike_84 rfl ?_
      refine aw_iload_n dX11_alike_86 rfl ?_
      refine aw_S0c (As := [_, _]) dX11_alike_87 k11_229 rfl rfl (Nat.le_of_ble_eq_true rfl) ⟨⟨Nat.le_of_ble_eq_true rfl, Nat.le_of_ble_eq_true rfl⟩, ⟨Nat.le_of_ble_eq_true rfl, Nat.le_of_ble_eq_true rfl⟩⟩ ⟨rfl, rfl⟩ (w_greater G (a := zc (fun b2 => (b.testBit a && b.testBit b2) && (P a == P b2)) 3) (b := z_mx (fun a => zc (fun b2 => (b.testBit a && b.testBit b2) && (P a == P b2)) 3) a) (by omega) (by omega)) (fun v h2 hq => ?_)
      obtain ⟨rfl, rfl⟩ := hq
      refine aw_istore_n (ls2 := [_, _, _, _, _, _, _]) dX11_alike_90 (by decide) rfl rfl ?_
      refine aw_iinc_n (ls2 := [_, _, _, _, _, _, _]) dX11_alike_91 rfl (by decide) rfl rfl ?_
      refine aw_goto (tgt := 5) dX11_alike_94 (by decide) ?_
      refine aw_kill (j := 5) (ls2 := [_, _, _, _, _, aw_x, _]) rfl (aw_kill (j := 6) (ls2 := [_, _, _, _, _, _, aw_x]) rfl ?_)
      exact ih
    · have hz3 : zc (fun b2 => (b.testBit a && b.testBit b2) && (P a == P b2)) i ≤ i := zc_le0
      have hpa := (hPl a (by omega)).2
      have hpi := (hPl i (by omega)).2
      refine aw_iload dX11_alike_17 rfl ?_
      refine aw_iconst (v := 3) dX11_alike_19 rfl ?_
      refine aw_ic_ge_n (a := i) (b := 3) (tgt := 84) dX11_alike_20 (by decide) (by omega) (by omega) (fun z => absurd z (by omega)) (fun c20 => ?_)
      refine aw_iload dX11_alike_23 rfl ?_
      refine aw_iload_n dX11_alike_25 rfl ?_
      refine aw_iload dX11_alike_26 rfl ?_
      refine aw_S0c (As := [_, _]) dX11_alike_28 k11_177 rfl rfl (Nat.le_of_ble_eq_true rfl) ⟨⟨Nat.le_of_ble_eq_true rfl, Nat.le_of_ble_eq_true rfl⟩, ⟨Nat.le_of_ble_eq_true rfl, Nat.le_of_ble_eq_true rfl⟩⟩ ⟨rfl, rfl⟩ (w_isIn G (w := b) (a := a) (by omega) (by omega)) (fun v h2 hq => ?_)
      obtain ⟨rfl, rfl⟩ := hq
      refine aw_if_eq_B (tgt := 74) dX11_alike_31 (by decide) (fun c31 => ?_) (fun c31 => ?_)
      · refine aw_iconst (v := 0) dX11_alike_74 rfl ?_
        refine aw_iadd_n (a := zc (fun b2 => (b.testBit a && b.testBit b2) && (P a == P b2)) i) (b := 0) dX11_alike_75 ?_
        refine aw_istore (ls2 := [_, _, _, _, _, _, _]) dX11_alike_76 (by decide) rfl rfl ?_
        refine aw_iinc_n (ls2 := [_, _, _, _, _, _, _]) dX11_alike_78 rfl (by decide) rfl rfl ?_
        refine aw_goto (tgt := 17) dX11_alike_81 (by decide) ?_
        have e : zc (fun b2 => (b.testBit a && b.testBit b2) && (P a == P b2)) (i + 1) = zc (fun b2 => (b.testBit a && b.testBit b2) && (P a == P b2)) i + 0 := by rw [zc, if_neg (by simp [c31])]
        rw [e] at ih2
        exact ih2
      · refine aw_iload_n dX11_alike_34 rfl ?_
        refine aw_iload dX11_alike_35 rfl ?_
        refine aw_S0c (As := [_, _]) dX11_alike_37 k11_177 rfl rfl (Nat.le_of_ble_eq_true rfl) ⟨⟨Nat.le_of_ble_eq_true rfl, Nat.le_of_ble_eq_true rfl⟩, ⟨Nat.le_of_ble_eq_true rfl, Nat.le_of_ble_eq_true rfl⟩⟩ ⟨rfl, rfl⟩ (w_isIn G (w := b) (a := i) (by omega) (by omega)) (fun v h2 hq => ?_)
        obtain ⟨rfl, rfl⟩ := hq
        refine aw_if_eq_B (tgt := 74) dX11_alike_40 (by decide) (fun c40 => ?_) (fun c40 => ?_)
        · refine aw_iconst (v := 0) dX11_alike_74 rfl ?_
          refine aw_iadd_n (a := zc (fun b2 => (b.testBit a && b.testBit b2) && (P a == P b2)) i) (b := 0) dX11_alike_75 ?_
          refine aw_istore (ls2 := [_, _, _, _, _, _, _]) dX11_alike_76 (by decide) rfl rfl ?_
          refine aw_iinc_n (ls2 := [_, _, _, _, _, _, _]) dX11_alike_78 rfl (by decide) rfl rfl ?_
          refine aw_goto (tgt := 17) dX11_alike_81 (by decide) ?_
          have e : zc (fun b2 => (b.testBit a && b.testBit b2) && (P a == P b2)) (i + 1) = zc (fun b2 => (b.testBit a && b.testBit b2) && (P a == P b2)) i + 0 := by rw [zc, if_neg (by simp [c40])]
          rw [e] at ih2
          exact ih2
        · refine aw_aload_n dX11_alike_43 rfl ?_
          refine aw_getR dX11_alike_44 f11_76 rfl ⟨Nat.le_of_ble_eq_true rfl, Nat.le_of_ble_eq_true rfl⟩ rfl rfl ?_
          refine aw_bipush (v := 40) dX11_alike_47 (by decide) ?_
          refine aw_iload dX11_alike_49 rfl ?_
          refine aw_imul_n (a := 40) (b := a) dX11_alike_51 ?_
          refine aw_iload_n dX11_alike_52 rfl ?_
          refine aw_iadd_n (a := 40 * a) (b := h) dX11_alike_53 ?_
          refine aw_iald_n (j := (40 * a) + h) dX11_alike_54 rfl (Nat.le_of_ble_eq_true rfl) (by decide) (by omega) ?_
          refine aw_top (show _ = nI (P a) - 1 from (hPl a (by omega)).1) ?_
          refine aw_aload_n dX11_alike_55 rfl ?_
          refine aw_getR dX11_alike_56 f11_76 rfl ⟨Nat.le_of_ble_eq_true rfl, Nat.le_of_ble_eq_true rfl⟩ rfl rfl ?_
          refine aw_bipush (v := 40) dX11_alike_59 (by decide) ?_
          refine aw_iload dX11_alike_61 rfl ?_
          refine aw_imul_n (a := 40) (b := i) dX11_alike_63 ?_
          refine aw_iload_n dX11_alike_64 rfl ?_
          refine aw_iadd_n (a := 40 * i) (b := h) dX11_alike_65 ?_
          refine aw_iald_n (j := (40 * i) + h) dX11_alike_66 rfl (Nat.le_of_ble_eq_true rfl) (by decide) (by omega) ?_
          refine aw_top (show _ = nI (P i) - 1 from (hPl i (by omega)).1) ?_
          refine aw_ic_ne_p (a := P a) (b := P i) (tgt := 74) dX11_alike_67 (by decide) (by omega) (by omega) (fun c67 => ?_) (fun c67 => ?_)
          · refine aw_iconst (v := 0) dX11_alike_74 rfl ?_
            refine aw_iadd_n (a := zc (fun b2 => (b.testBit a && b.testBit b2) && (P a == P b2)) i) (b := 0) dX11_alike_75 ?_
            refine aw_istore (ls2 := [_, _, _, _, _, _, _]) dX11_alike_76 (by decide) rfl rfl ?_
            refine aw_iinc_n (ls2 := [_, _, _, _, _, _, _]) dX11_alike_78 rfl (by decide) rfl rfl ?_
            refine aw_goto (tgt := 17) dX11_alike_81 (by decide) ?_
            have e : zc (fun b2 => (b.testBit a && b.testBit b2) && (P a == P b2)) (i + 1) = zc (fun b2 => (b.testBit a && b.testBit b2) && (P a == P b2)) i + 0 := by rw [zc, if_neg (by simp [c67])]
            rw [e] at ih2
            exact ih2
          · refine aw_iconst (v := 1) dX11_alike_70 rfl ?_
            refine aw_goto (tgt := 75) dX11_alike_71 (by decide) ?_
            refine aw_iadd_n (a := zc (fun b2 => (b.testBit a && b.testBit b2) && (P a == P b2)) i) (b := 1) dX11_alike_75 ?_
            refine aw_istore (ls2 := [_, _, _, _, _, _, _]) dX11_alike_76 (by decide) rfl rfl ?_
            refine aw_iinc_n (ls2 := [_, _, _, _, _, _, _]) dX11_alike_78 rfl (by decide) rfl rfl ?_
            refine aw_goto (tgt := 17) dX11_alike_81 (by decide) ?_
            have e : zc (fun b2 => (b.testBit a && b.testBit b2) && (P a == P b2)) (i + 1) = zc (fun b2 => (b.testBit a && b.testBit b2) && (P a == P b2)) i + 1 := by rw [zc, if_pos (by simp [c31, c40, c67])]
            rw [e] at ih2
            exact ih2
theorem z_mp_at {A : Nat → Nat} (hA : A 0 ≤ 3) (i : Nat) : (z_mp A (i + 1)).2 = A (z_mp A (i + 1)).1 := by
  induction i with
  | zero => rw [z_mp, if_pos (show A 0 < (z_mp A 0).2 from Nat.lt_succ_of_le hA)]
  | succ i ih => rw [z_mp]; split
                 · rfl
                 · exact ih
theorem w_askOf (G : aw_G) {n c : Nat} {I I0 : Nat → Nat → Int32} {L : Nat → Nat → Int64} {V : Nat → Nat → Nat} {kk : Nat} {t u x y m : Nat → Nat → Nat} (hM : zMy V kk t u y m I0 I) (hP : zPu t u x y) {g : Nat → Nat → Nat} (hS : zSm g I0) {k : Nat} (hk : k < t 6 0) : aw_Met G mX11_askOf [.ref 81, .int (nI k)] (zH n I L c) (fun v h2 => v = some (.int (nI (z_mp (z_al (fun v => z_fit x u g (aw_u t 2 k v)) (fun v => o_pl x u (aw_u t 2 k v) k) (fun v => o_en x u (aw_u t 2 k v) k)) 40).1)) ∧ ∃ I2, h2 = zH n I2 L c ∧ ∃ m2, zMy V kk t u y m2 I0 I2) := by
  have h8 := hP.1.1
  refine aw_Met.of okX11_askOf (Nat.le_of_ble_eq_true rfl) ?_
  show aw_W G mX11_askOf 0 [.ref 81, .int (nI k), aw_x, aw_x, aw_x] [] (zH n I L c) (0, 0) _
  refine aw_aload_n dX11_askOf_0 rfl ?_
  refine aw_iload_n dX11_askOf_1 rfl ?_
  refine aw_V0c (As := [_]) dX11_askOf_2 k11_268 rfl rfl rfl ⟨Nat.le_of_ble_eq_true rfl, Nat.le_of_ble_eq_true rfl⟩ (Nat.le_of_ble_eq_true rfl) ⟨⟨Nat.le_of_ble_eq_true rfl, Nat.le_of_ble_eq_true rfl⟩, ⟨Nat.le_of_ble_eq_true rfl, Nat.le_of_ble_eq_true rfl⟩⟩ ⟨rfl, rfl⟩ (w_sortOf G hM hP hS hk) (fun v h2 hq => ?_)
  obtain ⟨rfl, I2, rfl, ⟨m2, hM2⟩, hPc⟩ := hq
  refine aw_istore_n (ls2 := [_, _, _, _, _]) dX11_askOf_5 (by decide) rfl rfl ?_
  refine aw_iconst (v := 0) dX11_askOf_6 rfl ?_
  refine aw_istore_n (ls2 := [_, _, _, _, _]) dX11_askOf_7 (by decide) rfl rfl ?_
  refine aw_iconst (v := 1) dX11_askOf_8 rfl ?_
  refine aw_istore (ls2 := [_, _, _, _, _]) dX11_askOf_9 (by decide) rfl rfl ?_
  have e1 : (0 : Nat) = (z_mp (z_al (fun v => z_fit x u g (aw_u t 2 k v)) (fun v => o_pl x u (aw_u t 2 k v) k) (fun v => o_en x u (aw_u t 2 k v) k)) 1).1 := by rw [z_mp, if_pos (show (z_al (fun v => z_fit x u g (aw_u t 2 k v)) (fun v => o_pl x u (aw_u t 2 k v) k) (fun v => o_en x u (aw_u t 2 k v) k)) 0 < (z_mp _ 0).2 from Nat.lt_succ_of_le z_al_le)]
  refine aw_loc3 (show (0 : Int32) = nI (z_mp (z_al (fun v => z_fit x u g (aw_u t 2 k v)) (fun v => o_pl x u (aw_u t 2 k v) k) (fun v => o_en x u (aw_u t 2 k v) k)) 1).1 by rw [← e1]; rfl) ?_
  refine aw_up (X := fun i => aw_W G mX11_askOf 11 [.ref 81, .int (nI k), .int (nI (z_who (fun v => z_fit x u g (aw_u t 2 k v)) 3)), .int (nI ((z_mp (z_al (fun v => z_fit x u g (aw_u t 2 k v)) (fun v => o_pl x u (aw_u t 2 k v) k) (fun v => o_en x u (aw_u t 2 k v) k)) i).1)), .int (nI i)] [] (zH n I2 L c) (0, 0) _) (show 1 ≤ 40 by omega) ?_ (fun i hi1 hi ih => ?_)
  · refine aw_iload dX11_askOf_11 rfl ?_
    refine aw_bipush (v := 40) dX11_askOf_13 (by decide) ?_
    refine aw_ic_ge_n (a := 40) (b := 40) (tgt := 47) dX11_askOf_15 (by decide) (by omega) (by omega) (fun c15 => ?_) (fun z => absurd z (by omega))
    refine aw_iload_n dX11_askOf_47 rfl ?_
    refine aw_reti dX11_askOf_48 rfl rfl ⟨Nat.le_of_ble_eq_true rfl, Nat.le_of_ble_eq_true rfl⟩ ?_
    exact ⟨rfl, _, rfl, m2, hM2⟩
  · have hal1 : (z_al (fun v => z_fit x u g (aw_u t 2 k v)) (fun v => o_pl x u (aw_u t 2 k v) k) (fun v => o_en x u (aw_u t 2 k v) k)) i ≤ 3 := z_al_le
    have hmp : (z_mp (z_al (fun v => z_fit x u g (aw_u t 2 k v)) (fun v => o_pl x u (aw_u t 2 k v) k) (fun v => o_en x u (aw_u t 2 k v) k)) i).2 = (z_al (fun v => z_fit x u g (aw_u t 2 k v)) (fun v => o_pl x u (aw_u t 2 k v) k) (fun v => o_en x u (aw_u t 2 k v) k)) (z_mp (z_al (fun v => z_fit x u g (aw_u t 2 k v)) (fun v => o_pl x u (aw_u t 2 k v) k) (fun v => o_en x u (aw_u t 2 k v) k)) i).1 := by
      have := z_mp_at (A := (z_al (fun v => z_fit x u g (aw_u t 2 k v)) (fun v => o_pl x u (aw_u t 2 k v) k) (fun v => o_en x u (aw_u t 2 k v) k))) z_al_le (i - 1)
      rw [show i - 1 + 1 = i by omega] at this; exact this
    have hal2 : (z_al (fun v => z_fit x u g (aw_u t 2 k v)) (fun v => o_pl x u (aw_u t 2 k v) k) (fun v => o_en x u (aw_u t 2 k v) k)) (z_mp (z_al (fun v => z_fit x u g (aw_u t 2 k v)) (fun v => o_pl x u (aw_u t 2 k v) k) (fun v => o_en x u (aw_u t 2 k v) k)) i).1 ≤ 3 := z_al_le
    have hml := (z_mp_le (A := (z_al (fun v => z_fit x u g (aw_u t 2 k v)) (fun v => o_pl x u (aw_u t 2 k v) k) (fun v => o_en x u (aw_u t 2 k v) k))) (i := i)).2
    refine aw_iload dX11_askOf_11 rfl ?_
    refine aw_bipush (v := 40) dX11_askOf_13 (by decide) ?_
    refine aw_ic_ge_n (a := i) (b := 40) (tgt := 47) dX11_askOf_15 (by decide) (by omega) (by omega) (fun z => absurd z (by omega)) (fun c15 => ?_)
    refine aw_aload_n dX11_askOf_18 rfl ?_
    refine aw_iload_n dX11_askOf_19 rfl ?_
    refine aw_iload dX11_askOf_20 rfl ?_
    refine aw_V0c (As := [_, _]) dX11_askOf_22 k11_274 rfl rfl rfl ⟨Nat.le_of_ble_eq_true rfl, Nat.le_of_ble_eq_true rfl⟩ (Nat.le_of_ble_eq_true rfl) ⟨⟨Nat.le_of_ble_eq_true rfl, Nat.le_of_ble_eq_true rfl⟩, ⟨Nat.le_of_ble_eq_true rfl, Nat.le_of_ble_eq_true rfl⟩⟩ ⟨rfl, rfl⟩ (w_alike G (h := i) (P := fun w => o_sb x u (aw_u t 2 k w) k (i)) (z_who_256 (by omega)) (by omega) (fun w hw => ⟨hPc w (i) hw (by omega), o_sb_le (hP.st (i := 2) (by decide) hw) (by rw [aw_u_ne (by decide)]; exact hk)⟩)) (fun v h2 hq => ?_)
    obtain ⟨rfl, rfl⟩ := hq
    refine aw_top (show _ = nI ((z_al (fun v => z_fit x u g (aw_u t 2 k v)) (fun v => o_pl x u (aw_u t 2 k v) k) (fun v => o_en x u (aw_u t 2 k v) k)) (i)) from congrArg nI (z_alk (f := (fun v => z_fit x u g (aw_u t 2 k v))) (p := fun v => o_pl x u (aw_u t 2 k v) k) (e := fun v => o_en x u (aw_u t 2 k v) k) (h := i))) ?_
    refine aw_aload_n dX11_askOf_25 rfl ?_
    refine aw_iload_n dX11_askOf_26 rfl ?_
    refine aw_iload_n dX11_askOf_27 rfl ?_
    refine aw_V0c (As := [_, _]) dX11_askOf_28 k11_274 rfl rfl rfl ⟨Nat.le_of_ble_eq_true rfl, Nat.le_of_ble_eq_true rfl⟩ (Nat.le_of_ble_eq_true rfl) ⟨⟨Nat.le_of_ble_eq_true rfl, Nat.le_of_ble_eq_true rfl⟩, ⟨Nat.le_of_ble_eq_true rfl, Nat.le_of_ble_eq_true rfl⟩⟩ ⟨rfl, rfl⟩ (w_alike G (h := (z_mp (z_al (fun v => z_fit x u g (aw_u t 2 k v)) (fun v => o_pl x u (aw_u t 2 k v) k) (fun v => o_en x u (aw_u t 2 k v) k)) i).1) (P := fun w => o_sb x u (aw_u t 2 k w) k ((z_mp (z_al (fun v => z_fit x u g (aw_u t 2 k v)) (fun v => o_pl x u (aw_u t 2 k v) k) (fun v => o_en x u (aw_u t 2 k v) k)) i).1)) (z_who_256 (by omega)) (by omega) (fun w hw => ⟨hPc w ((z_mp (z_al (fun v => z_fit x u g (aw_u t 2 k v)) (fun v => o_pl x u (aw_u t 2 k v) k) (fun v => o_en x u (aw_u t 2 k v) k)) i).1) hw (by omega), o_sb_le (hP.st (i := 2) (by decide) hw) (by rw [aw_u_ne (by decide)]; exact hk)⟩)) (fun v h2 hq => ?_)
    obtain ⟨rfl, rfl⟩ := hq
    refine aw_top (show _ = nI ((z_al (fun v => z_fit x u g (aw_u t 2 k v)) (fun v => o_pl x u (aw_u t 2 k v) k) (fun v => o_en x u (aw_u t 2 k v) k)) ((z_mp (z_al (fun v => z_fit x u g (aw_u t 2 k v)) (fun v => o_pl x u (aw_u t 2 k v) k) (fun v => o_en x u (aw_u t 2 k v) k)) i).1)) from congrArg nI (z_alk (f := (fun v => z_fit x u g (aw_u t 2 k v))) (p := fun v => o_pl x u (aw_u t 2 k v) k) (e := fun v => o_en x u (aw_u t 2 k v) k) (h := (z_mp (z_al (fun v => z_fit x u g (aw_u t 2 k v)) (fun v => o_pl x u (aw_u t 2 k v) k) (fun v => o_en x u (aw_u t 2 k v) k)) i).1))) ?_
    refine aw_ic_ge_n (a := (z_al (fun v => z_fit x u g (aw_u t 2 k v)) (fun v => o_pl x u (aw_u t 2 k v) k) (fun v => o_en x u (aw_u t 2 k v) k)) (i)) (b := (z_al (fun v => z_fit x u g (aw_u t 2 k v)) (fun v => o_pl x u (aw_u t 2 k v) k) (fun v => o_en x u (aw_u t 2 k v) k)) ((z_mp (z_al (fun v => z_fit x u g (aw_u t 2 k v)) (fun v => o_pl x u (aw_u t 2 k v) k) (fun v => o_en x u (aw_u t 2 k v) k)) i).1)) (tgt := 39) dX11_askOf_31 (by decide) (by omega) (by omega) (fun c31 => ?_) (fun c31 => ?_)
    · refine aw_iload_n dX11_askOf_39 rfl ?_
      refine aw_istore_n (ls2 := [_, _, _, _, _]) dX11_askOf_40 (by decide) rfl rfl ?_
      refine aw_iinc_n (ls2 := [_, _, _, _, _]) dX11_askOf_41 rfl (by decide) rfl rfl ?_
      refine aw_goto (tgt := 11) dX11_askOf_44 (by decide) ?_
      have e : z_mp (z_al (fun v => z_fit x u g (aw_u t 2 k v)) (fun v => o_pl x u (aw_u t 2 k v) k) (fun v => o_en x u (aw_u t 2 k v) k)) (i + 1) = z_mp (z_al (fun v => z_fit x u g (aw_u t 2 k v)) (fun v => o_pl x u (aw_u t 2 k v) k) (fun v => o_en x u (aw_u t 2 k v) k)) i := by rw [z_mp, if_neg (by omega)]
      rw [e] at ih
      exact ih
    · refine aw_iload dX11_askOf_34 rfl ?_
      refine aw_goto (tgt := 40) dX11_askOf_36 (by decide) ?_
      refine aw_istore_n (ls2 := [_, _, _, _, _]) dX11_askOf_40 (by decide) rfl rfl ?_
      refine aw_iinc_n (ls2 := [_, _, _, _, _]) dX11_askOf_41 rfl (by decide) rfl rfl ?_
      refine aw_goto (tgt := 11) dX11_askOf_44 (by decide) ?_
      have e : z_mp (z_al (fun v => z_fit x u g (aw_u t 2 k v)) (fun v => o_pl x u (aw_u t 2 k v) k) (fun v => o_en x u (aw_u t 2 k v) k)) (i + 1) = (i, (z_al (fun v => z_fit x u g (aw_u t 2 k v)) (fun v => o_pl x u (aw_u t 2 k v) k) (fun v => o_en x u (aw_u t 2 k v) k)) i) := by rw [z_mp, if_pos (by omega)]
      rw [e] at ih
      exact ih
theorem w_mpart (G : aw_G) {h : aw_H} {A B w : Nat} (hA : A < 4611686018427387904) (hB : B < 4611686018427387904) (hB0 : 0 < B) (hw : w < 2) : aw_Met G mX11_part [.long (lN A), .long (lN B), .int (nI w)] h (fun v h2 => v = some (.long (lN ((if w = 0 then A else B) / Nat.gcd A B))) ∧ h2 = h) := by
  refine aw_Met.of okX11_part (Nat.le_of_ble_eq_true rfl) ?_
  show aw_W G mX11_part 0 [.long (lN A), aw_x, .long (lN B), aw_x, .int (nI w), aw_x, aw_x, aw_x, aw_x, aw_x, aw_x] [] h (0, 0) _
  refine aw_lload_n dX11_part_0 rfl ?_
  refine aw_lstore (ls2 := [_, _, _, _, _, _, _, _, _, _, _]) dX11_part_1 (by decide) rfl rfl ?_
  refine aw_lload_n dX11_part_3 rfl ?_
  refine aw_lstore (ls2 := [_, _, _, _, _, _, _, _, _, _, _]) dX11_part_4 (by decide) rfl rfl ?_
  refine aw_st (X := fun b => ∀ a, Nat.gcd a b = Nat.gcd A B → a < 4611686018427387904 → b < 4611686018427387904 → aw_W G mX11_part 6 [.long (lN A), aw_x, .long (lN B), aw_x, .int (nI w), .long (lN a), aw_x, .long (lN b), aw_x, aw_x, aw_x] [] h (0, 0) _) (fun b ih a hg ha hb => ?_) B A rfl (by omega) (by omega)
  refine aw_lload dX11_part_6 rfl ?_
  refine aw_lconst (v := 0) dX11_part_8 rfl ?_
  refine aw_lcmp dX11_part_9 ?_
  refine aw_if_eq_L (a := b) (b := 0) (tgt := 31) dX11_part_10 (by decide) (by omega) (by omega) (fun c10 => ?_) (fun c10 => ?_)
  · have ha0 : 0 < a := by
      rw [c10, Nat.gcd_zero_right] at hg
      have := Nat.gcd_pos_of_pos_right A hB0
      omega
    refine aw_iload dX11_part_31 rfl ?_
    refine aw_if_ne_n (a := w) (tgt := 40) dX11_part_33 (by decide) (by omega) (fun c33 => ?_) (fun c33 => ?_)
    · refine aw_lload_n dX11_part_40 rfl ?_
      refine aw_lload dX11_part_41 rfl ?_
      refine aw_ldiv_n (a := B) (b := a) dX11_part_43 (by omega) (by omega) (by omega) ?_
      refine aw_retl dX11_part_44 rfl ⟨Nat.le_of_ble_eq_true rfl, Nat.le_of_ble_eq_true rfl⟩ ?_
      refine ⟨?_, rfl⟩
      rw [if_neg c33, ← hg, c10, Nat.gcd_zero_right]
    · refine aw_lload_n dX11_part_36 rfl ?_
      refine aw_goto (tgt := 41) dX11_part_37 (by decide) ?_
      refine aw_lload dX11_part_41 rfl ?_
      refine aw_ldiv_n (a := A) (b := a) dX11_part_43 (by omega) (by omega) (by omega) ?_
      refine aw_retl dX11_part_44 rfl ⟨Nat.le_of_ble_eq_true rfl, Nat.le_of_ble_eq_true rfl⟩ ?_
      refine ⟨?_, rfl⟩
      rw [if_pos c33, ← hg, c10, Nat.gcd_zero_right]
  · refine aw_lload dX11_part_13 rfl ?_
    refine aw_lload dX11_part_15 rfl ?_
    refine aw_lrem_n (a := a) (b := b) dX11_part_17 (by omega) (by omega) (by omega) ?_
    refine aw_lstore (ls2 := [_, _, _, _, _, _, _, _, _, _, _]) dX11_part_18 (by decide) rfl rfl ?_
    refine aw_lload dX11_part_20 rfl ?_
    refine aw_lstore (ls2 := [_, _, _, _, _, _, _, _, _, _, _]) dX11_part_22 (by decide) rfl rfl ?_
    refine aw_lload dX11_part_24 rfl ?_
    refine aw_lstore (ls2 := [_, _, _, _, _, _, _, _, _, _, _]) dX11_part_26 (by decide) rfl rfl ?_
    refine aw_goto (tgt := 6) dX11_part_28 (by decide) ?_
    refine aw_kill (j := 9) (ls2 := [_, _, _, _, _, _, _, _, _, aw_x, _]) rfl ?_
    have hmd : a % b < b := Nat.mod_lt _ (by omega)
    refine ih (a % b) hmd b ?_ (by omega) (by omega)
    rw [← hg, Nat.gcd_comm a b, Nat.gcd_rec b a, Nat.gcd_comm]
theorem z_sum_congr {f g : Nat → Nat} {n : Nat} (h : ∀ i, i < n → f i = g i) : z_sum f n = z_sum g n := by
  induction n with
  | zero => rfl
  | succ n ih => rw [z_sum, z_sum, ih (fun i hi => h i (by omega)), h n (by omega)]
theorem z_sum_add {f : Nat → Nat} {n m : Nat} : z_sum f (n + m) = z_sum f n + z_sum (fun i => f (n + i)) m := by
  induction m with
  | zero => rfl
  | succ m ih => rw [← Nat.add_assoc, z_sum, ih, z_sum, Nat.add_assoc]
theorem z_sum_mul {f : Nat → Nat} {n c : Nat} : z_sum (fun i => f i * c) n = z_sum f n * c := by
  induction n with
  | zero => rw [z_sum, z_sum, Nat.zero_mul]
  | succ n ih => rw [z_sum, z_sum, ih, Nat.add_mul]
theorem z_sum_mono {f g : Nat → Nat} {n : Nat} (h : ∀ i, i < n → f i ≤ g i) : z_sum f n ≤ z_sum g n := by
  induction n with
  | zero => exact Nat.le_refl _
  | succ n ih => rw [z_sum, z_sum]; have := ih (fun i hi => h i (by omega)); have := h n (by omega); omega
theorem z_wt_hi {c w a n : Nat} (ha : a ≤ n) : z_wt c (2 ^ n + w) a = z_wt c w a := by
  induction a with
  | zero => rfl
  | succ a ih => rw [z_wt, z_wt, ih (by omega), Nat.testBit_two_pow_add_gt (by omega)]
theorem z_wt_sum {c n : Nat} (hc : c ≤ 16) : z_sum (fun w => z_wt c w n) (2 ^ n) = 16 ^ n := by
  induction n with
  | zero => rfl
  | succ n ih =>
    rw [show (2 : Nat) ^ (n + 1) = 2 ^ n + 2 ^ n by rw [Nat.pow_succ]; omega, z_sum_add]
    have e1 : z_sum (fun w => z_wt c w (n + 1)) (2 ^ n) = z_sum (fun w => z_wt c w n) (2 ^ n) * c := by
      rw [← z_sum_mul]
      refine z_sum_congr (fun w hw => ?_)
      show z_wt c w (n + 1) = _
      rw [z_wt, Nat.testBit_lt_two_pow hw, if_neg (by decide)]
    have e2 : z_sum (fun i => z_wt c (2 ^ n + i) (n + 1)) (2 ^ n) = z_sum (fun w => z_wt c w n) (2 ^ n) * (16 - c) := by
      rw [← z_sum_mul]
      refine z_sum_congr (fun w hw => ?_)
      show z_wt c (2 ^ n + w) (n + 1) = _
      rw [z_wt, z_wt_hi (Nat.le_refl n), Nat.testBit_two_pow_add_eq, Nat.testBit_lt_two_pow hw, if_pos (by decide)]
    rw [e1, e2, ih, ← Nat.mul_add, show c + (16 - c) = 16 by omega, Nat.pow_succ]
theorem z_wf_sum {x u t : Nat → Nat → Nat} {c k w : Nat} (hc : c ≤ 16) (hw : w ≤ 2 ^ u 2 0) : z_sum (z_wf x u t c k) w ≤ 16 ^ u 2 0 := by
  obtain ⟨d, hd⟩ : ∃ d, 2 ^ u 2 0 = w + d := ⟨2 ^ u 2 0 - w, by omega⟩
  have h1 : z_sum (z_wf x u t c k) w ≤ z_sum (fun w => z_wt c w (u 2 0)) w := z_sum_mono (fun i _ => by
    unfold z_wf; split
    · exact Nat.le_refl _
    · exact Nat.zero_le _)
  have h2 := z_wt_sum (c := c) (n := u 2 0) hc
  rw [hd, z_sum_add] at h2
  omega
theorem w_rumourOf (G : aw_G) {n c0 : Nat} {I I0 : Nat → Nat → Int32} {L : Nat → Nat → Int64} {V : Nat → Nat → Nat} {kk : Nat} {t u x y m : Nat → Nat → Nat} (hM : zMy V kk t u y m I0 I) (hP : zPu t u x y) {c k a : Nat} (hk : k < t 6 0) (hc : c ≤ 16) (ha : a < 2) (h0 : t 6 1 = 0) : aw_Met G mX11_rumourOf [.ref 81, .int (nI c), .int (nI k), .int (nI a)] (zH n I L c0) (fun v h2 => v = some (.long (lN ((if a = 0 then z_sum (z_wf x u t c k) (2 ^ u 2 0) else 16 ^ u 2 0) / Nat.gcd (z_sum (z_wf x u t c k) (2 ^ u 2 0)) (16 ^ u 2 0)))) ∧ ∃ I2, h2 = zH n I2 L c0 ∧ ∃ m2, zMy V kk t u y m2 I0 I2) := by
  refine aw_Met.of okX11_rumourOf (Nat.le_of_ble_eq_true rfl) ?_
  show aw_W G mX11_rumourOf 0 [.ref 81, .int (nI c), .int (nI k), .int (nI a), aw_x, aw_x, aw_x, aw_x, aw_x, aw_x] [] (zH n I L c0) (0, 0) _
  refine aw_lconst (v := 0) dX11_rumourOf_0 rfl ?_
  refine aw_lstore (ls2 := [_, _, _, _, _, _, _, _, _, _]) dX11_rumourOf_1 (by decide) rfl rfl ?_
  refine aw_iconst (v := 0) dX11_rumourOf_3 rfl ?_
  refine aw_istore (ls2 := [_, _, _, _, _, _, _, _, _, _]) dX11_rumourOf_4 (by decide) rfl rfl ?_
  have h8 := hP.1.1
  have hu8 := hP.2.2.1.1
  have hp16 := pow16_le hu8
  have hp2 : 2 ^ u 2 0 ≤ 2 ^ 8 := Nat.pow_le_pow_right (by decide) hu8
  refine aw_up (X := fun w => ∀ I m v0, zMy V kk (aw_u t 6 1 v0) u y m I0 I → aw_W G mX11_rumourOf 6 [.ref 81, .int (nI c), .int (nI k), .int (nI a), .long (lN (z_sum (z_wf x u t c k) w)), aw_x, .int (nI w), aw_x, aw_x, aw_x] [] (zH n I L c0) (0, 0) _) (Nat.zero_le (2 ^ u 2 0)) (fun I m v0 hM => ?_) (fun w _ hw ih I m v0 hM => ?_) _ _ (t 6 1) (by rw [aw_u_id]; exact hM)
  · have hsl := z_wf_sum (x := x) (t := t) (k := k) hc (Nat.le_refl (2 ^ u 2 0))
    refine aw_iload dX11_rumourOf_6 rfl ?_
    refine aw_iconst (v := 1) dX11_rumourOf_8 rfl ?_
    refine aw_aload_n dX11_rumourOf_9 rfl ?_
    refine aw_getI dX11_rumourOf_10 f11_166 rfl ⟨Nat.le_of_ble_eq_true rfl, Nat.le_of_ble_eq_true rfl⟩ rfl ?_
    refine aw_top hM.2.2.1.1 ?_
    refine aw_ishl dX11_rumourOf_13 ?_
    refine aw_top (zi_sh1 (u 2 0) (by omega)) ?_
    refine aw_ic_ge_n (a := 2 ^ u 2 0) (b := 2 ^ u 2 0) (tgt := 96) dX11_rumourOf_14 (by decide) (by omega) (by omega) (fun c14 => ?_) (fun z => absurd z (by omega))
    refine aw_aload_n dX11_rumourOf_96 rfl ?_
    refine aw_iconst (v := 0) dX11_rumourOf_97 rfl ?_
    refine aw_putI dX11_rumourOf_98 f11_174 rfl ⟨Nat.le_of_ble_eq_true rfl, Nat.le_of_ble_eq_true rfl⟩ (Or.inl rfl) rfl ?_
    refine aw_lload dX11_rumourOf_101 rfl ?_
    refine aw_lconst (v := 1) dX11_rumourOf_103 rfl ?_
    refine aw_iconst (v := 4) dX11_rumourOf_104 rfl ?_
    refine aw_aload_n dX11_rumourOf_105 rfl ?_
    refine aw_getI dX11_rumourOf_106 f11_166 rfl ⟨Nat.le_of_ble_eq_true rfl, Nat.le_of_ble_eq_true rfl⟩ rfl ?_
    refine aw_top ((aw_u_nj (by decide)).trans hM.2.2.1.1) ?_
    refine aw_imul_n (a := 4) (b := u 2 0) dX11_rumourOf_109 ?_
    refine aw_lshl dX11_rumourOf_110 ?_
    refine aw_topl (zi_16 hu8) ?_
    refine aw_iload_n dX11_rumourOf_111 rfl ?_
    refine aw_S0c (As := [_, _, _]) dX11_rumourOf_112 k11_280 rfl rfl (Nat.le_of_ble_eq_true rfl) ⟨⟨Nat.le_of_ble_eq_true rfl, Nat.le_of_ble_eq_true rfl⟩, ⟨Nat.le_of_ble_eq_true rfl, Nat.le_of_ble_eq_true rfl⟩⟩ ⟨rfl, rfl⟩ (w_mpart G (A := z_sum (z_wf x u t c k) (2 ^ u 2 0)) (B := 16 ^ u 2 0) (by omega) (by omega) (Nat.pow_pos (by decide)) ha) (fun v h2 hq => ?_)
    obtain ⟨rfl, rfl⟩ := hq
    refine aw_retl dX11_rumourOf_115 rfl ⟨Nat.le_of_ble_eq_true rfl, Nat.le_of_ble_eq_true rfl⟩ ?_
    refine ⟨rfl, _, rfl, m, ?_⟩
    have h := hM.gn (v := 0)
    rw [aw_u_uu, show aw_u t 6 1 0 = t from by conv => rhs; rw [← aw_u_id (F := t) (o := 6) (j := 1), h0]] at h
    exact h
  · have hsl := z_wf_sum (x := x) (u := u) (t := t) (k := k) (w := w) hc (by omega)
    refine aw_iload dX11_rumourOf_6 rfl ?_
    refine aw_iconst (v := 1) dX11_rumourOf_8 rfl ?_
    refine aw_aload_n dX11_rumourOf_9 rfl ?_
    refine aw_getI dX11_rumourOf_10 f11_166 rfl ⟨Nat.le_of_ble_eq_true rfl, Nat.le_of_ble_eq_true rfl⟩ rfl ?_
    refine aw_top hM.2.2.1.1 ?_
    refine aw_ishl dX11_rumourOf_13 ?_
    refine aw_top (zi_sh1 (u 2 0) (by omega)) ?_
    refine aw_ic_ge_n (a := w) (b := 2 ^ u 2 0) (tgt := 96) dX11_rumourOf_14 (by decide) (by omega) (by omega) (fun z => absurd z (by omega)) (fun c14 => ?_)
    refine aw_aload_n dX11_rumourOf_17 rfl ?_
    refine aw_iload dX11_rumourOf_18 rfl ?_
    refine aw_putI dX11_rumourOf_20 f11_174 rfl ⟨Nat.le_of_ble_eq_true rfl, Nat.le_of_ble_eq_true rfl⟩ (Or.inl rfl) rfl ?_
    have hM1 := hM.gn (v := w)
    rw [aw_u_uu] at hM1
    have hP1 : zPu (aw_u t 6 1 w) u x y := hP.gn (by omega)
    refine aw_aload_n dX11_rumourOf_23 rfl ?_
    refine aw_V0c (As := []) dX11_rumourOf_24 k11_215 rfl rfl rfl ⟨Nat.le_of_ble_eq_true rfl, Nat.le_of_ble_eq_true rfl⟩ (Nat.le_of_ble_eq_true rfl) ⟨⟨Nat.le_of_ble_eq_true rfl, Nat.le_of_ble_eq_true rfl⟩, ⟨Nat.le_of_ble_eq_true rfl, Nat.le_of_ble_eq_true rfl⟩⟩ ⟨rfl, rfl⟩ (w_lv G hM1 hP1) (fun v h2 hq => ?_)
    obtain ⟨rfl, I2, rfl, hM2, hTo, hFr⟩ := hq
    have hle := o_st_le (u := u) hP1.1 hP1.2.2.2 (k := k) (by rw [aw_u_nj (by decide)]; exact hk)
    refine aw_aload_n dX11_rumourOf_27 rfl ?_
    refine aw_getR dX11_rumourOf_28 f11_46 rfl ⟨Nat.le_of_ble_eq_true rfl, Nat.le_of_ble_eq_true rfl⟩ rfl rfl ?_
    refine aw_iload_n dX11_rumourOf_31 rfl ?_
    refine aw_iald_n (j := k) dX11_rumourOf_32 rfl (Nat.le_of_ble_eq_true rfl) (by decide) (by omega) ?_
    refine aw_top (hTo k (by rw [aw_u_nj (by decide)]; exact hk)).1 ?_
    refine aw_iconst (v := 2) dX11_rumourOf_33 rfl ?_
    refine aw_ic_ne_n (a := o_st x u (aw_u t 6 1 w) k) (b := 2) (tgt := 90) dX11_rumourOf_34 (by decide) (by omega) (by omega) (fun c34 => ?_) (fun c34 => ?_)
    · refine aw_iinc_n (ls2 := [_, _, _, _, _, _, _, _, _, _]) dX11_rumourOf_90 rfl (by decide) rfl rfl ?_
      refine aw_goto (tgt := 6) dX11_rumourOf_93 (by decide) ?_
      have e : z_sum (z_wf x u t c k) (w + 1) = z_sum (z_wf x u t c k) w := by rw [z_sum, show z_wf x u t c k w = 0 from if_neg c34, Nat.add_zero]
      rw [e] at ih
      exact ih _ _ _ hM2
    · refine aw_lconst (v := 1) dX11_rumourOf_37 rfl ?_
      refine aw_lstore (ls2 := [_, _, _, _, _, _, _, _, _, _]) dX11_rumourOf_38 (by decide) rfl rfl ?_
      refine aw_iconst (v := 0) dX11_rumourOf_40 rfl ?_
      refine aw_istore (ls2 := [_, _, _, _, _, _, _, _, _, _]) dX11_rumourOf_41 (by decide) rfl rfl ?_
      refine aw_up (X := fun j => aw_W G mX11_rumourOf 43 [.ref 81, .int (nI c), .int (nI k), .int (nI a), .long (lN (z_sum (z_wf x u t c k) w)), aw_x, .int (nI w), .long (lN (z_wt c w j)), aw_x, .int (nI j)] [] (zH n I2 L c0) (0, 0) _) (Nat.zero_le (u 2 0)) ?_ (fun j _ hj ih2 => ?_)
      · refine aw_iload dX11_rumourOf_43 rfl ?_
        refine aw_aload_n dX11_rumourOf_45 rfl ?_
        refine aw_getI dX11_rumourOf_46 f11_166 rfl ⟨Nat.le_of_ble_eq_true rfl, Nat.le_of_ble_eq_true rfl⟩ rfl ?_
        refine aw_top hM2.2.2.1.1 ?_
        refine aw_ic_ge_n (a := u 2 0) (b := u 2 0) (tgt := 83) dX11_rumourOf_49 (by decide) (by omega) (by omega) (fun c49 => ?_) (fun z => absurd z (by omega))
        refine aw_lload dX11_rumourOf_83 rfl ?_
        refine aw_lload dX11_rumourOf_85 rfl ?_
        refine aw_ladd_n (a := z_sum (z_wf x u t c k) w) (b := z_wt c w (u 2 0)) dX11_rumourOf_87 ?_
        refine aw_lstore (ls2 := [_, _, _, _, _, _, _, _, _, _]) dX11_rumourOf_88 (by decide) rfl rfl ?_
        refine aw_iinc_n (ls2 := [_, _, _, _, _, _, _, _, _, _]) dX11_rumourOf_90 rfl (by decide) rfl rfl ?_
        refine aw_goto (tgt := 6) dX11_rumourOf_93 (by decide) ?_
        refine aw_kill (j := 7) (ls2 := [_, _, _, _, _, _, _, aw_x, _, _]) rfl (aw_kill (j := 9) (ls2 := [_, _, _, _, _, _, _, _, _, aw_x]) rfl ?_)
        have e : z_sum (z_wf x u t c k) (w + 1) = z_sum (z_wf x u t c k) w + z_wt c w (u 2 0) := by rw [z_sum, show z_wf x u t c k w = z_wt c w (u 2 0) from if_pos c34]
        rw [e] at ih
        exact ih _ _ _ hM2
      · refine aw_iload dX11_rumourOf_43 rfl ?_
        refine aw_aload_n dX11_rumourOf_45 rfl ?_
        refine aw_getI dX11_rumourOf_46 f11_166 rfl ⟨Nat.le_of_ble_eq_true rfl, Nat.le_of_ble_eq_true rfl⟩ rfl ?_
        refine aw_top hM2.2.2.1.1 ?_
        refine aw_ic_ge_n (a := j) (b := u 2 0) (tgt := 83) dX11_rumourOf_49 (by decide) (by omega) (by omega) (fun z => absurd z (by omega)) (fun c49 => ?_)
        refine aw_lload dX11_rumourOf_52 rfl ?_
        refine aw_iload dX11_rumourOf_54 rfl ?_
        refine aw_iload dX11_rumourOf_56 rfl ?_
        refine aw_S0c (As := [_, _]) dX11_rumourOf_58 k11_177 rfl rfl (Nat.le_of_ble_eq_true rfl) ⟨⟨Nat.le_of_ble_eq_true rfl, Nat.le_of_ble_eq_true rfl⟩, ⟨Nat.le_of_ble_eq_true rfl, Nat.le_of_ble_eq_true rfl⟩⟩ ⟨rfl, rfl⟩ (w_isIn G (w := w) (a := j) (by omega) (by omega)) (fun v h2 hq => ?_)
        obtain ⟨rfl, rfl⟩ := hq
        refine aw_if_eq_B (tgt := 72) dX11_rumourOf_61 (by decide) (fun c61 => ?_) (fun c61 => ?_)
        · refine aw_iload_n dX11_rumourOf_72 rfl ?_
          refine aw_i2l_n (a := c) dX11_rumourOf_73 (by omega) ?_
          refine aw_lmul_n (a := z_wt c w j) (b := c) dX11_rumourOf_74 ?_
          refine aw_lstore (ls2 := [_, _, _, _, _, _, _, _, _, _]) dX11_rumourOf_75 (by decide) rfl rfl ?_
          refine aw_iinc_n (ls2 := [_, _, _, _, _, _, _, _, _, _]) dX11_rumourOf_77 rfl (by decide) rfl rfl ?_
          refine aw_goto (tgt := 43) dX11_rumourOf_80 (by decide) ?_
          have e : z_wt c w (j + 1) = z_wt c w j * c := by rw [z_wt, if_neg c61]
          rw [e] at ih2
          exact ih2
        · refine aw_bipush (v := 16) dX11_rumourOf_64 (by decide) ?_
          refine aw_iload_n dX11_rumourOf_66 rfl ?_
          refine aw_isub_n (a := 16) (b := c) dX11_rumourOf_67 (by omega) ?_
          refine aw_i2l_n (a := 16 - c) dX11_rumourOf_68 (by omega) ?_
          refine aw_goto (tgt := 74) dX11_rumourOf_69 (by decide) ?_
          refine aw_lmul_n (a := z_wt c w j) (b := 16 - c) dX11_rumourOf_74 ?_
          refine aw_lstore (ls2 := [_, _, _, _, _, _, _, _, _, _]) dX11_rumourOf_75 (by decide) rfl rfl ?_
          refine aw_iinc_n (ls2 := [_, _, _, _, _, _, _, _, _, _]) dX11_rumourOf_77 rfl (by decide) rfl rfl ?_
          refine aw_goto (tgt := 43) dX11_rumourOf_80 (by decide) ?_
          have e : z_wt c w (j + 1) = z_wt c w j * (16 - c) := by rw [z_wt, if_pos c61]
          rw [e] at ih2
          exact ih2
theorem w_lot (G : aw_G) {n c : Nat} {I : Nat → Nat → Int32} {L : Nat → Nat → Int64} {z : Int32} (hz : I 81 31 = z) : aw_Met G mX11_lot [.ref 81, .int 100] (zH n I L c) (fun v h2 => v = some (.int (nI (z_lot (1103515245 * z + 12345)))) ∧ h2 = zH n (aw_u I 81 31 (1103515245 * z + 12345)) L c) := by
  refine aw_Met.of okX11_lot (Nat.le_of_ble_eq_true rfl) ?_
  show aw_W G mX11_lot 0 [.ref 81, .int 100] [] (zH n I L c) (0, 0) _
  refine aw_aload_n dX11_lot_0 rfl ?_
  refine aw_ldcw dX11_lot_1 co11_294 ?_
  refine aw_aload_n dX11_lot_4 rfl ?_
  refine aw_getI dX11_lot_5 f11_295 rfl ⟨Nat.le_of_ble_eq_true rfl, Nat.le_of_ble_eq_true rfl⟩ rfl ?_
  refine aw_top hz ?_
  refine aw_imul dX11_lot_8 ?_
  refine aw_sipush (v := 12345) dX11_lot_9 (by decide) ?_
  refine aw_iadd dX11_lot_12 ?_
  refine aw_putI dX11_lot_13 f11_295 rfl ⟨Nat.le_of_ble_eq_true rfl, Nat.le_of_ble_eq_true rfl⟩ (Or.inl rfl) rfl ?_
  refine aw_aload_n dX11_lot_16 rfl ?_
  refine aw_getI dX11_lot_17 f11_295 rfl ⟨Nat.le_of_ble_eq_true rfl, Nat.le_of_ble_eq_true rfl⟩ rfl ?_
  refine aw_top (show _ = (1103515245 * z + 12345 : Int32) from aw_u_eq) ?_
  refine aw_bipush (v := 16) dX11_lot_20 (by decide) ?_
  refine aw_iushr dX11_lot_22 ?_
  refine aw_top (z_ush (1103515245 * z + 12345)) ?_
  have hush : (1103515245 * z + 12345 : Int32).toBitVec.toNat / 65536 < 65536 := by have := (1103515245 * z + 12345 : Int32).toBitVec.isLt; omega
  refine aw_iload_n dX11_lot_23 rfl ?_
  refine aw_irem_n (a := (1103515245 * z + 12345).toBitVec.toNat / 65536) (b := 100) dX11_lot_24 (by omega) (by omega) (by omega) ?_
  refine aw_reti dX11_lot_25 rfl rfl ⟨Nat.le_of_ble_eq_true rfl, Nat.le_of_ble_eq_true rfl⟩ ?_
  exact ⟨rfl, rfl⟩
theorem t_dr_row {t : Nat → Nat → Nat} {s : Int32} {i a : Nat} (ha : a ≠ 3) : t_dr t s i a = t a := by
  induction i with
  | zero => rfl
  | succ i ih => rw [t_dr, aw_u_ne ha]; exact ih
theorem z_lot_lt {x : Int32} : z_lot x < 100 := Nat.mod_lt _ (by decide)
theorem zPu.dr {t u x y : Nat → Nat → Nat} {s : Int32} (h : zPu t u x y) (i : Nat) : zPu (t_dr t s i) u x y := by
  induction i with
  | zero => exact h
  | succ i ih => rw [t_dr]; exact ih.st (i := 3) (by decide) (show _ < 1000 from Nat.lt_trans z_lot_lt (by decide))
theorem zMy.rc {V : Nat → Nat → Nat} {kk : Nat} {t t2 u y m : Nat → Nat → Nat} {I0 I I2 : Nat → Nat → Int32} {b : Nat → Nat} (h : zMy V kk t2 u y m I0 I) (hC : zCy (t_c b) (t 6 0) I2) (hF : zFr1 89 9 I I2) (h61 : t 6 1 = t2 6 1) (h60 : t 6 0 = t2 6 0) (h5 : t 5 = t2 5) (hc : ∀ j k, j < 5 → k < t 6 0 → t j k = t_c b k j) : zMy V kk t u y m I0 I2 := by
  obtain ⟨h1, h2, h3, h4, h5', h6, h7, h8⟩ := h
  have hr : ∀ o, o ≠ 89 → o ≠ 81 → I2 o = I o := hF.1
  refine ⟨⟨by rw [hF.2 7 (by decide)]; exact h1.1, fun w j hw hj => by rw [hr 88 (by decide) (by decide)]; exact h1.2 w j hw hj⟩, ⟨fun j k hj hk => by rw [hc j k hj hk]; exact hC.2 k j hk hj, fun k hk => by rw [hr 90 (by decide) (by decide), h5]; exact h2.2.1 k (by omega), hC.1, by rw [hF.2 14 (by decide), h61]; exact h2.2.2.2⟩, ⟨by rw [hF.2 12 (by decide)]; exact h3.1, fun a ha => by rw [hr 91 (by decide) (by decide)]; exact h3.2 a ha⟩, fun j hj => by rw [hr 92 (by decide) (by decide), hr 93 (by decide) (by decide)]; exact h4 j hj, h5'.mv2 (fun a ha => hr _ (by omega) (by omega)) (hF.2 26 (by decide)) (hF.2 27 (by decide)), h6, fun k hk => by rw [hr 90 (by decide) (by decide), h5]; exact h7 k hk, h8.trans ⟨fun o a _ b _ _ _ => hr o b a, fun j _ b _ _ _ _ => hF.2 j b⟩⟩
theorem zBm.fm {b0 b1 : Nat → Nat} {l0 l1 : Nat} {I0 I : Nat → Nat → Int32} (h : zBm b0 b1 l0 l1 I0) (hF : zFm I0 I) : zBm b0 b1 l0 l1 I :=
  h.mv (hF.1 86 (by decide) (by decide) (by decide) (by decide) (by decide) (by decide)) (hF.1 87 (by decide) (by decide) (by decide) (by decide) (by decide) (by decide))
theorem w_marketOf (G : aw_G) {n c : Nat} {I I0 : Nat → Nat → Int32} {L : Nat → Nat → Int64} {V : Nat → Nat → Nat} {kk : Nat} {t u x y m : Nat → Nat → Nat} (hM : zMy V kk t u y m I0 I) (hP : zPu t u x y) {b0 b1 : Nat → Nat} {l0 l1 : Nat} {sd : Int32} {a : Nat} (hB : zBm b0 b1 l0 l1 I0) (ha : a < 2) (h60 : t 6 0 = q_k (q_c b1) 7 l1) (htc : ∀ j k, j < 5 → k < t 6 0 → t j k = t_c b1 k j) : aw_Met G mX11_marketOf [.ref 81, .int sd, .int (nI a)] (zH n I L c) (fun v h2 => v = some (.int (nI (z_ones (o_who x u (t_dr t sd (t 6 0)) (if a = 0 then 2 else 4))))) ∧ ∃ I2, h2 = zH n I2 L c ∧ ∃ m2, zMy V kk t u y m2 I0 I2) := by
  have h8 := hP.1.1
  refine aw_Met.of okX11_marketOf (Nat.le_of_ble_eq_true rfl) ?_
  show aw_W G mX11_marketOf 0 [.ref 81, .int sd, .int (nI a), aw_x] [] (zH n I L c) (0, 0) _
  refine aw_aload_n dX11_marketOf_0 rfl ?_
  refine aw_iload_n dX11_marketOf_1 rfl ?_
  refine aw_putI dX11_marketOf_2 f11_295 rfl ⟨Nat.le_of_ble_eq_true rfl, Nat.le_of_ble_eq_true rfl⟩ (Or.inl rfl) rfl ?_
  refine aw_iconst (v := 0) dX11_marketOf_5 rfl ?_
  refine aw_istore_n (ls2 := [_, _, _, _]) dX11_marketOf_6 (by decide) rfl rfl ?_
  refine aw_up (X := fun i => ∀ I m, zMy V kk (t_dr t sd i) u y m I0 I ∧ I 81 31 = z_seed sd i → aw_W G mX11_marketOf 7 [.ref 81, .int sd, .int (nI a), .int (nI i)] [] (zH n I L c) (0, 0) _) (Nat.zero_le (t 6 0)) (fun I m hh => ?_) (fun i _ hi ih I m hh => ?_) _ _ ⟨hM.dr, by rw [aw_u_eq]; rfl⟩
  · obtain ⟨hM, hz⟩ := hh
    have hPd : zPu (t_dr t sd (t 6 0)) u x y := hP.dr _
    refine aw_iload_n dX11_marketOf_7 rfl ?_
    refine aw_aload_n dX11_marketOf_8 rfl ?_
    refine aw_getI dX11_marketOf_9 f11_133 rfl ⟨Nat.le_of_ble_eq_true rfl, Nat.le_of_ble_eq_true rfl⟩ rfl ?_
    refine aw_top (hM.2.1.2.2.1.trans (by rw [t_dr_row (by decide)])) ?_
    refine aw_ic_ge_n (a := t 6 0) (b := t 6 0) (tgt := 37) dX11_marketOf_12 (by decide) (by omega) (by omega) (fun c12 => ?_) (fun z => absurd z (by omega))
    refine aw_aload_n dX11_marketOf_37 rfl ?_
    refine aw_V0c (As := []) dX11_marketOf_38 k11_215 rfl rfl rfl ⟨Nat.le_of_ble_eq_true rfl, Nat.le_of_ble_eq_true rfl⟩ (Nat.le_of_ble_eq_true rfl) ⟨⟨Nat.le_of_ble_eq_true rfl, Nat.le_of_ble_eq_true rfl⟩, ⟨Nat.le_of_ble_eq_true rfl, Nat.le_of_ble_eq_true rfl⟩⟩ ⟨rfl, rfl⟩ (w_lv G hM hPd) (fun v h2 hq => ?_)
    obtain ⟨rfl, I2, rfl, hM2, hTo, hFr⟩ := hq
    refine aw_aload_n dX11_marketOf_41 rfl ?_
    refine aw_V0c (As := []) dX11_marketOf_42 k11_143 rfl rfl rfl ⟨Nat.le_of_ble_eq_true rfl, Nat.le_of_ble_eq_true rfl⟩ (Nat.le_of_ble_eq_true rfl) ⟨⟨Nat.le_of_ble_eq_true rfl, Nat.le_of_ble_eq_true rfl⟩, ⟨Nat.le_of_ble_eq_true rfl, Nat.le_of_ble_eq_true rfl⟩⟩ ⟨rfl, rfl⟩ (w_readsCarters G (hB.fm hM2.2.2.2.2.2.2.2)) (fun v h2 hq => ?_)
    obtain ⟨rfl, I3, rfl, hC3, hF3⟩ := hq
    rw [← h60] at hC3
    have hM3 : zMy V kk t u y _ I0 I3 := hM2.rc hC3 hF3 (by rw [t_dr_row (by decide)]) (by rw [t_dr_row (by decide)]) (by rw [t_dr_row (by decide)]) htc
    refine aw_pop dX11_marketOf_45 rfl ?_
    refine aw_aload_n dX11_marketOf_46 rfl ?_
    refine aw_iload_n dX11_marketOf_47 rfl ?_
    refine aw_if_ne_n (a := a) (tgt := 55) dX11_marketOf_48 (by decide) (by omega) (fun c48 => ?_) (fun c48 => ?_)
    · refine aw_iconst (v := 4) dX11_marketOf_55 rfl ?_
      refine aw_V0c (As := [_]) dX11_marketOf_56 k11_226 rfl rfl rfl ⟨Nat.le_of_ble_eq_true rfl, Nat.le_of_ble_eq_true rfl⟩ (Nat.le_of_ble_eq_true rfl) ⟨⟨Nat.le_of_ble_eq_true rfl, Nat.le_of_ble_eq_true rfl⟩, ⟨Nat.le_of_ble_eq_true rfl, Nat.le_of_ble_eq_true rfl⟩⟩ ⟨rfl, rfl⟩ (w_whoBy G (a := 4) hM3.2.2.2.2.1 hM3.2.1.2.2.1 (by decide) h8 (fun j hj => by rw [(zOutM hPd hM.2.2.2.2.2.1 (by rw [t_dr_row (by decide)]; exact hj)).1]; have := o_st_le (u := u) (k := j) hPd.1 hPd.2.2.2 (by rw [t_dr_row (by decide)]; exact hj); omega)) (fun v h2 hq => ?_)
      obtain ⟨rfl, rfl⟩ := hq
      have hw := zCmM (a := 4) hPd hM.2.2.2.2.2.1
      rw [t_dr_row (by decide)] at hw
      rw [hw]
      have hw256 : o_who x u (t_dr t sd (t 6 0)) 4 < 256 := by rw [← hw]; exact z_who_256 h8
      refine aw_S0c (As := [_]) dX11_marketOf_59 k11_235 rfl rfl (Nat.le_of_ble_eq_true rfl) ⟨⟨Nat.le_of_ble_eq_true rfl, Nat.le_of_ble_eq_true rfl⟩, ⟨Nat.le_of_ble_eq_true rfl, Nat.le_of_ble_eq_true rfl⟩⟩ ⟨rfl, rfl⟩ (w_ones G hw256) (fun v h2 hq => ?_)
      obtain ⟨rfl, rfl⟩ := hq
      refine aw_reti dX11_marketOf_62 rfl rfl ⟨Nat.le_of_ble_eq_true rfl, Nat.le_of_ble_eq_true rfl⟩ ?_
      exact ⟨by rw [if_neg c48], _, rfl, _, hM3⟩
    · refine aw_iconst (v := 2) dX11_marketOf_51 rfl ?_
      refine aw_goto (tgt := 56) dX11_marketOf_52 (by decide) ?_
      refine aw_V0c (As := [_]) dX11_marketOf_56 k11_226 rfl rfl rfl ⟨Nat.le_of_ble_eq_true rfl, Nat.le_of_ble_eq_true rfl⟩ (Nat.le_of_ble_eq_true rfl) ⟨⟨Nat.le_of_ble_eq_true rfl, Nat.le_of_ble_eq_true rfl⟩, ⟨Nat.le_of_ble_eq_true rfl, Nat.le_of_ble_eq_true rfl⟩⟩ ⟨rfl, rfl⟩ (w_whoBy G (a := 2) hM3.2.2.2.2.1 hM3.2.1.2.2.1 (by decide) h8 (fun j hj => by rw [(zOutM hPd hM.2.2.2.2.2.1 (by rw [t_dr_row (by decide)]; exact hj)).1]; have := o_st_le (u := u) (k := j) hPd.1 hPd.2.2.2 (by rw [t_dr_row (by decide)]; exact hj); omega)) (fun v h2 hq => ?_)
      obtain ⟨rfl, rfl⟩ := hq
      have hw := zCmM (a := 2) hPd hM.2.2.2.2.2.1
      rw [t_dr_row (by decide)] at hw
      rw [hw]
      have hw256 : o_who x u (t_dr t sd (t 6 0)) 2 < 256 := by rw [← hw]; exact z_who_256 h8
      refine aw_S0c (As := [_]) dX11_marketOf_59 k11_235 rfl rfl (Nat.le_of_ble_eq_true rfl) ⟨⟨Nat.le_of_ble_eq_true rfl, Nat.le_of_ble_eq_true rfl⟩, ⟨Nat.le_of_ble_eq_true rfl, Nat.le_of_ble_eq_true rfl⟩⟩ ⟨rfl, rfl⟩ (w_ones G hw256) (fun v h2 hq => ?_)
      obtain ⟨rfl, rfl⟩ := hq
      refine aw_reti dX11_marketOf_62 rfl rfl ⟨Nat.le_of_ble_eq_true rfl, Nat.le_of_ble_eq_true rfl⟩ ?_
      exact ⟨by rw [if_pos c48], _, rfl, _, hM3⟩
  · obtain ⟨hM, hz⟩ := hh
    have hk6 : i < t_dr t sd i 6 0 := by rw [t_dr_row (by decide)]; exact hi
    refine aw_iload_n dX11_marketOf_7 rfl ?_
    refine aw_aload_n dX11_marketOf_8 rfl ?_
    refine aw_getI dX11_marketOf_9 f11_133 rfl ⟨Nat.le_of_ble_eq_true rfl, Nat.le_of_ble_eq_true rfl⟩ rfl ?_
    refine aw_top (hM.2.1.2.2.1.trans (by rw [t_dr_row (by decide)])) ?_
    refine aw_ic_ge_n (a := i) (b := t 6 0) (tgt := 37) dX11_marketOf_12 (by decide) (by omega) (by omega) (fun z => absurd z (by omega)) (fun c12 => ?_)
    refine aw_aload_n dX11_marketOf_15 rfl ?_
    refine aw_getR dX11_marketOf_16 f11_31 rfl ⟨Nat.le_of_ble_eq_true rfl, Nat.le_of_ble_eq_true rfl⟩ rfl rfl ?_
    refine aw_iconst (v := 5) dX11_marketOf_19 rfl ?_
    refine aw_iload_n dX11_marketOf_20 rfl ?_
    refine aw_imul_n (a := 5) (b := i) dX11_marketOf_21 ?_
    refine aw_iconst (v := 3) dX11_marketOf_22 rfl ?_
    refine aw_iadd_n (a := 5 * i) (b := 3) dX11_marketOf_23 ?_
    refine aw_aload_n dX11_marketOf_24 rfl ?_
    refine aw_bipush (v := 100) dX11_marketOf_25 (by decide) ?_
    refine aw_V0c (As := [_]) dX11_marketOf_27 k11_298 rfl rfl rfl ⟨Nat.le_of_ble_eq_true rfl, Nat.le_of_ble_eq_true rfl⟩ (Nat.le_of_ble_eq_true rfl) ⟨⟨Nat.le_of_ble_eq_true rfl, Nat.le_of_ble_eq_true rfl⟩, ⟨Nat.le_of_ble_eq_true rfl, Nat.le_of_ble_eq_true rfl⟩⟩ ⟨rfl, rfl⟩ (w_lot G hz) (fun v h2 hq => ?_)
    obtain ⟨rfl, rfl⟩ := hq
    refine aw_iast_n (j := (5 * i) + 3) dX11_marketOf_30 rfl ⟨Nat.le_of_ble_eq_true rfl, Nat.le_of_ble_eq_true rfl⟩ (by decide) (by omega) ?_
    refine aw_iinc_n (ls2 := [_, _, _, _]) dX11_marketOf_31 rfl (by decide) rfl rfl ?_
    refine aw_goto (tgt := 7) dX11_marketOf_34 (by decide) ?_
    refine ih _ _ ⟨(hM.dr (v := z_seed sd (i + 1))).st (i := 3) (k := i) (v := z_lot (z_seed sd (i + 1))) (by decide) hk6, ?_⟩
    rw [aw_u_ne (by decide), aw_u_eq]; rfl
/-- what the reference keeps, and all else is worked out of it -/
def zMs (b0 b1 : Nat → Nat) (l0 l1 : Nat) (t u g : Nat → Nat → Nat) (I : Nat → Nat → Int32) : Prop := zBm b0 b1 l0 l1 I ∧ (∀ k, k < 8 → I 90 k = nI (t 5 k)) ∧ zAm u I ∧ I 81 14 = nI (t 6 1) ∧ zSm g I ∧ ∃ m, zMod m I I ∧ zMo m
/-- the setting that the texts tell -/
def zTx (b0 b1 : Nat → Nat) (l0 l1 : Nat) (t u x y V : Nat → Nat → Nat) (kk : Nat) : Prop := zPu t u x y ∧ t 6 0 = q_k (q_c b1) 7 l1 ∧ t 6 1 = 0 ∧ (∀ j k, j < 5 → k < t 6 0 → t j k = t_c b1 k j) ∧ V = v_w b0 ∧ kk = q_k (q_w b0) 5 l0 ∧ x = f_x V kk ∧ y = f_y V kk
theorem w_find (G : aw_G) {n c : Nat} {I : Nat → Nat → Int32} {L : Nat → Nat → Int64} {b0 b1 : Nat → Nat} {l0 l1 : Nat} {V : Nat → Nat → Nat} {kk : Nat} {t u x y g : Nat → Nat → Nat} (hX : zTx b0 b1 l0 l1 t u x y V kk) (hS : zMs b0 b1 l0 l1 t u g I)  : aw_Met G mX11_find [.ref 81] (zH n I L c) (fun v h2 => v = none ∧ ∃ I2, h2 = zH n I2 L c ∧ ∃ m, zMo m ∧ zMy V kk t u y (m_lives m t u y) I I2 ∧ zTold x u t I2) := by
  obtain ⟨hP, h60, h61, htc, hV, hkk, hx, hy⟩ := hX
  obtain ⟨hB, hL, hU, hg, hSm, m, hm, ho⟩ := hS
  have hk10 : kk ≤ 10 := by rw [hkk]; exact q_k_leW hB.2.2.2.2.1
  have hVo : f_Vok V kk := by rw [hV, hkk]; exact v_w_ok
  refine aw_Met.of okX11_find (Nat.le_of_ble_eq_true rfl) ?_
  show aw_W G mX11_find 0 [.ref 81] [] (zH n I L c) (0, 0) _
  refine aw_aload_n dX11_find_0 rfl ?_
  refine aw_V0c (As := []) dX11_find_1 k11_139 rfl rfl rfl ⟨Nat.le_of_ble_eq_true rfl, Nat.le_of_ble_eq_true rfl⟩ (Nat.le_of_ble_eq_true rfl) ⟨⟨Nat.le_of_ble_eq_true rfl, Nat.le_of_ble_eq_true rfl⟩, ⟨Nat.le_of_ble_eq_true rfl, Nat.le_of_ble_eq_true rfl⟩⟩ ⟨rfl, rfl⟩ (w_readsWays G hB) (fun v h2 hq => ?_)
  obtain ⟨rfl, I1, rfl, hW1, hF1⟩ := hq
  rw [← hV, ← hkk] at hW1
  have hB1 : zBm b0 b1 l0 l1 I1 := hB.mv (hF1.1 86 (by decide) (by decide)) (hF1.1 87 (by decide) (by decide))
  refine aw_pop dX11_find_4 rfl ?_
  refine aw_aload_n dX11_find_5 rfl ?_
  refine aw_V0c (As := []) dX11_find_6 k11_143 rfl rfl rfl ⟨Nat.le_of_ble_eq_true rfl, Nat.le_of_ble_eq_true rfl⟩ (Nat.le_of_ble_eq_true rfl) ⟨⟨Nat.le_of_ble_eq_true rfl, Nat.le_of_ble_eq_true rfl⟩, ⟨Nat.le_of_ble_eq_true rfl, Nat.le_of_ble_eq_true rfl⟩⟩ ⟨rfl, rfl⟩ (w_readsCarters G hB1) (fun v h2 hq => ?_)
  obtain ⟨rfl, I2, rfl, hC2, hF2⟩ := hq
  rw [← h60] at hC2
  have hW2 : zWy V kk I2 := ⟨by rw [hF2.2 7 (by decide)]; exact hW1.1, fun w j hw hj => by rw [hF2.1 88 (by decide) (by decide)]; exact hW1.2 w j hw hj⟩
  refine aw_pop dX11_find_9 rfl ?_
  refine aw_aload_n dX11_find_10 rfl ?_
  refine aw_V0c (As := []) dX11_find_11 k11_212 rfl rfl rfl ⟨Nat.le_of_ble_eq_true rfl, Nat.le_of_ble_eq_true rfl⟩ (Nat.le_of_ble_eq_true rfl) ⟨⟨Nat.le_of_ble_eq_true rfl, Nat.le_of_ble_eq_true rfl⟩, ⟨Nat.le_of_ble_eq_true rfl, Nat.le_of_ble_eq_true rfl⟩⟩ ⟨rfl, rfl⟩ (w_maps G hW2 hk10 hVo) (fun v h2 hq => ?_)
  obtain ⟨rfl, I3, rfl, hY3, hF3⟩ := hq
  rw [← hy] at hY3
  have hr : ∀ o, o ≠ 81 → o ≠ 88 → o ≠ 89 → o ≠ 92 → o ≠ 93 → I3 o = I o := fun o a b d e f => by rw [hF3 o e f, hF2.1 o d a, hF1.1 o b a]
  have hf : ∀ j, j ≠ 7 → j ≠ 9 → I3 81 j = I 81 j := fun j a b => by rw [hF3 81 (by decide) (by decide), hF2.2 j b, hF1.2 j a]
  have hM3 : zMy V kk t u y m I I3 := ⟨⟨by rw [hF3 81 (by decide) (by decide)]; exact hW2.1, fun w j hw hj => by rw [hF3 88 (by decide) (by decide)]; exact hW2.2 w j hw hj⟩, ⟨fun j k hj hk => by rw [htc j k hj hk, hF3 89 (by decide) (by decide)]; exact hC2.2 k j hk hj, fun k hk => by rw [hr 90 (by decide) (by decide) (by decide) (by decide) (by decide)]; exact hL k (by have := hP.1.1; omega), by rw [hF3 81 (by decide) (by decide)]; exact hC2.1, by rw [hf 14 (by decide) (by decide)]; exact hg⟩, ⟨by rw [hf 12 (by decide) (by decide)]; exact hU.1, fun a ha => by rw [hr 91 (by decide) (by decide) (by decide) (by decide) (by decide)]; exact hU.2 a ha⟩, hY3, hm.mv2 (fun a ha => hr _ (by omega) (by omega) (by omega) (by omega) (by omega)) (hf 26 (by decide) (by decide)) (hf 27 (by decide) (by decide)), ho, fun k hk => by rw [hr 90 (by decide) (by decide) (by decide) (by decide) (by decide)]; exact hL k hk, ⟨fun o a b d e f g => hr o a b d (by omega) (by omega), fun j a b _ _ _ _ => hf j a b⟩⟩
  refine aw_aload_n dX11_find_14 rfl ?_
  refine aw_V0c (As := []) dX11_find_15 k11_215 rfl rfl rfl ⟨Nat.le_of_ble_eq_true rfl, Nat.le_of_ble_eq_true rfl⟩ (Nat.le_of_ble_eq_true rfl) ⟨⟨Nat.le_of_ble_eq_true rfl, Nat.le_of_ble_eq_true rfl⟩, ⟨Nat.le_of_ble_eq_true rfl, Nat.le_of_ble_eq_true rfl⟩⟩ ⟨rfl, rfl⟩ (w_lv G hM3 hP) (fun v h2 hq => ?_)
  obtain ⟨rfl, I4, rfl, hM4, hTo, hFr⟩ := hq
  refine aw_ret0 dX11_find_18 rfl ⟨Nat.le_of_ble_eq_true rfl, Nat.le_of_ble_eq_true rfl⟩ ?_
  exact ⟨rfl, _, rfl, m, ho, hM4, hTo⟩
