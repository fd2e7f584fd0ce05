theorem w_finA (G : aw_G) {n c : Nat} {I I0 : Nat → Nat → Int32} {L : Nat → Nat → Int64} {s : Nat → Nat → Nat} {k t p : Nat} {l5 l6 l7 : Value} (hR : zRun s 22 I0 I) (hk : k < 8) (hst : s 6 k ≠ 1) (h6 : s 6 k < 100000) (hl : s 10 k < 100000) :
    aw_W G mX6_settle 179 [.ref 22, .ref 11, .int (nI k), .int (nI t), .int (nI p), l5, l6, l7] [] (zH n I L c) (0, 0) (zPost n L c 22 I0 (p_fin s k t p)) := by
  have e6 : I 28 k = nI (s 6 k) := hR.at 6 k (by decide) (by decide) (by decide) (by omega)
  have e2 : I 24 k = nI (s 2 k) := hR.at 2 k (by decide) (by decide) (by decide) (by omega)
  refine aw_aload_n dX6_settle_179 rfl ?_
  refine aw_getR dX6_settle_180 f6_31 rfl ⟨Nat.le_of_ble_eq_true rfl, Nat.le_of_ble_eq_true rfl⟩ rfl rfl ?_
  refine aw_iload_n dX6_settle_183 rfl ?_
  refine aw_iald_n dX6_settle_184 rfl (Nat.le_of_ble_eq_true rfl) (by decide) hk ?_
  refine aw_top e6 ?_
  refine aw_iconst (v := 1) dX6_settle_185 rfl ?_
  refine aw_ic_ne (tgt := 240) dX6_settle_186 (by decide) (fun _ => ?_) (fun z => absurd z (fun z => hst ((zi_eq (b := 1) h6 (by decide)).mp z)))
  refine aw_aload_n dX6_settle_240 rfl ?_
  refine aw_getR dX6_settle_241 f6_34 rfl ⟨Nat.le_of_ble_eq_true rfl, Nat.le_of_ble_eq_true rfl⟩ rfl rfl ?_
  refine aw_iload_n dX6_settle_244 rfl ?_
  refine aw_iload_n dX6_settle_245 rfl ?_
  refine aw_iast_n dX6_settle_246 rfl ⟨Nat.le_of_ble_eq_true rfl, Nat.le_of_ble_eq_true rfl⟩ (by decide) hk ?_
  refine aw_aload_n dX6_settle_247 rfl ?_
  refine aw_getR dX6_settle_248 f6_15 rfl ⟨Nat.le_of_ble_eq_true rfl, Nat.le_of_ble_eq_true rfl⟩ rfl rfl ?_
  refine aw_iload_n dX6_settle_251 rfl ?_
  refine aw_sipush (v := 1000) dX6_settle_252 (by decide) ?_
  refine aw_iast_n dX6_settle_255 rfl ⟨Nat.le_of_ble_eq_true rfl, Nat.le_of_ble_eq_true rfl⟩ (by decide) hk ?_
  refine aw_aload_n dX6_settle_256 rfl ?_
  refine aw_getR dX6_settle_257 f6_43 rfl ⟨Nat.le_of_ble_eq_true rfl, Nat.le_of_ble_eq_true rfl⟩ rfl rfl ?_
  refine aw_iload_n dX6_settle_260 rfl ?_
  refine aw_iload_n dX6_settle_261 rfl ?_
  refine aw_iload dX6_settle_262 rfl ?_
  refine aw_aload_n dX6_settle_264 rfl ?_
  refine aw_getR dX6_settle_265 f6_19 rfl ⟨Nat.le_of_ble_eq_true rfl, Nat.le_of_ble_eq_true rfl⟩ rfl rfl ?_
  refine aw_iload_n dX6_settle_268 rfl ?_
  refine aw_iald_n dX6_settle_269 rfl (Nat.le_of_ble_eq_true rfl) (by decide) hk ?_
  refine aw_top e2 ?_
  refine aw_iconst (v := -1) dX6_settle_270 rfl ?_
  refine aw_top (show (-1 : Int32) = nI 0 - 1 from rfl) ?_
  refine aw_V0c (As := [_, _, _, _, _]) dX6_settle_271 k6_119 rfl rfl rfl ⟨Nat.le_of_ble_eq_true rfl, Nat.le_of_ble_eq_true rfl⟩ (Nat.le_of_ble_eq_true rfl) ⟨⟨Nat.le_of_ble_eq_true rfl, Nat.le_of_ble_eq_true rfl⟩, ⟨Nat.le_of_ble_eq_true rfl, Nat.le_of_ble_eq_true rfl⟩⟩ ⟨rfl, rfl⟩ (w_note22 G ((hR.u7 (j := k) (v := t)).u (i := 1) (j := k) (v := 1000) (by decide)) hk hl) (fun v h2 hq => ?_)
  obtain ⟨rfl, I2, rfl, hR2⟩ := hq
  refine aw_ret0 dX6_settle_274 rfl ⟨Nat.le_of_ble_eq_true rfl, Nat.le_of_ble_eq_true rfl⟩ ?_
  exact ⟨rfl, I2, rfl, hR2⟩
theorem w_settleA (G : aw_G) {n c : Nat} {I I0 : Nat → Nat → Int32} {L : Nat → Nat → Int64} {s t u x : Nat → Nat → Nat} (hR : zRun s 22 I0 I) (hT : zSet t 11 16 I0) (hX : zCh x 12 I0) (hU : zAn u I0) {k h : Nat} (hk : k < 8) (hh : h < 1000) (hst : s 6 k = 1) (hl : s 10 k < 100000) (hp : s 5 k < 8) (hg : t 1 k < 8) (hx2 : ∀ j, j < 64 → x 2 j ≤ 8) (hx0 : ∀ j, j < 64 → x 0 j ≤ 1000) (hld : t 4 k < 1000) (hlf : s 2 k ≤ t 3 k) (hs3 : t 3 k < 1000) (h4 : s 4 (s 5 k) < 10000) (hpr : s 3 (s 5 k) < 10000) (hso : t 2 k < 100) (hw : t 6 1 < 100000) (hn8 : u 2 0 ≤ 8) (hu : ∀ a, a < 8 → u 0 a < 100000 ∧ u 1 a < 100000) : aw_Met G mX6_settle [.ref 22, .ref 11, .int (nI k), .int (nI h)] (zH n I L c) (zPost n L c 22 I0 (p_settle s t u x k h)) := by
  have hj : s 5 k * 8 + t 1 k < 64 := by omega
  have hW8 := hx2 _ hj
  generalize hWe : x 2 (s 5 k * 8 + t 1 k) = W at hW8
  have e5 : I 27 k = nI (s 5 k) := hR.at 5 k (by decide) (by decide) (by decide) (by omega)
  have e2 : I 24 k = nI (s 2 k) := hR.at 2 k (by decide) (by decide) (by decide) (by omega)
  have e4 : I 26 (s 5 k) = nI (s 4 (s 5 k)) := hR.at 4 _ (by decide) (by decide) (by decide) (by omega)
  have e6 : I 28 k = nI (s 6 k) := hR.at 6 k (by decide) (by decide) (by decide) (by omega)
  have hT1 := (hT.mv hR (by decide) (by decide))
  have g1 : I 17 k = nI (t 1 k) := hT1.1 1 k (by decide) hk
  have g2 : I 18 k = nI (t 2 k) := hT1.1 2 k (by decide) hk
  have g3 : I 19 k = nI (t 3 k) := hT1.1 3 k (by decide) hk
  have g4 : I 20 k = nI (t 4 k) := hT1.1 4 k (by decide) hk
  have hR1 := hR.u (i := 4) (j := s 5 k) (v := s 4 (s 5 k) + 1) (by decide)
  have key : ∀ d : Nat, d ≤ 1000 → (W ≠ 0 → d = x 0 (s 5 k * 8 + (W - 1))) → aw_W G mX6_settle 46 [.ref 22, .ref 11, .int (nI k), .int (nI h), .int (nI (s 5 k)), .int (nI W - 1), aw_x, aw_x] [.int (nI d)] (zH n I L c) (0, 0) (zPost n L c 22 I0 (p_settle s t u x k h)) := by
    intro d hd hdW
    refine aw_istore (ls2 := [_, _, _, _, _, _, _, _]) dX6_settle_46 (by decide) rfl rfl ?_
    refine aw_iload dX6_settle_48 rfl ?_
    refine aw_aload_n dX6_settle_50 rfl ?_
    refine aw_getR dX6_settle_51 f6_105 rfl ⟨Nat.le_of_ble_eq_true rfl, Nat.le_of_ble_eq_true rfl⟩ rfl rfl ?_
    refine aw_iload_n dX6_settle_54 rfl ?_
    refine aw_iald_n dX6_settle_55 rfl (Nat.le_of_ble_eq_true rfl) (by decide) hk ?_
    refine aw_top g4 ?_
    refine aw_iadd dX6_settle_56 ?_
    refine aw_top (nI_add _ _) ?_
    refine aw_istore (ls2 := [_, _, _, _, _, _, _, _]) dX6_settle_57 (by decide) rfl rfl ?_
    refine aw_aload_n dX6_settle_59 rfl ?_
    refine aw_getR dX6_settle_60 f6_25 rfl ⟨Nat.le_of_ble_eq_true rfl, Nat.le_of_ble_eq_true rfl⟩ rfl rfl ?_
    refine aw_iload dX6_settle_63 rfl ?_
    refine aw_dup2 dX6_settle_65 rfl rfl ?_
    refine aw_iald_n dX6_settle_66 rfl (Nat.le_of_ble_eq_true rfl) (by decide) hp ?_
    refine aw_top e4 ?_
    refine aw_iconst (v := 1) dX6_settle_67 rfl ?_
    refine aw_iadd dX6_settle_68 ?_
    refine aw_top (nI_1 _) ?_
    refine aw_iast_n dX6_settle_69 rfl ⟨Nat.le_of_ble_eq_true rfl, Nat.le_of_ble_eq_true rfl⟩ (by decide) hp ?_
    refine aw_iload dX6_settle_70 rfl ?_
    refine aw_aload_n dX6_settle_72 rfl ?_
    refine aw_getR dX6_settle_73 f6_94 rfl ⟨Nat.le_of_ble_eq_true rfl, Nat.le_of_ble_eq_true rfl⟩ rfl rfl ?_
    refine aw_iload_n dX6_settle_76 rfl ?_
    refine aw_iald_n dX6_settle_77 rfl (Nat.le_of_ble_eq_true rfl) (by decide) hk ?_
    refine aw_top g1 ?_
    refine aw_ic_ne (tgt := 91) dX6_settle_78 (by decide) (fun c78 => ?_) (fun c78 => ?_)
    · refine aw_aload_n dX6_settle_91 rfl ?_
      refine aw_aload_n dX6_settle_92 rfl ?_
      refine aw_getR dX6_settle_93 f6_108 rfl ⟨Nat.le_of_ble_eq_true rfl, Nat.le_of_ble_eq_true rfl⟩ rfl rfl ?_
      refine aw_iload_n dX6_settle_96 rfl ?_
      refine aw_iald_n dX6_settle_97 rfl (Nat.le_of_ble_eq_true rfl) (by decide) hk ?_
      refine aw_top g2 ?_
      refine aw_iload dX6_settle_98 rfl ?_
      refine aw_aload_n dX6_settle_100 rfl ?_
      refine aw_iload_n dX6_settle_101 rfl ?_
      refine aw_iload dX6_settle_102 rfl ?_
      refine aw_V0c (As := [_, _]) dX6_settle_104 k6_111 rfl rfl rfl ⟨Nat.le_of_ble_eq_true rfl, Nat.le_of_ble_eq_true rfl⟩ (Nat.le_of_ble_eq_true rfl) ⟨⟨Nat.le_of_ble_eq_true rfl, Nat.le_of_ble_eq_true rfl⟩, ⟨Nat.le_of_ble_eq_true rfl, Nat.le_of_ble_eq_true rfl⟩⟩ ⟨rfl, rfl⟩ (w_tells11 G (hT.mv hR1 (by decide) (by decide)) (hU.mv hR1 (by decide)) (by omega) hp hw hn8 hu) (fun v h2 hq => ?_)
      obtain ⟨rfl, rfl⟩ := hq
      refine aw_V0c (As := [_, _, _]) dX6_settle_107 k6_115 rfl rfl rfl ⟨Nat.le_of_ble_eq_true rfl, Nat.le_of_ble_eq_true rfl⟩ (Nat.le_of_ble_eq_true rfl) ⟨⟨Nat.le_of_ble_eq_true rfl, Nat.le_of_ble_eq_true rfl⟩, ⟨Nat.le_of_ble_eq_true rfl, Nat.le_of_ble_eq_true rfl⟩⟩ ⟨rfl, rfl⟩ (w_isTold22 G hR1 (by omega) hp (show aw_u s 4 (s 5 k) (s 4 (s 5 k) + 1) 3 (s 5 k) < 100000 from by rw [aw_u_ne (by decide)]; omega)) (fun v h2 hq => ?_)
      obtain ⟨rfl, rfl⟩ := hq
      refine aw_if_eq (tgt := 123) dX6_settle_110 (by decide) (fun c110 => ?_) (fun c110 => ?_)
      · refine aw_iload dX6_settle_123 rfl ?_
        refine aw_iconst (v := -1) dX6_settle_125 rfl ?_
        refine aw_ic_ne (tgt := 139) dX6_settle_126 (by decide) (fun c126 => ?_) (fun c126 => ?_)
        · refine aw_aload_n dX6_settle_139 rfl ?_
          refine aw_getR dX6_settle_140 f6_19 rfl ⟨Nat.le_of_ble_eq_true rfl, Nat.le_of_ble_eq_true rfl⟩ rfl rfl ?_
          refine aw_iload_n dX6_settle_143 rfl ?_
          refine aw_iald_n dX6_settle_144 rfl (Nat.le_of_ble_eq_true rfl) (by decide) hk ?_
          refine aw_top e2 ?_
          refine aw_iload dX6_settle_145 rfl ?_
          refine aw_ic_ge (tgt := 179) dX6_settle_147 (by decide) (fun c147 => ?_) (fun c147 => ?_)
          · have n1 : ¬ s 5 k = t 1 k := fun z => c78 (by rw [z])
            have hbb : (((!(t 2 k == 2) && p_tells t u h (s 5 k)) || (t 2 k == 1 && decide (1 < aw_u s 4 (s 5 k) (s 4 (s 5 k) + 1) 3 (s 5 k)))) = p_told s t u k h (s 5 k)) := by rw [aw_u_ne (by decide)]; rfl
            rw [hbb] at c110
            have hto : ¬ p_told s t u k h (s 5 k) = true := fun z => by rw [z] at c110; exact absurd c110 (by decide)
            have w1 : ¬ W = 0 := fun z => c126 ((zi_none (by omega)).mpr z)
            have hd2 := hdW w1
            have ge : ¬ s 2 k < d + t 4 k := fun z => absurd ((zi_lt (by omega) (by omega)).mpr z) (Int32.not_lt.mpr c147)
            have e : p_settle s t u x k h = p_note (aw_u (aw_u (aw_u (aw_u s 4 (s 5 k) (s 4 (s 5 k) + 1)) 2 k (s 2 k - (d + t 4 k))) 1 k (h + d)) 5 k (W - 1)) k h (s 5 k) (s 2 k - (d + t 4 k)) W := by
              rw [p_settle, if_neg n1, if_neg hto, hWe, if_neg w1, ← hd2, if_neg ge]
            rw [e]
            refine aw_aload_n dX6_settle_179 rfl ?_
            refine aw_getR dX6_settle_180 f6_31 rfl ⟨Nat.le_of_ble_eq_true rfl, Nat.le_of_ble_eq_true rfl⟩ rfl rfl ?_
            refine aw_iload_n dX6_settle_183 rfl ?_
            refine aw_iald_n dX6_settle_184 rfl (Nat.le_of_ble_eq_true rfl) (by decide) hk ?_
            refine aw_top (e6.trans (by rw [hst]; rfl : _ = (1 : Int32))) ?_
            refine aw_iconst (v := 1) dX6_settle_185 rfl ?_
            refine aw_ic_ne (tgt := 240) dX6_settle_186 (by decide) (fun z => absurd rfl z) (fun _ => ?_)
            refine aw_aload_n dX6_settle_189 rfl ?_
            refine aw_getR dX6_settle_190 f6_19 rfl ⟨Nat.le_of_ble_eq_true rfl, Nat.le_of_ble_eq_true rfl⟩ rfl rfl ?_
            refine aw_iload_n dX6_settle_193 rfl ?_
            refine aw_dup2 dX6_settle_194 rfl rfl ?_
            refine aw_iald_n dX6_settle_195 rfl (Nat.le_of_ble_eq_true rfl) (by decide) hk ?_
            refine aw_top e2 ?_
            refine aw_iload dX6_settle_196 rfl ?_
            refine aw_isub dX6_settle_198 ?_
            refine aw_top (pk_sub (by omega)) ?_
            refine aw_iast_n dX6_settle_199 rfl ⟨Nat.le_of_ble_eq_true rfl, Nat.le_of_ble_eq_true rfl⟩ (by decide) hk ?_
            refine aw_aload_n dX6_settle_200 rfl ?_
            refine aw_getR dX6_settle_201 f6_15 rfl ⟨Nat.le_of_ble_eq_true rfl, Nat.le_of_ble_eq_true rfl⟩ rfl rfl ?_
            refine aw_iload_n dX6_settle_204 rfl ?_
            refine aw_iload_n dX6_settle_205 rfl ?_
            refine aw_iload dX6_settle_206 rfl ?_
            refine aw_iadd dX6_settle_208 ?_
            refine aw_top (nI_add _ _) ?_
            refine aw_iast_n dX6_settle_209 rfl ⟨Nat.le_of_ble_eq_true rfl, Nat.le_of_ble_eq_true rfl⟩ (by decide) hk ?_
            refine aw_aload_n dX6_settle_210 rfl ?_
            refine aw_getR dX6_settle_211 f6_28 rfl ⟨Nat.le_of_ble_eq_true rfl, Nat.le_of_ble_eq_true rfl⟩ rfl rfl ?_
            refine aw_iload_n dX6_settle_214 rfl ?_
            refine aw_iload dX6_settle_215 rfl ?_
            refine aw_top (zi_pred w1) ?_
            refine aw_iast_n dX6_settle_217 rfl ⟨Nat.le_of_ble_eq_true rfl, Nat.le_of_ble_eq_true rfl⟩ (by decide) hk ?_
            refine aw_aload_n dX6_settle_218 rfl ?_
            refine aw_getR dX6_settle_219 f6_43 rfl ⟨Nat.le_of_ble_eq_true rfl, Nat.le_of_ble_eq_true rfl⟩ rfl rfl ?_
            refine aw_iload_n dX6_settle_222 rfl ?_
            refine aw_iload_n dX6_settle_223 rfl ?_
            refine aw_iload dX6_settle_224 rfl ?_
            refine aw_aload_n dX6_settle_226 rfl ?_
            refine aw_getR dX6_settle_227 f6_19 rfl ⟨Nat.le_of_ble_eq_true rfl, Nat.le_of_ble_eq_true rfl⟩ rfl rfl ?_
            refine aw_iload_n dX6_settle_230 rfl ?_
            refine aw_iald_n dX6_settle_231 rfl (Nat.le_of_ble_eq_true rfl) (by decide) hk ?_
            refine aw_top (show aw_u I 24 k (nI (s 2 k - (d + t 4 k))) 24 k = _ from aw_u_eq) ?_
            refine aw_iload dX6_settle_232 rfl ?_
            refine aw_V0c (As := [_, _, _, _, _]) dX6_settle_234 k6_119 rfl rfl rfl ⟨Nat.le_of_ble_eq_true rfl, Nat.le_of_ble_eq_true rfl⟩ (Nat.le_of_ble_eq_true rfl) ⟨⟨Nat.le_of_ble_eq_true rfl, Nat.le_of_ble_eq_true rfl⟩, ⟨Nat.le_of_ble_eq_true rfl, Nat.le_of_ble_eq_true rfl⟩⟩ ⟨rfl, rfl⟩ (w_note22 G (((hR1.u (i := 2) (j := k) (v := s 2 k - (d + t 4 k)) (by decide)).u (i := 1) (j := k) (v := h + d) (by decide)).u (i := 5) (j := k) (v := W - 1) (by decide)) hk hl) (fun v h2 hq => ?_)
            obtain ⟨rfl, I2, rfl, hR2⟩ := hq
            refine aw_goto (tgt := 274) dX6_settle_237 (by decide) ?_
            refine aw_ret0 dX6_settle_274 rfl ⟨Nat.le_of_ble_eq_true rfl, Nat.le_of_ble_eq_true rfl⟩ ?_
            exact ⟨rfl, I2, rfl, hR2⟩
          · refine aw_aload_n dX6_settle_150 rfl ?_
            refine aw_getR dX6_settle_151 f6_31 rfl ⟨Nat.le_of_ble_eq_true rfl, Nat.le_of_ble_eq_true rfl⟩ rfl rfl ?_
            refine aw_iload_n dX6_settle_154 rfl ?_
            refine aw_iconst (v := 4) dX6_settle_155 rfl ?_
            refine aw_iast_n dX6_settle_156 rfl ⟨Nat.le_of_ble_eq_true rfl, Nat.le_of_ble_eq_true rfl⟩ (by decide) hk ?_
            refine aw_aload_n dX6_settle_157 rfl ?_
            refine aw_getR dX6_settle_158 f6_37 rfl ⟨Nat.le_of_ble_eq_true rfl, Nat.le_of_ble_eq_true rfl⟩ rfl rfl ?_
            refine aw_iload_n dX6_settle_161 rfl ?_
            refine aw_aload_n dX6_settle_162 rfl ?_
            refine aw_getR dX6_settle_163 f6_78 rfl ⟨Nat.le_of_ble_eq_true rfl, Nat.le_of_ble_eq_true rfl⟩ rfl rfl ?_
            refine aw_iload_n dX6_settle_166 rfl ?_
            refine aw_iald_n dX6_settle_167 rfl (Nat.le_of_ble_eq_true rfl) (by decide) hk ?_
            refine aw_top g3 ?_
            refine aw_aload_n dX6_settle_168 rfl ?_
            refine aw_getR dX6_settle_169 f6_19 rfl ⟨Nat.le_of_ble_eq_true rfl, Nat.le_of_ble_eq_true rfl⟩ rfl rfl ?_
            refine aw_iload_n dX6_settle_172 rfl ?_
            refine aw_iald_n dX6_settle_173 rfl (Nat.le_of_ble_eq_true rfl) (by decide) hk ?_
            refine aw_top e2 ?_
            refine aw_isub dX6_settle_174 ?_
            refine aw_top (pk_sub hlf) ?_
            refine aw_iload dX6_settle_175 rfl ?_
            refine aw_iadd dX6_settle_177 ?_
            refine aw_top (nI_add _ _) ?_
            refine aw_iast_n dX6_settle_178 rfl ⟨Nat.le_of_ble_eq_true rfl, Nat.le_of_ble_eq_true rfl⟩ (by decide) hk ?_
            have n1 : ¬ s 5 k = t 1 k := fun z => c78 (by rw [z])
            have hbb : (((!(t 2 k == 2) && p_tells t u h (s 5 k)) || (t 2 k == 1 && decide (1 < aw_u s 4 (s 5 k) (s 4 (s 5 k) + 1) 3 (s 5 k)))) = p_told s t u k h (s 5 k)) := by rw [aw_u_ne (by decide)]; rfl
            rw [hbb] at c110
            have hto : ¬ p_told s t u k h (s 5 k) = true := fun z => by rw [z] at c110; exact absurd c110 (by decide)
            have w1 : ¬ W = 0 := fun z => c126 ((zi_none (by omega)).mpr z)
            have hd2 := hdW w1
            have lt : s 2 k < d + t 4 k := (zi_lt (by omega) (by omega)).mp (Int32.not_le.mp c147)
            have e : p_settle s t u x k h = p_fin (aw_u (aw_u (aw_u s 4 (s 5 k) (s 4 (s 5 k) + 1)) 6 k 4) 8 k (t 3 k - s 2 k + (d + t 4 k))) k h (s 5 k) := by
              rw [p_settle, if_neg n1, if_neg hto, hWe, if_neg w1, ← hd2, if_pos lt]
            rw [e]
            exact w_finA G ((hR1.u (i := 6) (j := k) (v := 4) (by decide)).u (i := 8) (j := k) (v := t 3 k - s 2 k + (d + t 4 k)) (by decide)) hk (by rw [aw_u_ne (by decide), aw_u_eq]; decide) (by rw [aw_u_ne (by decide), aw_u_eq]; decide) hl
        · refine aw_aload_n dX6_settle_129 rfl ?_
          refine aw_getR dX6_settle_130 f6_31 rfl ⟨Nat.le_of_ble_eq_true rfl, Nat.le_of_ble_eq_true rfl⟩ rfl rfl ?_
          refine aw_iload_n dX6_settle_133 rfl ?_
          refine aw_iconst (v := 5) dX6_settle_134 rfl ?_
          refine aw_iast_n dX6_settle_135 rfl ⟨Nat.le_of_ble_eq_true rfl, Nat.le_of_ble_eq_true rfl⟩ (by decide) hk ?_
          refine aw_goto (tgt := 179) dX6_settle_136 (by decide) ?_
          have n1 : ¬ s 5 k = t 1 k := fun z => c78 (by rw [z])
          have hbb : (((!(t 2 k == 2) && p_tells t u h (s 5 k)) || (t 2 k == 1 && decide (1 < aw_u s 4 (s 5 k) (s 4 (s 5 k) + 1) 3 (s 5 k)))) = p_told s t u k h (s 5 k)) := by rw [aw_u_ne (by decide)]; rfl
          rw [hbb] at c110
          have hto : ¬ p_told s t u k h (s 5 k) = true := fun z => by rw [z] at c110; exact absurd c110 (by decide)
          have w0 : W = 0 := (zi_none (by omega)).mp c126
          have e : p_settle s t u x k h = p_fin (aw_u (aw_u s 4 (s 5 k) (s 4 (s 5 k) + 1)) 6 k 5) k h (s 5 k) := by
            rw [p_settle, if_neg n1, if_neg hto, hWe, if_pos w0]
          rw [e]
          exact w_finA G (hR1.u (i := 6) (j := k) (v := 5) (by decide)) hk (by rw [aw_u_eq]; decide) (by rw [aw_u_eq]; decide) hl
      · refine aw_aload_n dX6_settle_113 rfl ?_
        refine aw_getR dX6_settle_114 f6_31 rfl ⟨Nat.le_of_ble_eq_true rfl, Nat.le_of_ble_eq_true rfl⟩ rfl rfl ?_
        refine aw_iload_n dX6_settle_117 rfl ?_
        refine aw_iconst (v := 3) dX6_settle_118 rfl ?_
        refine aw_iast_n dX6_settle_119 rfl ⟨Nat.le_of_ble_eq_true rfl, Nat.le_of_ble_eq_true rfl⟩ (by decide) hk ?_
        refine aw_goto (tgt := 179) dX6_settle_120 (by decide) ?_
        have n1 : ¬ s 5 k = t 1 k := fun z => c78 (by rw [z])
        have hbb : (((!(t 2 k == 2) && p_tells t u h (s 5 k)) || (t 2 k == 1 && decide (1 < aw_u s 4 (s 5 k) (s 4 (s 5 k) + 1) 3 (s 5 k)))) = p_told s t u k h (s 5 k)) := by rw [aw_u_ne (by decide)]; rfl
        rw [hbb] at c110
        have hto : p_told s t u k h (s 5 k) = true := by
          cases hb : p_told s t u k h (s 5 k) with
          | true => rfl
          | false => rw [hb] at c110; exact absurd rfl c110
        have e : p_settle s t u x k h = p_fin (aw_u (aw_u s 4 (s 5 k) (s 4 (s 5 k) + 1)) 6 k 3) k h (s 5 k) := by
          rw [p_settle, if_neg n1, if_pos hto]
        rw [e]
        exact w_finA G (hR1.u (i := 6) (j := k) (v := 3) (by decide)) hk (by rw [aw_u_eq]; decide) (by rw [aw_u_eq]; decide) hl
    · refine aw_aload_n dX6_settle_81 rfl ?_
      refine aw_getR dX6_settle_82 f6_31 rfl ⟨Nat.le_of_ble_eq_true rfl, Nat.le_of_ble_eq_true rfl⟩ rfl rfl ?_
      refine aw_iload_n dX6_settle_85 rfl ?_
      refine aw_iconst (v := 2) dX6_settle_86 rfl ?_
      refine aw_iast_n dX6_settle_87 rfl ⟨Nat.le_of_ble_eq_true rfl, Nat.le_of_ble_eq_true rfl⟩ (by decide) hk ?_
      refine aw_goto (tgt := 179) dX6_settle_88 (by decide) ?_
      have e : p_settle s t u x k h = p_fin (aw_u (aw_u s 4 (s 5 k) (s 4 (s 5 k) + 1)) 6 k 2) k h (s 5 k) := by
        rw [p_settle, if_pos ((zi_eq (by omega) (by omega)).mp c78)]
      rw [e]
      exact w_finA G (hR1.u (i := 6) (j := k) (v := 2) (by decide)) hk (by rw [aw_u_eq]; decide) (by rw [aw_u_eq]; decide) hl
  refine aw_Met.of okX6_settle (Nat.le_of_ble_eq_true rfl) ?_
  show aw_W G mX6_settle 0 [.ref 22, .ref 11, .int (nI k), .int (nI h), aw_x, aw_x, aw_x, aw_x] [] (zH n I L c) (0, 0) _
  refine aw_aload_n dX6_settle_0 rfl ?_
  refine aw_getR dX6_settle_1 f6_28 rfl ⟨Nat.le_of_ble_eq_true rfl, Nat.le_of_ble_eq_true rfl⟩ rfl rfl ?_
  refine aw_iload_n dX6_settle_4 rfl ?_
  refine aw_iald_n dX6_settle_5 rfl (Nat.le_of_ble_eq_true rfl) (by decide) hk ?_
  refine aw_top e5 ?_
  refine aw_istore (ls2 := [_, _, _, _, _, _, _, _]) dX6_settle_6 (by decide) rfl rfl ?_
  refine aw_aload_n dX6_settle_8 rfl ?_
  refine aw_getR dX6_settle_9 f6_90 rfl ⟨Nat.le_of_ble_eq_true rfl, Nat.le_of_ble_eq_true rfl⟩ rfl rfl ?_
  refine aw_iload dX6_settle_12 rfl ?_
  refine aw_aload_n dX6_settle_14 rfl ?_
  refine aw_getR dX6_settle_15 f6_94 rfl ⟨Nat.le_of_ble_eq_true rfl, Nat.le_of_ble_eq_true rfl⟩ rfl rfl ?_
  refine aw_iload_n dX6_settle_18 rfl ?_
  refine aw_iald_n dX6_settle_19 rfl (Nat.le_of_ble_eq_true rfl) (by decide) hk ?_
  refine aw_top g1 ?_
  refine aw_V0c (As := [_, _]) dX6_settle_20 k6_97 rfl rfl rfl ⟨Nat.le_of_ble_eq_true rfl, Nat.le_of_ble_eq_true rfl⟩ (Nat.le_of_ble_eq_true rfl) ⟨⟨Nat.le_of_ble_eq_true rfl, Nat.le_of_ble_eq_true rfl⟩, ⟨Nat.le_of_ble_eq_true rfl, Nat.le_of_ble_eq_true rfl⟩⟩ ⟨rfl, rfl⟩ (w_turn12 G (hX.mv hR (by decide)) hp hg) (fun v h2 hq => ?_)
  obtain ⟨rfl, rfl⟩ := hq
  rw [hWe]
  refine aw_istore (ls2 := [_, _, _, _, _, _, _, _]) dX6_settle_23 (by decide) rfl rfl ?_
  refine aw_iload dX6_settle_25 rfl ?_
  refine aw_iconst (v := -1) dX6_settle_27 rfl ?_
  refine aw_ic_ne (tgt := 35) dX6_settle_28 (by decide) (fun c28 => ?_) (fun c28 => ?_)
  · have w1 : W ≠ 0 := fun z => c28 ((zi_none (by omega)).mpr z)
    refine aw_aload_n dX6_settle_35 rfl ?_
    refine aw_getR dX6_settle_36 f6_90 rfl ⟨Nat.le_of_ble_eq_true rfl, Nat.le_of_ble_eq_true rfl⟩ rfl rfl ?_
    refine aw_iload dX6_settle_39 rfl ?_
    refine aw_iload dX6_settle_41 rfl ?_
    refine aw_top (zi_pred w1) ?_
    refine aw_V0c (As := [_, _]) dX6_settle_43 k6_102 rfl rfl rfl ⟨Nat.le_of_ble_eq_true rfl, Nat.le_of_ble_eq_true rfl⟩ (Nat.le_of_ble_eq_true rfl) ⟨⟨Nat.le_of_ble_eq_true rfl, Nat.le_of_ble_eq_true rfl⟩, ⟨Nat.le_of_ble_eq_true rfl, Nat.le_of_ble_eq_true rfl⟩⟩ ⟨rfl, rfl⟩ (w_step12 G (hX.mv hR (by decide)) hp (show W - 1 < 8 by omega)) (fun v h2 hq => ?_)
    obtain ⟨rfl, rfl⟩ := hq
    exact key _ (hx0 _ (by omega)) (fun _ => rfl)
  · refine aw_iconst (v := 0) dX6_settle_31 rfl ?_
    refine aw_goto (tgt := 46) dX6_settle_32 (by decide) ?_
    exact key 0 (by omega) (fun z => absurd ((zi_none (by omega)).mp c28) z)
theorem w_finB (G : aw_G) {n : Nat} {I I0 : Nat → Nat → Int32} {L : Nat → Nat → Int64} {s : Nat → Nat → Nat} {k t p : Nat} {l5 l6 l7 : Value} (hR : zRun s 44 I0 I) (hk : k < 8) (hst : s 6 k ≠ 1) (h6 : s 6 k < 100000) (hl : s 10 k < 100000) :
    aw_W G mX6_settle 179 [.ref 44, .ref 37, .int (nI k), .int (nI t), .int (nI p), l5, l6, l7] [] (zH n I L 12) (0, 0) (zPost n L 12 44 I0 (p_fin s k t p)) := by
  have e6 : I 50 k = nI (s 6 k) := hR.at 6 k (by decide) (by decide) (by decide) (by omega)
  have e2 : I 46 k = nI (s 2 k) := hR.at 2 k (by decide) (by decide) (by decide) (by omega)
  refine aw_aload_n dX6_settle_179 rfl ?_
  refine aw_getR dX6_settle_180 f6_31 rfl ⟨Nat.le_of_ble_eq_true rfl, Nat.le_of_ble_eq_true rfl⟩ rfl rfl ?_
  refine aw_iload_n dX6_settle_183 rfl ?_
  refine aw_iald_n dX6_settle_184 rfl (Nat.le_of_ble_eq_true rfl) (by decide) hk ?_
  refine aw_top e6 ?_
  refine aw_iconst (v := 1) dX6_settle_185 rfl ?_
  refine aw_ic_ne (tgt := 240) dX6_settle_186 (by decide) (fun _ => ?_) (fun z => absurd z (fun z => hst ((zi_eq (b := 1) h6 (by decide)).mp z)))
  refine aw_aload_n dX6_settle_240 rfl ?_
  refine aw_getR dX6_settle_241 f6_34 rfl ⟨Nat.le_of_ble_eq_true rfl, Nat.le_of_ble_eq_true rfl⟩ rfl rfl ?_
  refine aw_iload_n dX6_settle_244 rfl ?_
  refine aw_iload_n dX6_settle_245 rfl ?_
  refine aw_iast_n dX6_settle_246 rfl ⟨Nat.le_of_ble_eq_true rfl, Nat.le_of_ble_eq_true rfl⟩ (by decide) hk ?_
  refine aw_aload_n dX6_settle_247 rfl ?_
  refine aw_getR dX6_settle_248 f6_15 rfl ⟨Nat.le_of_ble_eq_true rfl, Nat.le_of_ble_eq_true rfl⟩ rfl rfl ?_
  refine aw_iload_n dX6_settle_251 rfl ?_
  refine aw_sipush (v := 1000) dX6_settle_252 (by decide) ?_
  refine aw_iast_n dX6_settle_255 rfl ⟨Nat.le_of_ble_eq_true rfl, Nat.le_of_ble_eq_true rfl⟩ (by decide) hk ?_
  refine aw_aload_n dX6_settle_256 rfl ?_
  refine aw_getR dX6_settle_257 f6_43 rfl ⟨Nat.le_of_ble_eq_true rfl, Nat.le_of_ble_eq_true rfl⟩ rfl rfl ?_
  refine aw_iload_n dX6_settle_260 rfl ?_
  refine aw_iload_n dX6_settle_261 rfl ?_
  refine aw_iload dX6_settle_262 rfl ?_
  refine aw_aload_n dX6_settle_264 rfl ?_
  refine aw_getR dX6_settle_265 f6_19 rfl ⟨Nat.le_of_ble_eq_true rfl, Nat.le_of_ble_eq_true rfl⟩ rfl rfl ?_
  refine aw_iload_n dX6_settle_268 rfl ?_
  refine aw_iald_n dX6_settle_269 rfl (Nat.le_of_ble_eq_true rfl) (by decide) hk ?_
  refine aw_top e2 ?_
  refine aw_iconst (v := -1) dX6_settle_270 rfl ?_
  refine aw_top (show (-1 : Int32) = nI 0 - 1 from rfl) ?_
  refine aw_V0c (As := [_, _, _, _, _]) dX6_settle_271 k6_119 rfl rfl rfl ⟨Nat.le_of_ble_eq_true rfl, Nat.le_of_ble_eq_true rfl⟩ (Nat.le_of_ble_eq_true rfl) ⟨⟨Nat.le_of_ble_eq_true rfl, Nat.le_of_ble_eq_true rfl⟩, ⟨Nat.le_of_ble_eq_true rfl, Nat.le_of_ble_eq_true rfl⟩⟩ ⟨rfl, rfl⟩ (w_note44 G ((hR.u7 (j := k) (v := t)).u (i := 1) (j := k) (v := 1000) (by decide)) hk hl) (fun v h2 hq => ?_)
  obtain ⟨rfl, I2, rfl, hR2⟩ := hq
  refine aw_ret0 dX6_settle_274 rfl ⟨Nat.le_of_ble_eq_true rfl, Nat.le_of_ble_eq_true rfl⟩ ?_
  exact ⟨rfl, I2, rfl, hR2⟩
theorem w_settleB (G : aw_G) {n : Nat} {I I0 : Nat → Nat → Int32} {L : Nat → Nat → Int64} {s t u x : Nat → Nat → Nat} (hR : zRun s 44 I0 I) (hT : zSet t 37 38 I0) (hX : zCh x 12 I0) (hU : zAn u I0) {k h : Nat} (hk : k < 8) (hh : h < 1000) (hst : s 6 k = 1) (hl : s 10 k < 100000) (hp : s 5 k < 8) (hg : t 1 k < 8) (hx2 : ∀ j, j < 64 → x 2 j ≤ 8) (hx0 : ∀ j, j < 64 → x 0 j ≤ 1000) (hld : t 4 k < 1000) (hlf : s 2 k ≤ t 3 k) (hs3 : t 3 k < 1000) (h4 : s 4 (s 5 k) < 10000) (hpr : s 3 (s 5 k) < 10000) (hso : t 2 k < 100) (hw : t 6 1 < 100000) (hn8 : u 2 0 ≤ 8) (hu : ∀ a, a < 8 → u 0 a < 100000 ∧ u 1 a < 100000) : aw_Met G mX6_settle [.ref 44, .ref 37, .int (nI k), .int (nI h)] (zH n I L 12) (zPost n L 12 44 I0 (p_settle s t u x k h)) := by
  have hj : s 5 k * 8 + t 1 k < 64 := by omega
  have hW8 := hx2 _ hj
  generalize hWe : x 2 (s 5 k * 8 + t 1 k) = W at hW8
  have e5 : I 49 k = nI (s 5 k) := hR.at 5 k (by decide) (by decide) (by decide) (by omega)
  have e2 : I 46 k = nI (s 2 k) := hR.at 2 k (by decide) (by decide) (by decide) (by omega)
  have e4 : I 48 (s 5 k) = nI (s 4 (s 5 k)) := hR.at 4 _ (by decide) (by decide) (by decide) (by omega)
  have e6 : I 50 k = nI (s 6 k) := hR.at 6 k (by decide) (by decide) (by decide) (by omega)
  have hT1 := (hT.mv hR (by decide) (by decide))
  have g1 : I 39 k = nI (t 1 k) := hT1.1 1 k (by decide) hk
  have g2 : I 40 k = nI (t 2 k) := hT1.1 2 k (by decide) hk
  have g3 : I 41 k = nI (t 3 k) := hT1.1 3 k (by decide) hk
  have g4 : I 42 k = nI (t 4 k) := hT1.1 4 k (by decide) hk
  have hR1 := hR.u (i := 4) (j := s 5 k) (v := s 4 (s 5 k) + 1) (by decide)
  have key : ∀ d : Nat, d ≤ 1000 → (W ≠ 0 → d = x 0 (s 5 k * 8 + (W - 1))) → aw_W G mX6_settle 46 [.ref 44, .ref 37, .int (nI k), .int (nI h), .int (nI (s 5 k)), .int (nI W - 1), aw_x, aw_x] [.int (nI d)] (zH n I L 12) (0, 0) (zPost n L 12 44 I0 (p_settle s t u x k h)) := by
    intro d hd hdW
    refine aw_istore (ls2 := [_, _, _, _, _, _, _, _]) dX6_settle_46 (by decide) rfl rfl ?_
    refine aw_iload dX6_settle_48 rfl ?_
    refine aw_aload_n dX6_settle_50 rfl ?_
    refine aw_getR dX6_settle_51 f6_105 rfl ⟨Nat.le_of_ble_eq_true rfl, Nat.le_of_ble_eq_true rfl⟩ rfl rfl ?_
    refine aw_iload_n dX6_settle_54 rfl ?_
    refine aw_iald_n dX6_settle_55 rfl (Nat.le_of_ble_eq_true rfl) (by decide) hk ?_
    refine aw_top g4 ?_
    refine aw_iadd dX6_settle_56 ?_
    refine aw_top (nI_add _ _) ?_
    refine aw_istore (ls2 := [_, _, _, _, _, _, _, _]) dX6_settle_57 (by decide) rfl rfl ?_
    refine aw_aload_n dX6_settle_59 rfl ?_
    refine aw_getR dX6_settle_60 f6_25 rfl ⟨Nat.le_of_ble_eq_true rfl, Nat.le_of_ble_eq_true rfl⟩ rfl rfl ?_
    refine aw_iload dX6_settle_63 rfl ?_
    refine aw_dup2 dX6_settle_65 rfl rfl ?_
    refine aw_iald_n dX6_settle_66 rfl (Nat.le_of_ble_eq_true rfl) (by decide) hp ?_
    refine aw_top e4 ?_
    refine aw_iconst (v := 1) dX6_settle_67 rfl ?_
    refine aw_iadd dX6_settle_68 ?_
    refine aw_top (nI_1 _) ?_
    refine aw_iast_n dX6_settle_69 rfl ⟨Nat.le_of_ble_eq_true rfl, Nat.le_of_ble_eq_true rfl⟩ (by decide) hp ?_
    refine aw_iload dX6_settle_70 rfl ?_
    refine aw_aload_n dX6_settle_72 rfl ?_
    refine aw_getR dX6_settle_73 f6_94 rfl ⟨Nat.le_of_ble_eq_true rfl, Nat.le_of_ble_eq_true rfl⟩ rfl rfl ?_
    refine aw_iload_n dX6_settle_76 rfl ?_
    refine aw_iald_n dX6_settle_77 rfl (Nat.le_of_ble_eq_true rfl) (by decide) hk ?_
    refine aw_top g1 ?_
    refine aw_ic_ne (tgt := 91) dX6_settle_78 (by decide) (fun c78 => ?_) (fun c78 => ?_)
    · refine aw_aload_n dX6_settle_91 rfl ?_
      refine aw_aload_n dX6_settle_92 rfl ?_
      refine aw_getR dX6_settle_93 f6_108 rfl ⟨Nat.le_of_ble_eq_true rfl, Nat.le_of_ble_eq_true rfl⟩ rfl rfl ?_
      refine aw_iload_n dX6_settle_96 rfl ?_
      refine aw_iald_n dX6_settle_97 rfl (Nat.le_of_ble_eq_true rfl) (by decide) hk ?_
      refine aw_top g2 ?_
      refine aw_iload dX6_settle_98 rfl ?_
      refine aw_aload_n dX6_settle_100 rfl ?_
      refine aw_iload_n dX6_settle_101 rfl ?_
      refine aw_iload dX6_settle_102 rfl ?_
      refine aw_V0c (As := [_, _]) dX6_settle_104 k6_111 rfl rfl rfl ⟨Nat.le_of_ble_eq_true rfl, Nat.le_of_ble_eq_true rfl⟩ (Nat.le_of_ble_eq_true rfl) ⟨⟨Nat.le_of_ble_eq_true rfl, Nat.le_of_ble_eq_true rfl⟩, ⟨Nat.le_of_ble_eq_true rfl, Nat.le_of_ble_eq_true rfl⟩⟩ ⟨rfl, rfl⟩ (w_tells37 G (hT.mv hR1 (by decide) (by decide)) (hU.mv hR1 (by decide)) (by omega) hp hw hn8 hu) (fun v h2 hq => ?_)
      obtain ⟨rfl, rfl⟩ := hq
      refine aw_V0c (As := [_, _, _]) dX6_settle_107 k6_115 rfl rfl rfl ⟨Nat.le_of_ble_eq_true rfl, Nat.le_of_ble_eq_true rfl⟩ (Nat.le_of_ble_eq_true rfl) ⟨⟨Nat.le_of_ble_eq_true rfl, Nat.le_of_ble_eq_true rfl⟩, ⟨Nat.le_of_ble_eq_true rfl, Nat.le_of_ble_eq_true rfl⟩⟩ ⟨rfl, rfl⟩ (w_isTold44 G hR1 (by omega) hp (show aw_u s 4 (s 5 k) (s 4 (s 5 k) + 1) 3 (s 5 k) < 100000 from by rw [aw_u_ne (by decide)]; omega)) (fun v h2 hq => ?_)
      obtain ⟨rfl, rfl⟩ := hq
      refine aw_if_eq (tgt := 123) dX6_settle_110 (by decide) (fun c110 => ?_) (fun c110 => ?_)
      · refine aw_iload dX6_settle_123 rfl ?_
        refine aw_iconst (v := -1) dX6_settle_125 rfl ?_
        refine aw_ic_ne (tgt := 139) dX6_settle_126 (by decide) (fun c126 => ?_) (fun c126 => ?_)
        · refine aw_aload_n dX6_settle_139 rfl ?_
          refine aw_getR dX6_settle_140 f6_19 rfl ⟨Nat.le_of_ble_eq_true rfl, Nat.le_of_ble_eq_true rfl⟩ rfl rfl ?_
          refine aw_iload_n dX6_settle_143 rfl ?_
          refine aw_iald_n dX6_settle_144 rfl (Nat.le_of_ble_eq_true rfl) (by decide) hk ?_
          refine aw_top e2 ?_
          refine aw_iload dX6_settle_145 rfl ?_
          refine aw_ic_ge (tgt := 179) dX6_settle_147 (by decide) (fun c147 => ?_) (fun c147 => ?_)
          · have n1 : ¬ s 5 k = t 1 k := fun z => c78 (by rw [z])
            have hbb : (((!(t 2 k == 2) && p_tells t u h (s 5 k)) || (t 2 k == 1 && decide (1 < aw_u s 4 (s 5 k) (s 4 (s 5 k) + 1) 3 (s 5 k)))) = p_told s t u k h (s 5 k)) := by rw [aw_u_ne (by decide)]; rfl
            rw [hbb] at c110
            have hto : ¬ p_told s t u k h (s 5 k) = true := fun z => by rw [z] at c110; exact absurd c110 (by decide)
            have w1 : ¬ W = 0 := fun z => c126 ((zi_none (by omega)).mpr z)
            have hd2 := hdW w1
            have ge : ¬ s 2 k < d + t 4 k := fun z => absurd ((zi_lt (by omega) (by omega)).mpr z) (Int32.not_lt.mpr c147)
            have e : p_settle s t u x k h = p_note (aw_u (aw_u (aw_u (aw_u s 4 (s 5 k) (s 4 (s 5 k) + 1)) 2 k (s 2 k - (d + t 4 k))) 1 k (h + d)) 5 k (W - 1)) k h (s 5 k) (s 2 k - (d + t 4 k)) W := by
              rw [p_settle, if_neg n1, if_neg hto, hWe, if_neg w1, ← hd2, if_neg ge]
            rw [e]
            refine aw_aload_n dX6_settle_179 rfl ?_
            refine aw_getR dX6_settle_180 f6_31 rfl ⟨Nat.le_of_ble_eq_true rfl, Nat.le_of_ble_eq_true rfl⟩ rfl rfl ?_
            refine aw_iload_n dX6_settle_183 rfl ?_
            refine aw_iald_n dX6_settle_184 rfl (Nat.le_of_ble_eq_true rfl) (by decide) hk ?_
            refine aw_top (e6.trans (by rw [hst]; rfl : _ = (1 : Int32))) ?_
            refine aw_iconst (v := 1) dX6_settle_185 rfl ?_
            refine aw_ic_ne (tgt := 240) dX6_settle_186 (by decide) (fun z => absurd rfl z) (fun _ => ?_)
            refine aw_aload_n dX6_settle_189 rfl ?_
            refine aw_getR dX6_settle_190 f6_19 rfl ⟨Nat.le_of_ble_eq_true rfl, Nat.le_of_ble_eq_true rfl⟩ rfl rfl ?_
            refine aw_iload_n dX6_settle_193 rfl ?_
            refine aw_dup2 dX6_settle_194 rfl rfl ?_
            refine aw_iald_n dX6_settle_195 rfl (Nat.le_of_ble_eq_true rfl) (by decide) hk ?_
            refine aw_top e2 ?_
            refine aw_iload dX6_settle_196 rfl ?_
            refine aw_isub dX6_settle_198 ?_
            refine aw_top (pk_sub (by omega)) ?_
            refine aw_iast_n dX6_settle_199 rfl ⟨Nat.le_of_ble_eq_true rfl, Nat.le_of_ble_eq_true rfl⟩ (by decide) hk ?_
            refine aw_aload_n dX6_settle_200 rfl ?_
            refine aw_getR dX6_settle_201 f6_15 rfl ⟨Nat.le_of_ble_eq_true rfl, Nat.le_of_ble_eq_true rfl⟩ rfl rfl ?_
            refine aw_iload_n dX6_settle_204 rfl ?_
            refine aw_iload_n dX6_settle_205 rfl ?_
            refine aw_iload dX6_settle_206 rfl ?_
            refine aw_iadd dX6_settle_208 ?_
            refine aw_top (nI_add _ _) ?_
            refine aw_iast_n dX6_settle_209 rfl ⟨Nat.le_of_ble_eq_true rfl, Nat.le_of_ble_eq_true rfl⟩ (by decide) hk ?_
            refine aw_aload_n dX6_settle_210 rfl ?_
            refine aw_getR dX6_settle_211 f6_28 rfl ⟨Nat.le_of_ble_eq_true rfl, Nat.le_of_ble_eq_true rfl⟩ rfl rfl ?_
            refine aw_iload_n dX6_settle_214 rfl ?_
            refine aw_iload dX6_settle_215 rfl ?_
            refine aw_top (zi_pred w1) ?_
            refine aw_iast_n dX6_settle_217 rfl ⟨Nat.le_of_ble_eq_true rfl, Nat.le_of_ble_eq_true rfl⟩ (by decide) hk ?_
            refine aw_aload_n dX6_settle_218 rfl ?_
            refine aw_getR dX6_settle_219 f6_43 rfl ⟨Nat.le_of_ble_eq_true rfl, Nat.le_of_ble_eq_true rfl⟩ rfl rfl ?_
            refine aw_iload_n dX6_settle_222 rfl ?_
            refine aw_iload_n dX6_settle_223 rfl ?_
            refine aw_iload dX6_settle_224 rfl ?_
            refine aw_aload_n dX6_settle_226 rfl ?_
            refine aw_getR dX6_settle_227 f6_19 rfl ⟨Nat.le_of_ble_eq_true rfl, Nat.le_of_ble_eq_true rfl⟩ rfl rfl ?_
            refine aw_iload_n dX6_settle_230 rfl ?_
            refine aw_iald_n dX6_settle_231 rfl (Nat.le_of_ble_eq_true rfl) (by decide) hk ?_
            refine aw_top (show aw_u I 46 k (nI (s 2 k - (d + t 4 k))) 46 k = _ from aw_u_eq) ?_
            refine aw_iload dX6_settle_232 rfl ?_
            refine aw_V0c (As := [_, _, _, _, _]) dX6_settle_234 k6_119 rfl rfl rfl ⟨Nat.le_of_ble_eq_true rfl, Nat.le_of_ble_eq_true rfl⟩ (Nat.le_of_ble_eq_true rfl) ⟨⟨Nat.le_of_ble_eq_true rfl, Nat.le_of_ble_eq_true rfl⟩, ⟨Nat.le_of_ble_eq_true rfl, Nat.le_of_ble_eq_true rfl⟩⟩ ⟨rfl, rfl⟩ (w_note44 G (((hR1.u (i := 2) (j := k) (v := s 2 k - (d + t 4 k)) (by decide)).u (i := 1) (j := k) (v := h + d) (by decide)).u (i := 5) (j := k) (v := W - 1) (by decide)) hk hl) (fun v h2 hq => ?_)
            obtain ⟨rfl, I2, rfl, hR2⟩ := hq
            refine aw_goto (tgt := 274) dX6_settle_237 (by decide) ?_
            refine aw_ret0 dX6_settle_274 rfl ⟨Nat.le_of_ble_eq_true rfl, Nat.le_of_ble_eq_true rfl⟩ ?_
            exact ⟨rfl, I2, rfl, hR2⟩
          · refine aw_aload_n dX6_settle_150 rfl ?_
            refine aw_getR dX6_settle_151 f6_31 rfl ⟨Nat.le_of_ble_eq_true rfl, Nat.le_of_ble_eq_true rfl⟩ rfl rfl ?_
            refine aw_iload_n dX6_settle_154 rfl ?_
            refine aw_iconst (v := 4) dX6_settle_155 rfl ?_
            refine aw_iast_n dX6_settle_156 rfl ⟨Nat.le_of_ble_eq_true rfl, Nat.le_of_ble_eq_true rfl⟩ (by decide) hk ?_
            refine aw_aload_n dX6_settle_157 rfl ?_
            refine aw_getR dX6_settle_158 f6_37 rfl ⟨Nat.le_of_ble_eq_true rfl, Nat.le_of_ble_eq_true rfl⟩ rfl rfl ?_
            refine aw_iload_n dX6_settle_161 rfl ?_
            refine aw_aload_n dX6_settle_162 rfl ?_
            refine aw_getR dX6_settle_163 f6_78 rfl ⟨Nat.le_of_ble_eq_true rfl, Nat.le_of_ble_eq_true rfl⟩ rfl rfl ?_
            refine aw_iload_n dX6_settle_166 rfl ?_
            refine aw_iald_n dX6_settle_167 rfl (Nat.le_of_ble_eq_true rfl) (by decide) hk ?_
            refine aw_top g3 ?_
            refine aw_aload_n dX6_settle_168 rfl ?_
            refine aw_getR dX6_settle_169 f6_19 rfl ⟨Nat.le_of_ble_eq_true rfl, Nat.le_of_ble_eq_true rfl⟩ rfl rfl ?_
            refine aw_iload_n dX6_settle_172 rfl ?_
            refine aw_iald_n dX6_settle_173 rfl (Nat.le_of_ble_eq_true rfl) (by decide) hk ?_
            refine aw_top e2 ?_
            refine aw_isub dX6_settle_174 ?_
            refine aw_top (pk_sub hlf) ?_
            refine aw_iload dX6_settle_175 rfl ?_
            refine aw_iadd dX6_settle_177 ?_
            refine aw_top (nI_add _ _) ?_
            refine aw_iast_n dX6_settle_178 rfl ⟨Nat.le_of_ble_eq_true rfl, Nat.le_of_ble_eq_true rfl⟩ (by decide) hk ?_
            have n1 : ¬ s 5 k = t 1 k := fun z => c78 (by rw [z])
            have hbb : (((!(t 2 k == 2) && p_tells t u h (s 5 k)) || (t 2 k == 1 && decide (1 < aw_u s 4 (s 5 k) (s 4 (s 5 k) + 1) 3 (s 5 k)))) = p_told s t u k h (s 5 k)) := by rw [aw_u_ne (by decide)]; rfl
            rw [hbb] at c110
            have hto : ¬ p_told s t u k h (s 5 k) = true := fun z => by rw [z] at c110; exact absurd c110 (by decide)
            have w1 : ¬ W = 0 := fun z => c126 ((zi_none (by omega)).mpr z)
            have hd2 := hdW w1
            have lt : s 2 k < d + t 4 k := (zi_lt (by omega) (by omega)).mp (Int32.not_le.mp c147)
            have e : p_settle s t u x k h = p_fin (aw_u (aw_u (aw_u s 4 (s 5 k) (s 4 (s 5 k) + 1)) 6 k 4) 8 k (t 3 k - s 2 k + (d + t 4 k))) k h (s 5 k) := by
              rw [p_settle, if_neg n1, if_neg hto, hWe, if_neg w1, ← hd2, if_pos lt]
            rw [e]
            exact w_finB G ((hR1.u (i := 6) (j := k) (v := 4) (by decide)).u (i := 8) (j := k) (v := t 3 k - s 2 k + (d + t 4 k)) (by decide)) hk (by rw [aw_u_ne (by decide), aw_u_eq]; decide) (by rw [aw_u_ne (by decide), aw_u_eq]; decide) hl
        · refine aw_aload_n dX6_settle_129 rfl ?_
          refine aw_getR dX6_settle_130 f6_31 rfl ⟨Nat.le_of_ble_eq_true rfl, Nat.le_of_ble_eq_true rfl⟩ rfl rfl ?_
          refine aw_iload_n dX6_settle_133 rfl ?_
          refine aw_iconst (v := 5) dX6_settle_134 rfl ?_
          refine aw_iast_n dX6_settle_135 rfl ⟨Nat.le_of_ble_eq_true rfl, Nat.le_of_ble_eq_true rfl⟩ (by decide) hk ?_
          refine aw_goto (tgt := 179) dX6_settle_136 (by decide) ?_
          have n1 : ¬ s 5 k = t 1 k := fun z => c78 (by rw [z])
          have hbb : (((!(t 2 k == 2) && p_tells t u h (s 5 k)) || (t 2 k == 1 && decide (1 < aw_u s 4 (s 5 k) (s 4 (s 5 k) + 1) 3 (s 5 k)))) = p_told s t u k h (s 5 k)) := by rw [aw_u_ne (by decide)]; rfl
          rw [hbb] at c110
          have hto : ¬ p_told s t u k h (s 5 k) = true := fun z => by rw [z] at c110; exact absurd c110 (by decide)
          have w0 : W = 0 := (zi_none (by omega)).mp c126
          have e : p_settle s t u x k h = p_fin (aw_u (aw_u s 4 (s 5 k) (s 4 (s 5 k) + 1)) 6 k 5) k h (s 5 k) := by
            rw [p_settle, if_neg n1, if_neg hto, hWe, if_pos w0]
          rw [e]
          exact w_finB G (hR1.u (i := 6) (j := k) (v := 5) (by decide)) hk (by rw [aw_u_eq]; decide) (by rw [aw_u_eq]; decide) hl
      · refine aw_aload_n dX6_settle_113 rfl ?_
        refine aw_getR dX6_settle_114 f6_31 rfl ⟨Nat.le_of_ble_eq_true rfl, Nat.le_of_ble_eq_true rfl⟩ rfl rfl ?_
        refine aw_iload_n dX6_settle_117 rfl ?_
        refine aw_iconst (v := 3) dX6_settle_118 rfl ?_
        refine aw_iast_n dX6_settle_119 rfl ⟨Nat.le_of_ble_eq_true rfl, Nat.le_of_ble_eq_true rfl⟩ (by decide) hk ?_
        refine aw_goto (tgt := 179) dX6_settle_120 (by decide) ?_
        have n1 : ¬ s 5 k = t 1 k := fun z => c78 (by rw [z])
        have hbb : (((!(t 2 k == 2) && p_tells t u h (s 5 k)) || (t 2 k == 1 && decide (1 < aw_u s 4 (s 5 k) (s 4 (s 5 k) + 1) 3 (s 5 k)))) = p_told s t u k h (s 5 k)) := by rw [aw_u_ne (by decide)]; rfl
        rw [hbb] at c110
        have hto : p_told s t u k h (s 5 k) = true := by
          cases hb : p_told s t u k h (s 5 k) with
          | true => rfl
          | false => rw [hb] at c110; exact absurd rfl c110
        have e : p_settle s t u x k h = p_fin (aw_u (aw_u s 4 (s 5 k) (s 4 (s 5 k) + 1)) 6 k 3) k h (s 5 k) := by
          rw [p_settle, if_neg n1, if_pos hto]
        rw [e]
        exact w_finB G (hR1.u (i := 6) (j := k) (v := 3) (by decide)) hk (by rw [aw_u_eq]; decide) (by rw [aw_u_eq]; decide) hl
    · refine aw_aload_n dX6_settle_81 rfl ?_
      refine aw_getR dX6_settle_82 f6_31 rfl ⟨Nat.le_of_ble_eq_true rfl, Nat.le_of_ble_eq_true rfl⟩ rfl rfl ?_
      refine aw_iload_n dX6_settle_85 rfl ?_
      refine aw_iconst (v := 2) dX6_settle_86 rfl ?_
      refine aw_iast_n dX6_settle_87 rfl ⟨Nat.le_of_ble_eq_true rfl, Nat.le_of_ble_eq_true rfl⟩ (by decide) hk ?_
      refine aw_goto (tgt := 179) dX6_settle_88 (by decide) ?_
      have e : p_settle s t u x k h = p_fin (aw_u (aw_u s 4 (s 5 k) (s 4 (s 5 k) + 1)) 6 k 2) k h (s 5 k) := by
        rw [p_settle, if_pos ((zi_eq (by omega) (by omega)).mp c78)]
      rw [e]
      exact w_finB G (hR1.u (i := 6) (j := k) (v := 2) (by decide)) hk (by rw [aw_u_eq]; decide) (by rw [aw_u_eq]; decide) hl
  refine aw_Met.of okX6_settle (Nat.le_of_ble_eq_true rfl) ?_
  show aw_W G mX6_settle 0 [.ref 44, .ref 37, .int (nI k), .int (nI h), aw_x, aw_x, aw_x, aw_x] [] (zH n I L 12) (0, 0) _
  refine aw_aload_n dX6_settle_0 rfl ?_
  refine aw_getR dX6_settle_1 f6_28 rfl ⟨Nat.le_of_ble_eq_true rfl, Nat.le_of_ble_eq_true rfl⟩ rfl rfl ?_
  refine aw_iload_n dX6_settle_4 rfl ?_
  refine aw_iald_n dX6_settle_5 rfl (Nat.le_of_ble_eq_true rfl) (by decide) hk ?_
  refine aw_top e5 ?_
  refine aw_istore (ls2 := [_, _, _, _, _, _, _, _]) dX6_settle_6 (by decide) rfl rfl ?_
  refine aw_aload_n dX6_settle_8 rfl ?_
  refine aw_getR dX6_settle_9 f6_90 rfl ⟨Nat.le_of_ble_eq_true rfl, Nat.le_of_ble_eq_true rfl⟩ rfl rfl ?_
  refine aw_iload dX6_settle_12 rfl ?_
  refine aw_aload_n dX6_settle_14 rfl ?_
  refine aw_getR dX6_settle_15 f6_94 rfl ⟨Nat.le_of_ble_eq_true rfl, Nat.le_of_ble_eq_true rfl⟩ rfl rfl ?_
  refine aw_iload_n dX6_settle_18 rfl ?_
  refine aw_iald_n dX6_settle_19 rfl (Nat.le_of_ble_eq_true rfl) (by decide) hk ?_
  refine aw_top g1 ?_
  refine aw_V0c (As := [_, _]) dX6_settle_20 k6_97 rfl rfl rfl ⟨Nat.le_of_ble_eq_true rfl, Nat.le_of_ble_eq_true rfl⟩ (Nat.le_of_ble_eq_true rfl) ⟨⟨Nat.le_of_ble_eq_true rfl, Nat.le_of_ble_eq_true rfl⟩, ⟨Nat.le_of_ble_eq_true rfl, Nat.le_of_ble_eq_true rfl⟩⟩ ⟨rfl, rfl⟩ (w_turn12 G (hX.mv hR (by decide)) hp hg) (fun v h2 hq => ?_)
  obtain ⟨rfl, rfl⟩ := hq
  rw [hWe]
  refine aw_istore (ls2 := [_, _, _, _, _, _, _, _]) dX6_settle_23 (by decide) rfl rfl ?_
  refine aw_iload dX6_settle_25 rfl ?_
  refine aw_iconst (v := -1) dX6_settle_27 rfl ?_
  refine aw_ic_ne (tgt := 35) dX6_settle_28 (by decide) (fun c28 => ?_) (fun c28 => ?_)
  · have w1 : W ≠ 0 := fun z => c28 ((zi_none (by omega)).mpr z)
    refine aw_aload_n dX6_settle_35 rfl ?_
    refine aw_getR dX6_settle_36 f6_90 rfl ⟨Nat.le_of_ble_eq_true rfl, Nat.le_of_ble_eq_true rfl⟩ rfl rfl ?_
    refine aw_iload dX6_settle_39 rfl ?_
    refine aw_iload dX6_settle_41 rfl ?_
    refine aw_top (zi_pred w1) ?_
    refine aw_V0c (As := [_, _]) dX6_settle_43 k6_102 rfl rfl rfl ⟨Nat.le_of_ble_eq_true rfl, Nat.le_of_ble_eq_true rfl⟩ (Nat.le_of_ble_eq_true rfl) ⟨⟨Nat.le_of_ble_eq_true rfl, Nat.le_of_ble_eq_true rfl⟩, ⟨Nat.le_of_ble_eq_true rfl, Nat.le_of_ble_eq_true rfl⟩⟩ ⟨rfl, rfl⟩ (w_step12 G (hX.mv hR (by decide)) hp (show W - 1 < 8 by omega)) (fun v h2 hq => ?_)
    obtain ⟨rfl, rfl⟩ := hq
    exact key _ (hx0 _ (by omega)) (fun _ => rfl)
  · refine aw_iconst (v := 0) dX6_settle_31 rfl ?_
    refine aw_goto (tgt := 46) dX6_settle_32 (by decide) ?_
    exact key 0 (by omega) (fun z => absurd ((zi_none (by omega)).mp c28) z)
theorem w_finC (G : aw_G) {n : Nat} {I I0 : Nat → Nat → Int32} {L : Nat → Nat → Int64} {s : Nat → Nat → Nat} {k t p : Nat} {l5 l6 l7 : Value} (hR : zRun s 44 I0 I) (hk : k < 8) (hst : s 6 k ≠ 1) (h6 : s 6 k < 100000) (hl : s 10 k < 100000) :
    aw_W G mX6_settle 179 [.ref 44, .ref 37, .int (nI k), .int (nI t), .int (nI p), l5, l6, l7] [] (zH n I L 60) (0, 0) (zPost n L 60 44 I0 (p_fin s k t p)) := by
  have e6 : I 50 k = nI (s 6 k) := hR.at 6 k (by decide) (by decide) (by decide) (by omega)
  have e2 : I 46 k = nI (s 2 k) := hR.at 2 k (by decide) (by decide) (by decide) (by omega)
  refine aw_aload_n dX6_settle_179 rfl ?_
  refine aw_getR dX6_settle_180 f6_31 rfl ⟨Nat.le_of_ble_eq_true rfl, Nat.le_of_ble_eq_true rfl⟩ rfl rfl ?_
  refine aw_iload_n dX6_settle_183 rfl ?_
  refine aw_iald_n dX6_settle_184 rfl (Nat.le_of_ble_eq_true rfl) (by decide) hk ?_
  refine aw_top e6 ?_
  refine aw_iconst (v := 1) dX6_settle_185 rfl ?_
  refine aw_ic_ne (tgt := 240) dX6_settle_186 (by decide) (fun _ => ?_) (fun z => absurd z (fun z => hst ((zi_eq (b := 1) h6 (by decide)).mp z)))
  refine aw_aload_n dX6_settle_240 rfl ?_
  refine aw_getR dX6_settle_241 f6_34 rfl ⟨Nat.le_of_ble_eq_true rfl, Nat.le_of_ble_eq_true rfl⟩ rfl rfl ?_
  refine aw_iload_n dX6_settle_244 rfl ?_
  refine aw_iload_n dX6_settle_245 rfl ?_
  refine aw_iast_n dX6_settle_246 rfl ⟨Nat.le_of_ble_eq_true rfl, Nat.le_of_ble_eq_true rfl⟩ (by decide) hk ?_
  refine aw_aload_n dX6_settle_247 rfl ?_
  refine aw_getR dX6_settle_248 f6_15 rfl ⟨Nat.le_of_ble_eq_true rfl, Nat.le_of_ble_eq_true rfl⟩ rfl rfl ?_
  refine aw_iload_n dX6_settle_251 rfl ?_
  refine aw_sipush (v := 1000) dX6_settle_252 (by decide) ?_
  refine aw_iast_n dX6_settle_255 rfl ⟨Nat.le_of_ble_eq_true rfl, Nat.le_of_ble_eq_true rfl⟩ (by decide) hk ?_
  refine aw_aload_n dX6_settle_256 rfl ?_
  refine aw_getR dX6_settle_257 f6_43 rfl ⟨Nat.le_of_ble_eq_true rfl, Nat.le_of_ble_eq_true rfl⟩ rfl rfl ?_
  refine aw_iload_n dX6_settle_260 rfl ?_
  refine aw_iload_n dX6_settle_261 rfl ?_
  refine aw_iload dX6_settle_262 rfl ?_
  refine aw_aload_n dX6_settle_264 rfl ?_
  refine aw_getR dX6_settle_265 f6_19 rfl ⟨Nat.le_of_ble_eq_true rfl, Nat.le_of_ble_eq_true rfl⟩ rfl rfl ?_
  refine aw_iload_n dX6_settle_268 rfl ?_
  refine aw_iald_n dX6_settle_269 rfl (Nat.le_of_ble_eq_true rfl) (by decide) hk ?_
  refine aw_top e2 ?_
  refine aw_iconst (v := -1) dX6_settle_270 rfl ?_
  refine aw_top (show (-1 : Int32) = nI 0 - 1 from rfl) ?_
  refine aw_V0c (As := [_, _, _, _, _]) dX6_settle_271 k6_119 rfl rfl rfl ⟨Nat.le_of_ble_eq_true rfl, Nat.le_of_ble_eq_true rfl⟩ (Nat.le_of_ble_eq_true rfl) ⟨⟨Nat.le_of_ble_eq_true rfl, Nat.le_of_ble_eq_true rfl⟩, ⟨Nat.le_of_ble_eq_true rfl, Nat.le_of_ble_eq_true rfl⟩⟩ ⟨rfl, rfl⟩ (w_note44 G ((hR.u7 (j := k) (v := t)).u (i := 1) (j := k) (v := 1000) (by decide)) hk hl) (fun v h2 hq => ?_)
  obtain ⟨rfl, I2, rfl, hR2⟩ := hq
  refine aw_ret0 dX6_settle_274 rfl ⟨Nat.le_of_ble_eq_true rfl, Nat.le_of_ble_eq_true rfl⟩ ?_
  exact ⟨rfl, I2, rfl, hR2⟩
theorem w_settleC (G : aw_G) {n : Nat} {I I0 : Nat → Nat → Int32} {L : Nat → Nat → Int64} {s t u x : Nat → Nat → Nat} (hR : zRun s 44 I0 I) (hT : zSet t 37 38 I0) (hX : zCh x 60 I0) (hU : zAn u I0) {k h : Nat} (hk : k < 8) (hh : h < 1000) (hst : s 6 k = 1) (hl : s 10 k < 100000) (hp : s 5 k < 8) (hg : t 1 k < 8) (hx2 : ∀ j, j < 64 → x 2 j ≤ 8) (hx0 : ∀ j, j < 64 → x 0 j ≤ 1000) (hld : t 4 k < 1000) (hlf : s 2 k ≤ t 3 k) (hs3 : t 3 k < 1000) (h4 : s 4 (s 5 k) < 10000) (hpr : s 3 (s 5 k) < 10000) (hso : t 2 k < 100) (hw : t 6 1 < 100000) (hn8 : u 2 0 ≤ 8) (hu : ∀ a, a < 8 → u 0 a < 100000 ∧ u 1 a < 100000) : aw_Met G mX6_settle [.ref 44, .ref 37, .int (nI k), .int (nI h)] (zH n I L 60) (zPost n L 60 44 I0 (p_settle s t u x k h)) := by
  have hj : s 5 k * 8 + t 1 k < 64 := by omega
  have hW8 := hx2 _ hj
  generalize hWe : x 2 (s 5 k * 8 + t 1 k) = W at hW8
  have e5 : I 49 k = nI (s 5 k) := hR.at 5 k (by decide) (by decide) (by decide) (by omega)
  have e2 : I 46 k = nI (s 2 k) := hR.at 2 k (by decide) (by decide) (by decide) (by omega)
  have e4 : I 48 (s 5 k) = nI (s 4 (s 5 k)) := hR.at 4 _ (by decide) (by decide) (by decide) (by omega)
  have e6 : I 50 k = nI (s 6 k) := hR.at 6 k (by decide) (by decide) (by decide) (by omega)
  have hT1 := (hT.mv hR (by decide) (by decide))
  have g1 : I 39 k = nI (t 1 k) := hT1.1 1 k (by decide) hk
  have g2 : I 40 k = nI (t 2 k) := hT1.1 2 k (by decide) hk
  have g3 : I 41 k = nI (t 3 k) := hT1.1 3 k (by decide) hk
  have g4 : I 42 k = nI (t 4 k) := hT1.1 4 k (by decide) hk
  have hR1 := hR.u (i := 4) (j := s 5 k) (v := s 4 (s 5 k) + 1) (by decide)
  have key : ∀ d : Nat, d ≤ 1000 → (W ≠ 0 → d = x 0 (s 5 k * 8 + (W - 1))) → aw_W G mX6_settle 46 [.ref 44, .ref 37, .int (nI k), .int (nI h), .int (nI (s 5 k)), .int (nI W - 1), aw_x, aw_x] [.int (nI d)] (zH n I L 60) (0, 0) (zPost n L 60 44 I0 (p_settle s t u x k h)) := by
    intro d hd hdW
    refine aw_istore (ls2 := [_, _, _, _, _, _, _, _]) dX6_settle_46 (by decide) rfl rfl ?_
    refine aw_iload dX6_settle_48 rfl ?_
    refine aw_aload_n dX6_settle_50 rfl ?_
    refine aw_getR dX6_settle_51 f6_105 rfl ⟨Nat.le_of_ble_eq_true rfl, Nat.le_of_ble_eq_true rfl⟩ rfl rfl ?_
    refine aw_iload_n dX6_settle_54 rfl ?_
    refine aw_iald_n dX6_settle_55 rfl (Nat.le_of_ble_eq_true rfl) (by decide) hk ?_
    refine aw_top g4 ?_
    refine aw_iadd dX6_settle_56 ?_
    refine aw_top (nI_add _ _) ?_
    refine aw_istore (ls2 := [_, _, _, _, _, _, _, _]) dX6_settle_57 (by decide) rfl rfl ?_
    refine aw_aload_n dX6_settle_59 rfl ?_
    refine aw_getR dX6_settle_60 f6_25 rfl ⟨Nat.le_of_ble_eq_true rfl, Nat.le_of_ble_eq_true rfl⟩ rfl rfl ?_
    refine aw_iload dX6_settle_63 rfl ?_
    refine aw_dup2 dX6_settle_65 rfl rfl ?_
    refine aw_iald_n dX6_settle_66 rfl (Nat.le_of_ble_eq_true rfl) (by decide) hp ?_
    refine aw_top e4 ?_
    refine aw_iconst (v := 1) dX6_settle_67 rfl ?_
    refine aw_iadd dX6_settle_68 ?_
    refine aw_top (nI_1 _) ?_
    refine aw_iast_n dX6_settle_69 rfl ⟨Nat.le_of_ble_eq_true rfl, Nat.le_of_ble_eq_true rfl⟩ (by decide) hp ?_
    refine aw_iload dX6_settle_70 rfl ?_
    refine aw_aload_n dX6_settle_72 rfl ?_
    refine aw_getR dX6_settle_73 f6_94 rfl ⟨Nat.le_of_ble_eq_true rfl, Nat.le_of_ble_eq_true rfl⟩ rfl rfl ?_
    refine aw_iload_n dX6_settle_76 rfl ?_
    refine aw_iald_n dX6_settle_77 rfl (Nat.le_of_ble_eq_true rfl) (by decide) hk ?_
    refine aw_top g1 ?_
    refine aw_ic_ne (tgt := 91) dX6_settle_78 (by decide) (fun c78 => ?_) (fun c78 => ?_)
    · refine aw_aload_n dX6_settle_91 rfl ?_
      refine aw_aload_n dX6_settle_92 rfl ?_
      refine aw_getR dX6_settle_93 f6_108 rfl ⟨Nat.le_of_ble_eq_true rfl, Nat.le_of_ble_eq_true rfl⟩ rfl rfl ?_
      refine aw_iload_n dX6_settle_96 rfl ?_
      refine aw_iald_n dX6_settle_97 rfl (Nat.le_of_ble_eq_true rfl) (by decide) hk ?_
      refine aw_top g2 ?_
      refine aw_iload dX6_settle_98 rfl ?_
      refine aw_aload_n dX6_settle_100 rfl ?_
      refine aw_iload_n dX6_settle_101 rfl ?_
      refine aw_iload dX6_settle_102 rfl ?_
      refine aw_V0c (As := [_, _]) dX6_settle_104 k6_111 rfl rfl rfl ⟨Nat.le_of_ble_eq_true rfl, Nat.le_of_ble_eq_true rfl⟩ (Nat.le_of_ble_eq_true rfl) ⟨⟨Nat.le_of_ble_eq_true rfl, Nat.le_of_ble_eq_true rfl⟩, ⟨Nat.le_of_ble_eq_true rfl, Nat.le_of_ble_eq_true rfl⟩⟩ ⟨rfl, rfl⟩ (w_tells37 G (hT.mv hR1 (by decide) (by decide)) (hU.mv hR1 (by decide)) (by omega) hp hw hn8 hu) (fun v h2 hq => ?_)
      obtain ⟨rfl, rfl⟩ := hq
      refine aw_V0c (As := [_, _, _]) dX6_settle_107 k6_115 rfl rfl rfl ⟨Nat.le_of_ble_eq_true rfl, Nat.le_of_ble_eq_true rfl⟩ (Nat.le_of_ble_eq_true rfl) ⟨⟨Nat.le_of_ble_eq_true rfl, Nat.le_of_ble_eq_true rfl⟩, ⟨Nat.le_of_ble_eq_true rfl, Nat.le_of_ble_eq_true rfl⟩⟩ ⟨rfl, rfl⟩ (w_isTold44 G hR1 (by omega) hp (show aw_u s 4 (s 5 k) (s 4 (s 5 k) + 1) 3 (s 5 k) < 100000 from by rw [aw_u_ne (by decide)]; omega)) (fun v h2 hq => ?_)
      obtain ⟨rfl, rfl⟩ := hq
      refine aw_if_eq (tgt := 123) dX6_settle_110 (by decide) (fun c110 => ?_) (fun c110 => ?_)
      · refine aw_iload dX6_settle_123 rfl ?_
        refine aw_iconst (v := -1) dX6_settle_125 rfl ?_
        refine aw_ic_ne (tgt := 139) dX6_settle_126 (by decide) (fun c126 => ?_) (fun c126 => ?_)
        · refine aw_aload_n dX6_settle_139 rfl ?_
          refine aw_getR dX6_settle_140 f6_19 rfl ⟨Nat.le_of_ble_eq_true rfl, Nat.le_of_ble_eq_true rfl⟩ rfl rfl ?_
          refine aw_iload_n dX6_settle_143 rfl ?_
          refine aw_iald_n dX6_settle_144 rfl (Nat.le_of_ble_eq_true rfl) (by decide) hk ?_
          refine aw_top e2 ?_
          refine aw_iload dX6_settle_145 rfl ?_
          refine aw_ic_ge (tgt := 179) dX6_settle_147 (by decide) (fun c147 => ?_) (fun c147 => ?_)
          · have n1 : ¬ s 5 k = t 1 k := fun z => c78 (by rw [z])
            have hbb : (((!(t 2 k == 2) && p_tells t u h (s 5 k)) || (t 2 k == 1 && decide (1 < aw_u s 4 (s 5 k) (s 4 (s 5 k) + 1) 3 (s 5 k)))) = p_told s t u k h (s 5 k)) := by rw [aw_u_ne (by decide)]; rfl
            rw [hbb] at c110
            have hto : ¬ p_told s t u k h (s 5 k) = true := fun z => by rw [z] at c110; exact absurd c110 (by decide)
            have w1 : ¬ W = 0 := fun z => c126 ((zi_none (by omega)).mpr z)
            have hd2 := hdW w1
            have ge : ¬ s 2 k < d + t 4 k := fun z => absurd ((zi_lt (by omega) (by omega)).mpr z) (Int32.not_lt.mpr c147)
            have e : p_settle s t u x k h = p_note (aw_u (aw_u (aw_u (aw_u s 4 (s 5 k) (s 4 (s 5 k) + 1)) 2 k (s 2 k - (d + t 4 k))) 1 k (h + d)) 5 k (W - 1)) k h (s 5 k) (s 2 k - (d + t 4 k)) W := by
              rw [p_settle, if_neg n1, if_neg hto, hWe, if_neg w1, ← hd2, if_neg ge]
            rw [e]
            refine aw_aload_n dX6_settle_179 rfl ?_
            refine aw_getR dX6_settle_180 f6_31 rfl ⟨Nat.le_of_ble_eq_true rfl, Nat.le_of_ble_eq_true rfl⟩ rfl rfl ?_
            refine aw_iload_n dX6_settle_183 rfl ?_
            refine aw_iald_n dX6_settle_184 rfl (Nat.le_of_ble_eq_true rfl) (by decide) hk ?_
            refine aw_top (e6.trans (by rw [hst]; rfl : _ = (1 : Int32))) ?_
            refine aw_iconst (v := 1) dX6_settle_185 rfl ?_
            refine aw_ic_ne (tgt := 240) dX6_settle_186 (by decide) (fun z => absurd rfl z) (fun _ => ?_)
            refine aw_aload_n dX6_settle_189 rfl ?_
            refine aw_getR dX6_settle_190 f6_19 rfl ⟨Nat.le_of_ble_eq_true rfl, Nat.le_of_ble_eq_true rfl⟩ rfl rfl ?_
            refine aw_iload_n dX6_settle_193 rfl ?_
            refine aw_dup2 dX6_settle_194 rfl rfl ?_
            refine aw_iald_n dX6_settle_195 rfl (Nat.le_of_ble_eq_true rfl) (by decide) hk ?_
            refine aw_top e2 ?_
            refine aw_iload dX6_settle_196 rfl ?_
            refine aw_isub dX6_settle_198 ?_
            refine aw_top (pk_sub (by omega)) ?_
            refine aw_iast_n dX6_settle_199 rfl ⟨Nat.le_of_ble_eq_true rfl, Nat.le_of_ble_eq_true rfl⟩ (by decide) hk ?_
            refine aw_aload_n dX6_settle_200 rfl ?_
            refine aw_getR dX6_settle_201 f6_15 rfl ⟨Nat.le_of_ble_eq_true rfl, Nat.le_of_ble_eq_true rfl⟩ rfl rfl ?_
            refine aw_iload_n dX6_settle_204 rfl ?_
            refine aw_iload_n dX6_settle_205 rfl ?_
            refine aw_iload dX6_settle_206 rfl ?_
            refine aw_iadd dX6_settle_208 ?_
            refine aw_top (nI_add _ _) ?_
            refine aw_iast_n dX6_settle_209 rfl ⟨Nat.le_of_ble_eq_true rfl, Nat.le_of_ble_eq_true rfl⟩ (by decide) hk ?_
            refine aw_aload_n dX6_settle_210 rfl ?_
            refine aw_getR dX6_settle_211 f6_28 rfl ⟨Nat.le_of_ble_eq_true rfl, Nat.le_of_ble_eq_true rfl⟩ rfl rfl ?_
            refine aw_iload_n dX6_settle_214 rfl ?_
            refine aw_iload dX6_settle_215 rfl ?_
            refine aw_top (zi_pred w1) ?_
            refine aw_iast_n dX6_settle_217 rfl ⟨Nat.le_of_ble_eq_true rfl, Nat.le_of_ble_eq_true rfl⟩ (by decide) hk ?_
            refine aw_aload_n dX6_settle_218 rfl ?_
            refine aw_getR dX6_settle_219 f6_43 rfl ⟨Nat.le_of_ble_eq_true rfl, Nat.le_of_ble_eq_true rfl⟩ rfl rfl ?_
            refine aw_iload_n dX6_settle_222 rfl ?_
            refine aw_iload_n dX6_settle_223 rfl ?_
            refine aw_iload dX6_settle_224 rfl ?_
            refine aw_aload_n dX6_settle_226 rfl ?_
            refine aw_getR dX6_settle_227 f6_19 rfl ⟨Nat.le_of_ble_eq_true rfl, Nat.le_of_ble_eq_true rfl⟩ rfl rfl ?_
            refine aw_iload_n dX6_settle_230 rfl ?_
            refine aw_iald_n dX6_settle_231 rfl (Nat.le_of_ble_eq_true rfl) (by decide) hk ?_
            refine aw_top (show aw_u I 46 k (nI (s 2 k - (d + t 4 k))) 46 k = _ from aw_u_eq) ?_
            refine aw_iload dX6_settle_232 rfl ?_
            refine aw_V0c (As := [_, _, _, _, _]) dX6_settle_234 k6_119 rfl rfl rfl ⟨Nat.le_of_ble_eq_true rfl, Nat.le_of_ble_eq_true rfl⟩ (Nat.le_of_ble_eq_true rfl) ⟨⟨Nat.le_of_ble_eq_true rfl, Nat.le_of_ble_eq_true rfl⟩, ⟨Nat.le_of_ble_eq_true rfl, Nat.le_of_ble_eq_true rfl⟩⟩ ⟨rfl, rfl⟩ (w_note44 G (((hR1.u (i := 2) (j := k) (v := s 2 k - (d + t 4 k)) (by decide)).u (i := 1) (j := k) (v := h + d) (by decide)).u (i := 5) (j := k) (v := W - 1) (by decide)) hk hl) (fun v h2 hq => ?_)
            obtain ⟨rfl, I2, rfl, hR2⟩ := hq
            refine aw_goto (tgt := 274) dX6_settle_237 (by decide) ?_
            refine aw_ret0 dX6_settle_274 rfl ⟨Nat.le_of_ble_eq_true rfl, Nat.le_of_ble_eq_true rfl⟩ ?_
            exact ⟨rfl, I2, rfl, hR2⟩
          · refine aw_aload_n dX6_settle_150 rfl ?_
            refine aw_getR dX6_settle_151 f6_31 rfl ⟨Nat.le_of_ble_eq_true rfl, Nat.le_of_ble_eq_true rfl⟩ rfl rfl ?_
            refine aw_iload_n dX6_settle_154 rfl ?_
            refine aw_iconst (v := 4) dX6_settle_155 rfl ?_
            refine aw_iast_n dX6_settle_156 rfl ⟨Nat.le_of_ble_eq_true rfl, Nat.le_of_ble_eq_true rfl⟩ (by decide) hk ?_
            refine aw_aload_n dX6_settle_157 rfl ?_
            refine aw_getR dX6_settle_158 f6_37 rfl ⟨Nat.le_of_ble_eq_true rfl, Nat.le_of_ble_eq_true rfl⟩ rfl rfl ?_
            refine aw_iload_n dX6_settle_161 rfl ?_
            refine aw_aload_n dX6_settle_162 rfl ?_
            refine aw_getR dX6_settle_163 f6_78 rfl ⟨Nat.le_of_ble_eq_true rfl, Nat.le_of_ble_eq_true rfl⟩ rfl rfl ?_
            refine aw_iload_n dX6_settle_166 rfl ?_
            refine aw_iald_n dX6_settle_167 rfl (Nat.le_of_ble_eq_true rfl) (by decide) hk ?_
            refine aw_top g3 ?_
            refine aw_aload_n dX6_settle_168 rfl ?_
            refine aw_getR dX6_settle_169 f6_19 rfl ⟨Nat.le_of_ble_eq_true rfl, Nat.le_of_ble_eq_true rfl⟩ rfl rfl ?_
            refine aw_iload_n dX6_settle_172 rfl ?_
            refine aw_iald_n dX6_settle_173 rfl (Nat.le_of_ble_eq_true rfl) (by decide) hk ?_
            refine aw_top e2 ?_
            refine aw_isub dX6_settle_174 ?_
            refine aw_top (pk_sub hlf) ?_
            refine aw_iload dX6_settle_175 rfl ?_
            refine aw_iadd dX6_settle_177 ?_
            refine aw_top (nI_add _ _) ?_
            refine aw_iast_n dX6_settle_178 rfl ⟨Nat.le_of_ble_eq_true rfl, Nat.le_of_ble_eq_true rfl⟩ (by decide) hk ?_
            have n1 : ¬ s 5 k = t 1 k := fun z => c78 (by rw [z])
            have hbb : (((!(t 2 k == 2) && p_tells t u h (s 5 k)) || (t 2 k == 1 && decide (1 < aw_u s 4 (s 5 k) (s 4 (s 5 k) + 1) 3 (s 5 k)))) = p_told s t u k h (s 5 k)) := by rw [aw_u_ne (by decide)]; rfl
            rw [hbb] at c110
            have hto : ¬ p_told s t u k h (s 5 k) = true := fun z => by rw [z] at c110; exact absurd c110 (by decide)
            have w1 : ¬ W = 0 := fun z => c126 ((zi_none (by omega)).mpr z)
            have hd2 := hdW w1
            have lt : s 2 k < d + t 4 k := (zi_lt (by omega) (by omega)).mp (Int32.not_le.mp c147)
            have e : p_settle s t u x k h = p_fin (aw_u (aw_u (aw_u s 4 (s 5 k) (s 4 (s 5 k) + 1)) 6 k 4) 8 k (t 3 k - s 2 k + (d + t 4 k))) k h (s 5 k) := by
              rw [p_settle, if_neg n1, if_neg hto, hWe, if_neg w1, ← hd2, if_pos lt]
            rw [e]
            exact w_finC G ((hR1.u (i := 6) (j := k) (v := 4) (by decide)).u (i := 8) (j := k) (v := t 3 k - s 2 k + (d + t 4 k)) (by decide)) hk (by rw [aw_u_ne (by decide), aw_u_eq]; decide) (by rw [aw_u_ne (by decide), aw_u_eq]; decide) hl
        · refine aw_aload_n dX6_settle_129 rfl ?_
          refine aw_getR dX6_settle_130 f6_31 rfl ⟨Nat.le_of_ble_eq_true rfl, Nat.le_of_ble_eq_true rfl⟩ rfl rfl ?_
          refine aw_iload_n dX6_settle_133 rfl ?_
          refine aw_iconst (v := 5) dX6_settle_134 rfl ?_
          refine aw_iast_n dX6_settle_135 rfl ⟨Nat.le_of_ble_eq_true rfl, Nat.le_of_ble_eq_true rfl⟩ (by decide) hk ?_
          refine aw_goto (tgt := 179) dX6_settle_136 (by decide) ?_
          have n1 : ¬ s 5 k = t 1 k := fun z => c78 (by rw [z])
          have hbb : (((!(t 2 k == 2) && p_tells t u h (s 5 k)) || (t 2 k == 1 && decide (1 < aw_u s 4 (s 5 k) (s 4 (s 5 k) + 1) 3 (s 5 k)))) = p_told s t u k h (s 5 k)) := by rw [aw_u_ne (by decide)]; rfl
          rw [hbb] at c110
          have hto : ¬ p_told s t u k h (s 5 k) = true := fun z => by rw [z] at c110; exact absurd c110 (by decide)
          have w0 : W = 0 := (zi_none (by omega)).mp c126
          have e : p_settle s t u x k h = p_fin (aw_u (aw_u s 4 (s 5 k) (s 4 (s 5 k) + 1)) 6 k 5) k h (s 5 k) := by
            rw [p_settle, if_neg n1, if_neg hto, hWe, if_pos w0]
          rw [e]
          exact w_finC G (hR1.u (i := 6) (j := k) (v := 5) (by decide)) hk (by rw [aw_u_eq]; decide) (by rw [aw_u_eq]; decide) hl
      · refine aw_aload_n dX6_settle_113 rfl ?_
        refine aw_getR dX6_settle_114 f6_31 rfl ⟨Nat.le_of_ble_eq_true rfl, Nat.le_of_ble_eq_true rfl⟩ rfl rfl ?_
        refine aw_iload_n dX6_settle_117 rfl ?_
        refine aw_iconst (v := 3) dX6_settle_118 rfl ?_
        refine aw_iast_n dX6_settle_119 rfl ⟨Nat.le_of_ble_eq_true rfl, Nat.le_of_ble_eq_true rfl⟩ (by decide) hk ?_
        refine aw_goto (tgt := 179) dX6_settle_120 (by decide) ?_
        have n1 : ¬ s 5 k = t 1 k := fun z => c78 (by rw [z])
        have hbb : (((!(t 2 k == 2) && p_tells t u h (s 5 k)) || (t 2 k == 1 && decide (1 < aw_u s 4 (s 5 k) (s 4 (s 5 k) + 1) 3 (s 5 k)))) = p_told s t u k h (s 5 k)) := by rw [aw_u_ne (by decide)]; rfl
        rw [hbb] at c110
        have hto : p_told s t u k h (s 5 k) = true := by
          cases hb : p_told s t u k h (s 5 k) with
          | true => rfl
          | false => rw [hb] at c110; exact absurd rfl c110
        have e : p_settle s t u x k h = p_fin (aw_u (aw_u s 4 (s 5 k) (s 4 (s 5 k) + 1)) 6 k 3) k h (s 5 k) := by
          rw [p_settle, if_neg n1, if_pos hto]
        rw [e]
        exact w_finC G (hR1.u (i := 6) (j := k) (v := 3) (by decide)) hk (by rw [aw_u_eq]; decide) (by rw [aw_u_eq]; decide) hl
    · refine aw_aload_n dX6_settle_81 rfl ?_
      refine aw_getR dX6_settle_82 f6_31 rfl ⟨Nat.le_of_ble_eq_true rfl, Nat.le_of_ble_eq_true rfl⟩ rfl rfl ?_
      refine aw_iload_n dX6_settle_85 rfl ?_
      refine aw_iconst (v := 2) dX6_settle_86 rfl ?_
      refine aw_iast_n dX6_settle_87 rfl ⟨Nat.le_of_ble_eq_true rfl, Nat.le_of_ble_eq_true rfl⟩ (by decide) hk ?_
      refine aw_goto (tgt := 179) dX6_settle_88 (by decide) ?_
      have e : p_settle s t u x k h = p_fin (aw_u (aw_u s 4 (s 5 k) (s 4 (s 5 k) + 1)) 6 k 2) k h (s 5 k) := by
        rw [p_settle, if_pos ((zi_eq (by omega) (by omega)).mp c78)]
      rw [e]
      exact w_finC G (hR1.u (i := 6) (j := k) (v := 2) (by decide)) hk (by rw [aw_u_eq]; decide) (by rw [aw_u_eq]; decide) hl
  refine aw_Met.of okX6_settle (Nat.le_of_ble_eq_true rfl) ?_
  show aw_W G mX6_settle 0 [.ref 44, .ref 37, .int (nI k), .int (nI h), aw_x, aw_x, aw_x, aw_x] [] (zH n I L 60) (0, 0) _
  refine aw_aload_n dX6_settle_0 rfl ?_
  refine aw_getR dX6_settle_1 f6_28 rfl ⟨Nat.le_of_ble_eq_true rfl, Nat.le_of_ble_eq_true rfl⟩ rfl rfl ?_
  refine aw_iload_n dX6_settle_4 rfl ?_
  refine aw_iald_n dX6_settle_5 rfl (Nat.le_of_ble_eq_true rfl) (by decide) hk ?_
  refine aw_top e5 ?_
  refine aw_istore (ls2 := [_, _, _, _, _, _, _, _]) dX6_settle_6 (by decide) rfl rfl ?_
  refine aw_aload_n dX6_settle_8 rfl ?_
  refine aw_getR dX6_settle_9 f6_90 rfl ⟨Nat.le_of_ble_eq_true rfl, Nat.le_of_ble_eq_true rfl⟩ rfl rfl ?_
  refine aw_iload dX6_settle_12 rfl ?_
  refine aw_aload_n dX6_settle_14 rfl ?_
  refine aw_getR dX6_settle_15 f6_94 rfl ⟨Nat.le_of_ble_eq_true rfl, Nat.le_of_ble_eq_true rfl⟩ rfl rfl ?_
  refine aw_iload_n dX6_settle_18 rfl ?_
  refine aw_iald_n dX6_settle_19 rfl (Nat.le_of_ble_eq_true rfl) (by decide) hk ?_
  refine aw_top g1 ?_
  refine aw_V0c (As := [_, _]) dX6_settle_20 k6_97 rfl rfl rfl ⟨Nat.le_of_ble_eq_true rfl, Nat.le_of_ble_eq_true rfl⟩ (Nat.le_of_ble_eq_true rfl) ⟨⟨Nat.le_of_ble_eq_true rfl, Nat.le_of_ble_eq_true rfl⟩, ⟨Nat.le_of_ble_eq_true rfl, Nat.le_of_ble_eq_true rfl⟩⟩ ⟨rfl, rfl⟩ (w_turn60 G (hX.mv hR (by decide)) hp hg) (fun v h2 hq => ?_)
  obtain ⟨rfl, rfl⟩ := hq
  rw [hWe]
  refine aw_istore (ls2 := [_, _, _, _, _, _, _, _]) dX6_settle_23 (by decide) rfl rfl ?_
  refine aw_iload dX6_settle_25 rfl ?_
  refine aw_iconst (v := -1) dX6_settle_27 rfl ?_
  refine aw_ic_ne (tgt := 35) dX6_settle_28 (by decide) (fun c28 => ?_) (fun c28 => ?_)
  · have w1 : W ≠ 0 := fun z => c28 ((zi_none (by omega)).mpr z)
    refine aw_aload_n dX6_settle_35 rfl ?_
    refine aw_getR dX6_settle_36 f6_90 rfl ⟨Nat.le_of_ble_eq_true rfl, Nat.le_of_ble_eq_true rfl⟩ rfl rfl ?_
    refine aw_iload dX6_settle_39 rfl ?_
    refine aw_iload dX6_settle_41 rfl ?_
    refine aw_top (zi_pred w1) ?_
    refine aw_V0c (As := [_, _]) dX6_settle_43 k6_102 rfl rfl rfl ⟨Nat.le_of_ble_eq_true rfl, Nat.le_of_ble_eq_true rfl⟩ (Nat.le_of_ble_eq_true rfl) ⟨⟨Nat.le_of_ble_eq_true rfl, Nat.le_of_ble_eq_true rfl⟩, ⟨Nat.le_of_ble_eq_true rfl, Nat.le_of_ble_eq_true rfl⟩⟩ ⟨rfl, rfl⟩ (w_step60 G (hX.mv hR (by decide)) hp (show W - 1 < 8 by omega)) (fun v h2 hq => ?_)
    obtain ⟨rfl, rfl⟩ := hq
    exact key _ (hx0 _ (by omega)) (fun _ => rfl)
  · refine aw_iconst (v := 0) dX6_settle_31 rfl ?_
    refine aw_goto (tgt := 46) dX6_settle_32 (by decide) ?_
    exact key 0 (by omega) (fun z => absurd ((zi_none (by omega)).mp c28) z)
