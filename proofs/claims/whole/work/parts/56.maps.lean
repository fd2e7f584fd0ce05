/-! THE REFERENCE's charts -/
def zYx (e d : Nat → Nat) (I0 I : Nat → Nat → Int32) : Prop := (∀ j, j < 64 → I 92 j = nI (e j) ∧ I 93 j = nI (d j)) ∧ ∀ o, o ≠ 92 → o ≠ 93 → I o = I0 o
theorem zYx.any (I : Nat → Nat → Int32) : ∃ e d, zYx e d I I :=
  ⟨fun j => (I 92 j).toBitVec.toNat, fun j => (I 93 j).toBitVec.toNat, fun _ _ => ⟨zi_ex _, zi_ex _⟩, fun _ _ _ => rfl⟩
theorem zYx.ue {e d : Nat → Nat} {I0 I : Nat → Nat → Int32} {i v : Nat} (h : zYx e d I0 I) : zYx (va_up e i v) d I0 (aw_u I 92 i (nI v)) := by
  refine ⟨fun j hj => ⟨?_, ?_⟩, fun o h1 h2 => ?_⟩
  · by_cases hji : j = i
    · subst hji; rw [aw_u_eq]; simp [va_up]
    · rw [aw_u_nj hji]; simp only [va_up, if_neg hji]; exact (h.1 j hj).1
  · rw [aw_u_ne (by omega)]; exact (h.1 j hj).2
  · rw [aw_u_ne h1]; exact h.2 o h1 h2
theorem zYx.ud {e d : Nat → Nat} {I0 I : Nat → Nat → Int32} {i v : Nat} (h : zYx e d I0 I) : zYx e (va_up d i v) I0 (aw_u I 93 i (nI v)) := by
  refine ⟨fun j hj => ⟨?_, ?_⟩, fun o h1 h2 => ?_⟩
  · rw [aw_u_ne (by omega)]; exact (h.1 j hj).1
  · by_cases hji : j = i
    · subst hji; rw [aw_u_eq]; simp [va_up]
    · rw [aw_u_nj hji]; simp only [va_up, if_neg hji]; exact (h.1 j hj).2
  · rw [aw_u_ne h2]; exact h.2 o h1 h2
theorem zYx.cg {e d e2 d2 : Nat → Nat} {I0 I : Nat → Nat → Int32} (h : zYx e d I0 I) (he : ∀ j, j < 64 → e j = e2 j) (hd : ∀ j, j < 64 → d j = d2 j) : zYx e2 d2 I0 I :=
  ⟨fun j hj => by rw [← he j hj, ← hd j hj]; exact h.1 j hj, h.2⟩
theorem f_q_le {d : Nat → Nat} {b n X : Nat} (hb : b < 8) (h0 : d (8 * b + b) = 0) (h : ∀ j, j < 64 → d j ≤ X) : ∀ j, j < 64 → f_q d b n j ≤ X := by
  intro j hj
  rw [f_q_s hb h0]
  have := h j hj
  split
  · unfold f_s; split <;> omega
  · exact this
theorem w_maps (G : aw_G) {n c : Nat} {I : Nat → Nat → Int32} {L : Nat → Nat → Int64} {V : Nat → Nat → Nat} {k : Nat} (hW : zWy V k I) (hk : k ≤ 10) (hV : f_Vok V k) : aw_Met G mX11_maps [.ref 81] (zH n I L c) (fun v h2 => v = none ∧ ∃ I2, h2 = zH n I2 L c ∧ zYm (f_y V k) I2 ∧ ∀ o, o ≠ 92 → o ≠ 93 → I2 o = I o) := by
  refine aw_Met.of okX11_maps (Nat.le_of_ble_eq_true rfl) ?_
  show aw_W G mX11_maps 0 [.ref 81, aw_x, aw_x, aw_x, aw_x, aw_x] [] (zH n I L c) (0, 0) _
  refine aw_iconst (v := 0) dX11_maps_0 rfl ?_
  refine aw_istore_n (ls2 := [_, _, _, _, _, _]) dX11_maps_1 (by decide) rfl rfl ?_
  obtain ⟨e, d, hC⟩ := zYx.any I
  obtain ⟨I0, hI0⟩ : ∃ I0, I0 = I := ⟨_, rfl⟩
  rw [← hI0] at hW ⊢
  have hC : zYx e d I0 I := by rw [hI0]; exact hC
  rw [show zH n I0 L c = zH n I L c by rw [hI0]]
  refine aw_up (X := fun i => ∀ I e, (∀ j, j < i → e j = 9999) ∧ zYx e d I0 I → aw_W G mX11_maps 2 [.ref 81, .int (nI i), aw_x, aw_x, aw_x, aw_x] [] (zH n I L c) (0, 0) _) (Nat.zero_le 64) (fun I e hh => ?_) (fun i _ hi ih I e hh => ?_) I e ⟨fun j hj => absurd hj (by omega), hC⟩
  · obtain ⟨he, hC⟩ := hh
    refine aw_iload_n dX11_maps_2 rfl ?_
    refine aw_bipush (v := 64) dX11_maps_3 (by decide) ?_
    refine aw_ic_ge_n (a := 64) (b := 64) (tgt := 23) dX11_maps_5 (by decide) (by omega) (by omega) (fun c5 => ?_) (fun z => absurd z (by omega))
    refine aw_iconst (v := 0) dX11_maps_23 rfl ?_
    refine aw_istore_n (ls2 := [_, _, _, _, _, _]) dX11_maps_24 (by decide) rfl rfl ?_
    refine aw_up (X := fun w => ∀ I, zYx (f_e 9999 V w) d I0 I → aw_W G mX11_maps 25 [.ref 81, .int (nI w), aw_x, aw_x, aw_x, aw_x] [] (zH n I L c) (0, 0) _) (Nat.zero_le k) (fun I hC => ?_) (fun w _ hw ih I hC => ?_) I (hC.cg he (fun _ _ => rfl))
    · refine aw_iload_n dX11_maps_25 rfl ?_
      refine aw_aload_n dX11_maps_26 rfl ?_
      refine aw_getI dX11_maps_27 f11_127 rfl ⟨Nat.le_of_ble_eq_true rfl, Nat.le_of_ble_eq_true rfl⟩ rfl ?_
      refine aw_top ((congrFun (hC.2 81 (by decide) (by decide)) 7).trans hW.1) ?_
      refine aw_ic_ge_n (a := k) (b := k) (tgt := 163) dX11_maps_30 (by decide) (by omega) (by omega) (fun c30 => ?_) (fun z => absurd z (by omega))
      refine aw_iconst (v := 0) dX11_maps_163 rfl ?_
      refine aw_istore_n (ls2 := [_, _, _, _, _, _]) dX11_maps_164 (by decide) rfl rfl ?_
      obtain ⟨e, hed⟩ : ∃ e, e = f_e 9999 V k := ⟨_, rfl⟩
      rw [← hed] at hC
      have he : ∀ j, j < 64 → e j ≤ 9999 := fun j _ => by rw [hed]; exact f_e_le j
      have hQ : ∀ y i j, y < 8 → j < 64 → f_q (f_fw e y) y i j ≤ 9999 := fun y i j hy hj => f_q_le hy (f_fw_diag hy) (f_fw_le he) j hj
      refine aw_up (X := fun i => ∀ I d, (∀ j, j < i → d j = f_d0 e j) ∧ zYx e d I0 I → aw_W G mX11_maps 165 [.ref 81, .int (nI i), aw_x, aw_x, aw_x, aw_x] [] (zH n I L c) (0, 0) _) (Nat.zero_le 64) (fun I d hh => ?_) (fun i _ hi ih I d hh => ?_) I d ⟨fun j hj => absurd hj (by omega), hC⟩
      · obtain ⟨hd, hC⟩ := hh
        refine aw_iload_n dX11_maps_165 rfl ?_
        refine aw_bipush (v := 64) dX11_maps_166 (by decide) ?_
        refine aw_ic_ge_n (a := 64) (b := 64) (tgt := 204) dX11_maps_168 (by decide) (by omega) (by omega) (fun c168 => ?_) (fun z => absurd z (by omega))
        refine aw_iconst (v := 0) dX11_maps_204 rfl ?_
        refine aw_istore_n (ls2 := [_, _, _, _, _, _]) dX11_maps_205 (by decide) rfl rfl ?_
        refine aw_up (X := fun y => ∀ I, zYx e (f_fw e y) I0 I → aw_W G mX11_maps 206 [.ref 81, .int (nI y), aw_x, aw_x, aw_x, aw_x] [] (zH n I L c) (0, 0) _) (Nat.zero_le 8) (fun I hC => ?_) (fun y _ hy yh I hC => ?_) I (hC.cg (fun _ _ => rfl) hd)
        · refine aw_iload_n dX11_maps_206 rfl ?_
          refine aw_bipush (v := 8) dX11_maps_207 (by decide) ?_
          refine aw_ic_ge_n (a := 8) (b := 8) (tgt := 276) dX11_maps_209 (by decide) (by omega) (by omega) (fun c209 => ?_) (fun z => absurd z (by omega))
          refine aw_ret0 dX11_maps_276 rfl ⟨Nat.le_of_ble_eq_true rfl, Nat.le_of_ble_eq_true rfl⟩ ?_
          refine ⟨rfl, _, rfl, fun j hj => ?_, hC.2⟩
          rw [f_y0, f_y1, ← hed]
          exact hC.1 j hj
        · refine aw_iload_n dX11_maps_206 rfl ?_
          refine aw_bipush (v := 8) dX11_maps_207 (by decide) ?_
          refine aw_ic_ge_n (a := y) (b := 8) (tgt := 276) dX11_maps_209 (by decide) (by omega) (by omega) (fun z => absurd z (by omega)) (fun c209 => ?_)
          refine aw_iconst (v := 0) dX11_maps_212 rfl ?_
          refine aw_istore_n (ls2 := [_, _, _, _, _, _]) dX11_maps_213 (by decide) rfl rfl ?_
          refine aw_up (X := fun i => ∀ I, zYx e (f_q (f_fw e y) y i) I0 I → aw_W G mX11_maps 214 [.ref 81, .int (nI y), .int (nI i), aw_x, aw_x, aw_x] [] (zH n I L c) (0, 0) _) (Nat.zero_le 64) (fun I hC => ?_) (fun i _ hi ih I hC => ?_) I hC
          · refine aw_iload_n dX11_maps_214 rfl ?_
            refine aw_bipush (v := 64) dX11_maps_215 (by decide) ?_
            refine aw_ic_ge_n (a := 64) (b := 64) (tgt := 270) dX11_maps_217 (by decide) (by omega) (by omega) (fun c217 => ?_) (fun z => absurd z (by omega))
            refine aw_iinc_n (ls2 := [_, _, _, _, _, _]) dX11_maps_270 rfl (by decide) rfl rfl ?_
            refine aw_goto (tgt := 206) dX11_maps_273 (by decide) ?_
            refine aw_kill (j := 2) (ls2 := [_, _, aw_x, _, _, _]) rfl (yh I (hC.cg (fun _ _ => rfl) (fun j hj => ?_)))
            rw [f_q_s hy (f_fw_diag hy), if_pos hj]; rfl
          · have hq1 := hQ y i (8 * (i / 8) + y) hy (by omega)
            have hq2 := hQ y i (8 * y + i % 8) hy (by omega)
            have hq3 := hQ y i i hy (by omega)
            refine aw_iload_n dX11_maps_214 rfl ?_
            refine aw_bipush (v := 64) dX11_maps_215 (by decide) ?_
            refine aw_ic_ge_n (a := i) (b := 64) (tgt := 270) dX11_maps_217 (by decide) (by omega) (by omega) (fun z => absurd z (by omega)) (fun c217 => ?_)
            refine aw_aload_n dX11_maps_220 rfl ?_
            refine aw_getR dX11_maps_221 f11_43 rfl ⟨Nat.le_of_ble_eq_true rfl, Nat.le_of_ble_eq_true rfl⟩ rfl rfl ?_
            refine aw_iload_n dX11_maps_224 rfl ?_
            refine aw_aload_n dX11_maps_225 rfl ?_
            refine aw_getR dX11_maps_226 f11_43 rfl ⟨Nat.le_of_ble_eq_true rfl, Nat.le_of_ble_eq_true rfl⟩ rfl rfl ?_
            refine aw_bipush (v := 8) dX11_maps_229 (by decide) ?_
            refine aw_iload_n dX11_maps_231 rfl ?_
            refine aw_bipush (v := 8) dX11_maps_232 (by decide) ?_
            refine aw_idiv_n (a := i) (b := 8) dX11_maps_234 (by omega) (by omega) (by omega) ?_
            refine aw_imul_n (a := 8) (b := i / 8) dX11_maps_235 ?_
            refine aw_iload_n dX11_maps_236 rfl ?_
            refine aw_iadd_n (a := 8 * (i / 8)) (b := y) dX11_maps_237 ?_
            refine aw_iald_n (j := (8 * (i / 8)) + y) dX11_maps_238 rfl (Nat.le_of_ble_eq_true rfl) (by decide) (by omega) ?_
            refine aw_top (hC.1 ((8 * (i / 8)) + y) (by omega)).2 ?_
            refine aw_aload_n dX11_maps_239 rfl ?_
            refine aw_getR dX11_maps_240 f11_43 rfl ⟨Nat.le_of_ble_eq_true rfl, Nat.le_of_ble_eq_true rfl⟩ rfl rfl ?_
            refine aw_bipush (v := 8) dX11_maps_243 (by decide) ?_
            refine aw_iload_n dX11_maps_245 rfl ?_
            refine aw_imul_n (a := 8) (b := y) dX11_maps_246 ?_
            refine aw_iload_n dX11_maps_247 rfl ?_
            refine aw_bipush (v := 8) dX11_maps_248 (by decide) ?_
            refine aw_irem_n (a := i) (b := 8) dX11_maps_250 (by omega) (by omega) (by omega) ?_
            refine aw_iadd_n (a := 8 * y) (b := i % 8) dX11_maps_251 ?_
            refine aw_iald_n (j := (8 * y) + (i % 8)) dX11_maps_252 rfl (Nat.le_of_ble_eq_true rfl) (by decide) (by omega) ?_
            refine aw_top (hC.1 ((8 * y) + (i % 8)) (by omega)).2 ?_
            refine aw_iadd_n (a := f_q (f_fw e y) y i ((8 * (i / 8)) + y)) (b := f_q (f_fw e y) y i ((8 * y) + (i % 8))) dX11_maps_253 ?_
            refine aw_aload_n dX11_maps_254 rfl ?_
            refine aw_getR dX11_maps_255 f11_43 rfl ⟨Nat.le_of_ble_eq_true rfl, Nat.le_of_ble_eq_true rfl⟩ rfl rfl ?_
            refine aw_iload_n dX11_maps_258 rfl ?_
            refine aw_iald_n (j := i) dX11_maps_259 rfl (Nat.le_of_ble_eq_true rfl) (by decide) (by omega) ?_
            refine aw_top (hC.1 (i) (by omega)).2 ?_
            refine aw_S0c (As := [_, _]) dX11_maps_260 k11_171 rfl rfl (Nat.le_of_ble_eq_true rfl) ⟨⟨Nat.le_of_ble_eq_true rfl, Nat.le_of_ble_eq_true rfl⟩, ⟨Nat.le_of_ble_eq_true rfl, Nat.le_of_ble_eq_true rfl⟩⟩ ⟨rfl, rfl⟩ (w_lesser G (a := (f_q (f_fw e y) y i ((8 * (i / 8)) + y)) + (f_q (f_fw e y) y i ((8 * y) + (i % 8)))) (b := f_q (f_fw e y) y i (i)) (by omega) (by omega)) (fun v h2 hq => ?_)
            obtain ⟨rfl, rfl⟩ := hq
            refine aw_iast_n (j := i) dX11_maps_263 rfl ⟨Nat.le_of_ble_eq_true rfl, Nat.le_of_ble_eq_true rfl⟩ (by decide) (by omega) ?_
            refine aw_iinc_n (ls2 := [_, _, _, _, _, _]) dX11_maps_264 rfl (by decide) rfl rfl ?_
            refine aw_goto (tgt := 214) dX11_maps_267 (by decide) ?_
            exact ih _ hC.ud
      · obtain ⟨hd, hC⟩ := hh
        have hei := he i (by omega)
        refine aw_iload_n dX11_maps_165 rfl ?_
        refine aw_bipush (v := 64) dX11_maps_166 (by decide) ?_
        refine aw_ic_ge_n (a := i) (b := 64) (tgt := 204) dX11_maps_168 (by decide) (by omega) (by omega) (fun z => absurd z (by omega)) (fun c168 => ?_)
        refine aw_aload_n dX11_maps_171 rfl ?_
        refine aw_getR dX11_maps_172 f11_43 rfl ⟨Nat.le_of_ble_eq_true rfl, Nat.le_of_ble_eq_true rfl⟩ rfl rfl ?_
        refine aw_iload_n dX11_maps_175 rfl ?_
        refine aw_iload_n dX11_maps_176 rfl ?_
        refine aw_bipush (v := 8) dX11_maps_177 (by decide) ?_
        refine aw_idiv_n (a := i) (b := 8) dX11_maps_179 (by omega) (by omega) (by omega) ?_
        refine aw_iload_n dX11_maps_180 rfl ?_
        refine aw_bipush (v := 8) dX11_maps_181 (by decide) ?_
        refine aw_irem_n (a := i) (b := 8) dX11_maps_183 (by omega) (by omega) (by omega) ?_
        refine aw_ic_ne_n (a := i / 8) (b := i % 8) (tgt := 191) dX11_maps_184 (by decide) (by omega) (by omega) (fun c184 => ?_) (fun c184 => ?_)
        · refine aw_aload_n dX11_maps_191 rfl ?_
          refine aw_getR dX11_maps_192 f11_40 rfl ⟨Nat.le_of_ble_eq_true rfl, Nat.le_of_ble_eq_true rfl⟩ rfl rfl ?_
          refine aw_iload_n dX11_maps_195 rfl ?_
          refine aw_iald_n (j := i) dX11_maps_196 rfl (Nat.le_of_ble_eq_true rfl) (by decide) (by omega) ?_
          refine aw_top (hC.1 (i) (by omega)).1 ?_
          refine aw_iast_n (j := i) dX11_maps_197 rfl ⟨Nat.le_of_ble_eq_true rfl, Nat.le_of_ble_eq_true rfl⟩ (by decide) (by omega) ?_
          refine aw_iinc_n (ls2 := [_, _, _, _, _, _]) dX11_maps_198 rfl (by decide) rfl rfl ?_
          refine aw_goto (tgt := 165) dX11_maps_201 (by decide) ?_
          refine ih _ (va_up d i (e i)) ⟨fun j hj => ?_, hC.ud (i := i) (v := (e i))⟩
          by_cases hji : j = i
          · rw [hji, va_up_at, f_d0, if_neg c184]
          · rw [va_up_nat hji]; exact hd j (by omega)
        · refine aw_iconst (v := 0) dX11_maps_187 rfl ?_
          refine aw_goto (tgt := 197) dX11_maps_188 (by decide) ?_
          refine aw_iast_n (j := i) dX11_maps_197 rfl ⟨Nat.le_of_ble_eq_true rfl, Nat.le_of_ble_eq_true rfl⟩ (by decide) (by omega) ?_
          refine aw_iinc_n (ls2 := [_, _, _, _, _, _]) dX11_maps_198 rfl (by decide) rfl rfl ?_
          refine aw_goto (tgt := 165) dX11_maps_201 (by decide) ?_
          refine ih _ (va_up d i (0)) ⟨fun j hj => ?_, hC.ud (i := i) (v := 0)⟩
          by_cases hji : j = i
          · rw [hji, va_up_at, f_d0, if_pos c184]
          · rw [va_up_nat hji]; exact hd j (by omega)
    · have hv := hV w hw
      have hlen := f_len (l := V w 2) (s := V w 3) ⟨hv.2.2.2.1, hv.2.2.2.2.1⟩ hv.2.2.2.2.2
      have hb1 := f_e_le (X := 9999) (V := V) (n := w) (8 * V w 0 + V w 1)
      refine aw_iload_n dX11_maps_25 rfl ?_
      refine aw_aload_n dX11_maps_26 rfl ?_
      refine aw_getI dX11_maps_27 f11_127 rfl ⟨Nat.le_of_ble_eq_true rfl, Nat.le_of_ble_eq_true rfl⟩ rfl ?_
      refine aw_top ((congrFun (hC.2 81 (by decide) (by decide)) 7).trans hW.1) ?_
      refine aw_ic_ge_n (a := w) (b := k) (tgt := 163) dX11_maps_30 (by decide) (by omega) (by omega) (fun z => absurd z (by omega)) (fun c30 => ?_)
      refine aw_aload_n dX11_maps_33 rfl ?_
      refine aw_getR dX11_maps_34 f11_28 rfl ⟨Nat.le_of_ble_eq_true rfl, Nat.le_of_ble_eq_true rfl⟩ rfl rfl ?_
      refine aw_iconst (v := 4) dX11_maps_37 rfl ?_
      refine aw_iload_n dX11_maps_38 rfl ?_
      refine aw_imul_n (a := 4) (b := w) dX11_maps_39 ?_
      refine aw_iald_n (j := 4 * w) dX11_maps_40 rfl (Nat.le_of_ble_eq_true rfl) (by decide) (by omega) ?_
      refine aw_top ((congrFun (hC.2 88 (by decide) (by decide)) _).trans (hW.2 w 0 hw (by decide))) ?_
      refine aw_istore_n (ls2 := [_, _, _, _, _, _]) dX11_maps_41 (by decide) rfl rfl ?_
      refine aw_aload_n dX11_maps_42 rfl ?_
      refine aw_getR dX11_maps_43 f11_28 rfl ⟨Nat.le_of_ble_eq_true rfl, Nat.le_of_ble_eq_true rfl⟩ rfl rfl ?_
      refine aw_iconst (v := 4) dX11_maps_46 rfl ?_
      refine aw_iload_n dX11_maps_47 rfl ?_
      refine aw_imul_n (a := 4) (b := w) dX11_maps_48 ?_
      refine aw_iconst (v := 1) dX11_maps_49 rfl ?_
      refine aw_iadd_n (a := 4 * w) (b := 1) dX11_maps_50 ?_
      refine aw_iald_n (j := (4 * w) + 1) dX11_maps_51 rfl (Nat.le_of_ble_eq_true rfl) (by decide) (by omega) ?_
      refine aw_top ((congrFun (hC.2 88 (by decide) (by decide)) _).trans (hW.2 w 1 hw (by decide))) ?_
      refine aw_istore_n (ls2 := [_, _, _, _, _, _]) dX11_maps_52 (by decide) rfl rfl ?_
      refine aw_aload_n dX11_maps_53 rfl ?_
      refine aw_getR dX11_maps_54 f11_28 rfl ⟨Nat.le_of_ble_eq_true rfl, Nat.le_of_ble_eq_true rfl⟩ rfl rfl ?_
      refine aw_iconst (v := 4) dX11_maps_57 rfl ?_
      refine aw_iload_n dX11_maps_58 rfl ?_
      refine aw_imul_n (a := 4) (b := w) dX11_maps_59 ?_
      refine aw_iconst (v := 2) dX11_maps_60 rfl ?_
      refine aw_iadd_n (a := 4 * w) (b := 2) dX11_maps_61 ?_
      refine aw_iald_n (j := (4 * w) + 2) dX11_maps_62 rfl (Nat.le_of_ble_eq_true rfl) (by decide) (by omega) ?_
      refine aw_top ((congrFun (hC.2 88 (by decide) (by decide)) _).trans (hW.2 w 2 hw (by decide))) ?_
      refine aw_iconst (v := 3) dX11_maps_63 rfl ?_
      refine aw_aload_n dX11_maps_64 rfl ?_
      refine aw_getR dX11_maps_65 f11_28 rfl ⟨Nat.le_of_ble_eq_true rfl, Nat.le_of_ble_eq_true rfl⟩ rfl rfl ?_
      refine aw_iconst (v := 4) dX11_maps_68 rfl ?_
      refine aw_iload_n dX11_maps_69 rfl ?_
      refine aw_imul_n (a := 4) (b := w) dX11_maps_70 ?_
      refine aw_iconst (v := 3) dX11_maps_71 rfl ?_
      refine aw_iadd_n (a := 4 * w) (b := 3) dX11_maps_72 ?_
      refine aw_iald_n (j := (4 * w) + 3) dX11_maps_73 rfl (Nat.le_of_ble_eq_true rfl) (by decide) (by omega) ?_
      refine aw_top ((congrFun (hC.2 88 (by decide) (by decide)) _).trans (hW.2 w 3 hw (by decide))) ?_
      refine aw_isub_n (a := 3) (b := V w 3) dX11_maps_74 (by omega) ?_
      refine aw_imul_n (a := V w 2) (b := 3 - (V w 3)) dX11_maps_75 ?_
      refine aw_istore (ls2 := [_, _, _, _, _, _]) dX11_maps_76 (by decide) rfl rfl ?_
      refine aw_aload_n dX11_maps_78 rfl ?_
      refine aw_getR dX11_maps_79 f11_28 rfl ⟨Nat.le_of_ble_eq_true rfl, Nat.le_of_ble_eq_true rfl⟩ rfl rfl ?_
      refine aw_iconst (v := 4) dX11_maps_82 rfl ?_
      refine aw_iload_n dX11_maps_83 rfl ?_
      refine aw_imul_n (a := 4) (b := w) dX11_maps_84 ?_
      refine aw_iconst (v := 2) dX11_maps_85 rfl ?_
      refine aw_iadd_n (a := 4 * w) (b := 2) dX11_maps_86 ?_
      refine aw_iald_n (j := (4 * w) + 2) dX11_maps_87 rfl (Nat.le_of_ble_eq_true rfl) (by decide) (by omega) ?_
      refine aw_top ((congrFun (hC.2 88 (by decide) (by decide)) _).trans (hW.2 w 2 hw (by decide))) ?_
      refine aw_iconst (v := 1) dX11_maps_88 rfl ?_
      refine aw_aload_n dX11_maps_89 rfl ?_
      refine aw_getR dX11_maps_90 f11_28 rfl ⟨Nat.le_of_ble_eq_true rfl, Nat.le_of_ble_eq_true rfl⟩ rfl rfl ?_
      refine aw_iconst (v := 4) dX11_maps_93 rfl ?_
      refine aw_iload_n dX11_maps_94 rfl ?_
      refine aw_imul_n (a := 4) (b := w) dX11_maps_95 ?_
      refine aw_iconst (v := 3) dX11_maps_96 rfl ?_
      refine aw_iadd_n (a := 4 * w) (b := 3) dX11_maps_97 ?_
      refine aw_iald_n (j := (4 * w) + 3) dX11_maps_98 rfl (Nat.le_of_ble_eq_true rfl) (by decide) (by omega) ?_
      refine aw_top ((congrFun (hC.2 88 (by decide) (by decide)) _).trans (hW.2 w 3 hw (by decide))) ?_
      refine aw_iadd_n (a := 1) (b := V w 3) dX11_maps_99 ?_
      refine aw_imul_n (a := V w 2) (b := 1 + (V w 3)) dX11_maps_100 ?_
      refine aw_istore (ls2 := [_, _, _, _, _, _]) dX11_maps_101 (by decide) rfl rfl ?_
      refine aw_aload_n dX11_maps_103 rfl ?_
      refine aw_getR dX11_maps_104 f11_40 rfl ⟨Nat.le_of_ble_eq_true rfl, Nat.le_of_ble_eq_true rfl⟩ rfl rfl ?_
      refine aw_bipush (v := 8) dX11_maps_107 (by decide) ?_
      refine aw_iload_n dX11_maps_109 rfl ?_
      refine aw_imul_n (a := 8) (b := V w 0) dX11_maps_110 ?_
      refine aw_iload_n dX11_maps_111 rfl ?_
      refine aw_iadd_n (a := 8 * (V w 0)) (b := V w 1) dX11_maps_112 ?_
      refine aw_iload dX11_maps_113 rfl ?_
      refine aw_aload_n dX11_maps_115 rfl ?_
      refine aw_getR dX11_maps_116 f11_40 rfl ⟨Nat.le_of_ble_eq_true rfl, Nat.le_of_ble_eq_true rfl⟩ rfl rfl ?_
      refine aw_bipush (v := 8) dX11_maps_119 (by decide) ?_
      refine aw_iload_n dX11_maps_121 rfl ?_
      refine aw_imul_n (a := 8) (b := V w 0) dX11_maps_122 ?_
      refine aw_iload_n dX11_maps_123 rfl ?_
      refine aw_iadd_n (a := 8 * (V w 0)) (b := V w 1) dX11_maps_124 ?_
      refine aw_iald_n (j := (8 * (V w 0)) + (V w 1)) dX11_maps_125 rfl (Nat.le_of_ble_eq_true rfl) (by decide) (by omega) ?_
      refine aw_top (hC.1 ((8 * (V w 0)) + (V w 1)) (by omega)).1 ?_
      refine aw_S0c (As := [_, _]) dX11_maps_126 k11_171 rfl rfl (Nat.le_of_ble_eq_true rfl) ⟨⟨Nat.le_of_ble_eq_true rfl, Nat.le_of_ble_eq_true rfl⟩, ⟨Nat.le_of_ble_eq_true rfl, Nat.le_of_ble_eq_true rfl⟩⟩ ⟨rfl, rfl⟩ (w_lesser G (a := (V w 2) * (3 - (V w 3))) (b := f_e 9999 V w ((8 * (V w 0)) + (V w 1))) (by omega) (by omega)) (fun v h2 hq => ?_)
      obtain ⟨rfl, rfl⟩ := hq
      refine aw_iast_n (j := (8 * (V w 0)) + (V w 1)) dX11_maps_129 rfl ⟨Nat.le_of_ble_eq_true rfl, Nat.le_of_ble_eq_true rfl⟩ (by decide) (by omega) ?_
      have hC1 : zYx (f_put (f_e 9999 V w) (8 * V w 0 + V w 1) (V w 2 * (3 - V w 3))) d I0 _ := hC.ue
      have hb2 := f_put_le (z := f_e 9999 V w) (i := 8 * V w 0 + V w 1) (v := V w 2 * (3 - V w 3)) (fun j => f_e_le (X := 9999) j) (8 * V w 1 + V w 0)
      refine aw_aload_n dX11_maps_130 rfl ?_
      refine aw_getR dX11_maps_131 f11_40 rfl ⟨Nat.le_of_ble_eq_true rfl, Nat.le_of_ble_eq_true rfl⟩ rfl rfl ?_
      refine aw_bipush (v := 8) dX11_maps_134 (by decide) ?_
      refine aw_iload_n dX11_maps_136 rfl ?_
      refine aw_imul_n (a := 8) (b := V w 1) dX11_maps_137 ?_
      refine aw_iload_n dX11_maps_138 rfl ?_
      refine aw_iadd_n (a := 8 * (V w 1)) (b := V w 0) dX11_maps_139 ?_
      refine aw_iload dX11_maps_140 rfl ?_
      refine aw_aload_n dX11_maps_142 rfl ?_
      refine aw_getR dX11_maps_143 f11_40 rfl ⟨Nat.le_of_ble_eq_true rfl, Nat.le_of_ble_eq_true rfl⟩ rfl rfl ?_
      refine aw_bipush (v := 8) dX11_maps_146 (by decide) ?_
      refine aw_iload_n dX11_maps_148 rfl ?_
      refine aw_imul_n (a := 8) (b := V w 1) dX11_maps_149 ?_
      refine aw_iload_n dX11_maps_150 rfl ?_
      refine aw_iadd_n (a := 8 * (V w 1)) (b := V w 0) dX11_maps_151 ?_
      refine aw_iald_n (j := (8 * (V w 1)) + (V w 0)) dX11_maps_152 rfl (Nat.le_of_ble_eq_true rfl) (by decide) (by omega) ?_
      refine aw_top (hC1.1 ((8 * (V w 1)) + (V w 0)) (by omega)).1 ?_
      refine aw_S0c (As := [_, _]) dX11_maps_153 k11_171 rfl rfl (Nat.le_of_ble_eq_true rfl) ⟨⟨Nat.le_of_ble_eq_true rfl, Nat.le_of_ble_eq_true rfl⟩, ⟨Nat.le_of_ble_eq_true rfl, Nat.le_of_ble_eq_true rfl⟩⟩ ⟨rfl, rfl⟩ (w_lesser G (a := (V w 2) * (1 + (V w 3))) (b := f_put (f_e 9999 V w) (8 * V w 0 + V w 1) (V w 2 * (3 - V w 3)) (8 * V w 1 + V w 0)) (by omega) (by omega)) (fun v h2 hq => ?_)
      obtain ⟨rfl, rfl⟩ := hq
      refine aw_iast_n (j := (8 * (V w 1)) + (V w 0)) dX11_maps_156 rfl ⟨Nat.le_of_ble_eq_true rfl, Nat.le_of_ble_eq_true rfl⟩ (by decide) (by omega) ?_
      refine aw_iinc_n (ls2 := [_, _, _, _, _, _]) dX11_maps_157 rfl (by decide) rfl rfl ?_
      refine aw_goto (tgt := 25) dX11_maps_160 (by decide) ?_
      refine aw_kill (j := 2) (ls2 := [_, _, aw_x, _, _, _]) rfl (aw_kill (j := 3) (ls2 := [_, _, _, aw_x, _, _]) rfl (aw_kill (j := 4) (ls2 := [_, _, _, _, aw_x, _]) rfl (aw_kill (j := 5) (ls2 := [_, _, _, _, _, aw_x]) rfl ?_)))
      exact ih _ hC1.ue
  · obtain ⟨he, hC⟩ := hh
    refine aw_iload_n dX11_maps_2 rfl ?_
    refine aw_bipush (v := 64) dX11_maps_3 (by decide) ?_
    refine aw_ic_ge_n (a := i) (b := 64) (tgt := 23) dX11_maps_5 (by decide) (by omega) (by omega) (fun z => absurd z (by omega)) (fun c5 => ?_)
    refine aw_aload_n dX11_maps_8 rfl ?_
    refine aw_getR dX11_maps_9 f11_40 rfl ⟨Nat.le_of_ble_eq_true rfl, Nat.le_of_ble_eq_true rfl⟩ rfl rfl ?_
    refine aw_iload_n dX11_maps_12 rfl ?_
    refine aw_sipush (v := 9999) dX11_maps_13 (by decide) ?_
    refine aw_iast_n (j := i) dX11_maps_16 rfl ⟨Nat.le_of_ble_eq_true rfl, Nat.le_of_ble_eq_true rfl⟩ (by decide) (by omega) ?_
    refine aw_iinc_n (ls2 := [_, _, _, _, _, _]) dX11_maps_17 rfl (by decide) rfl rfl ?_
    refine aw_goto (tgt := 2) dX11_maps_20 (by decide) ?_
    refine ih _ (va_up e i 9999) ⟨fun j hj => ?_, hC.ue (i := i) (v := 9999)⟩
    by_cases hji : j = i
    · rw [hji, va_up_at]
    · rw [va_up_nat hji]; exact he j (by omega)
