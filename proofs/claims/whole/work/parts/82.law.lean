/-! THE LAW -/
section LWR
variable {G : aw_G} {M : aw_MR} {pc : Nat} {ls st : List Value} {h h2 : aw_H} {q : Nat × Nat} {Q : Option Value → aw_H → Prop}
theorem aw_ro (k : (∀ o, o < 3 → h.1 o = (0, g_rn G o) ∧ h.2.1 o = g_ro G o) → aw_W G M pc ls st h q Q) : aw_W G M pc ls st h q Q :=
  fun p e s m args below meth c Z hC hZ H locs lsC hL hR hS => k hR.2.2 p e s m args below meth c Z hC hZ H locs lsC hL hR hS
theorem aw_re (hr : ∀ H, aw_Rep G h H → aw_Rep G h2 H) (k : aw_W G M pc ls st h2 q Q) : aw_W G M pc ls st h q Q :=
  fun p e s m args below meth c Z hC hZ H locs lsC hL hR hS => k p e s m args below meth c Z hC hZ H locs lsC hL (hr H hR) hS
end LWR
theorem lg_self (z : Int64) : lg_cmp z z = 0 := (lg_cmp_eq z z).mpr rfl
theorem yR_0 : va_up (zR 12) 3 (fun _ => none) = yR 0 := by
  funext a b
  unfold yR
  by_cases ha : a = 3
  · subst ha; rw [va_up_at]; rfl
  · rw [va_up_nat ha, show Nat.beq a 3 = false from by rw [← Bool.not_eq_true, Nat.beq_eq]; exact ha]
    rfl
theorem zloop {n i : Nat} (hn : n ≤ 3072) (hi : i ≤ 4000) (h : ¬ nI n - 6 < nI i) : i + 6 ≤ n := by
  by_cases h6 : 6 ≤ n
  · rw [show nI n - 6 = nI (n - 6) from pk_sub h6, zn_lt (by omega) (by omega)] at h
    omega
  · exfalso
    refine h ?_
    rw [Int32.lt_iff_toInt_lt, nI_toInt (by omega)]
    have h' : n = 0 ∨ n = 1 ∨ n = 2 ∨ n = 3 ∨ n = 4 ∨ n = 5 := by omega
    have key : (nI n - 6).toInt < 0 := by
      rcases h' with rfl | rfl | rfl | rfl | rfl | rfl <;> decide
    omega
theorem zINV.mk0 {I I2 : Nat → Nat → Int32} (h1 : zCI bz bz 0 0 z0 z0 Xz Yz g1 bz bz ez 0 I) (h2 : zMI bz bz 0 0 z0 z0 g1 bz bz ez 0 I2) (hF : ∀ o, o < 81 → I2 o = I o) : zINV I2 :=
  ⟨bz, bz, 0, 0, z0, z0, Xz, Yz, v_w bz, g1, q_k (q_w bz) 5 0, bz, bz, ez, 0, z0_tx, h1.fr hF, h2⟩
theorem lc_type (G : aw_G) {n i : Nat} {I : Nat → Nat → Int32} {L : Nat → Nat → Int64} {c : Nat} {Q : Option Value → aw_H → Prop} (hn : n ≤ 3072) (hi : i + 6 ≤ n) (h : zINV I) (ih : ∀ I L c, zINV I → aw_W G mL_law 1242 [.ref 0, .ref 3, .ref 81, .int (nI i)] [] (zH n I L c) (102, 3856) Q) : aw_W G mL_law 192 [.ref 0, .ref 3, .ref 81, .int (nI i)] [] (zH n I L c) (102, 3856) Q := by
  refine aw_ro (fun hro => ?_)
  have h0 : I 0 = g_ro G 0 := (hro 0 (by decide)).2
  obtain ⟨r, ⟨z, rfl⟩, hr⟩ := st_type G (n := n) h (g_ro G 0 (i + 1)) (g_ro G 0 (i + 2))
  refine aw_aload_n dL_law_192 rfl ?_
  refine aw_aload_n dL_law_193 rfl ?_
  refine aw_iload_n dL_law_194 rfl ?_
  refine aw_iconst (v := 1) dL_law_195 rfl ?_
  refine aw_iadd_n (a := i) (b := 1) dL_law_196 ?_
  refine aw_iald_n (j := i + 1) dL_law_197 rfl (Nat.le_of_ble_eq_true rfl) (by omega) (by omega) ?_
  refine aw_top (congrFun h0 _) ?_
  refine aw_aload_n dL_law_198 rfl ?_
  refine aw_iload_n dL_law_199 rfl ?_
  refine aw_iconst (v := 2) dL_law_200 rfl ?_
  refine aw_iadd_n (a := i) (b := 2) dL_law_201 ?_
  refine aw_iald_n (j := i + 2) dL_law_202 rfl (Nat.le_of_ble_eq_true rfl) (by omega) (by omega) ?_
  refine aw_top (congrFun h0 _) ?_
  refine aw_V0c (As := [_, _]) dL_law_203 k12_13 rfl rfl rfl ⟨Nat.le_of_ble_eq_true rfl, Nat.le_of_ble_eq_true rfl⟩ (Nat.le_of_ble_eq_true rfl) ⟨⟨Nat.le_of_ble_eq_true rfl, Nat.le_of_ble_eq_true rfl⟩, ⟨Nat.le_of_ble_eq_true rfl, Nat.le_of_ble_eq_true rfl⟩⟩ ⟨rfl, rfl⟩ (hr L c) (fun v h2 hq => ?_)
  obtain ⟨rfl, I2, L2, c2, rfl, hM⟩ := hq
  refine aw_ro (fun hro2 => ?_)
  have h02 : I2 0 = g_ro G 0 := (hro2 0 (by decide)).2
  refine aw_aload_n dL_law_206 rfl ?_
  refine aw_aload_n dL_law_207 rfl ?_
  refine aw_iload_n dL_law_208 rfl ?_
  refine aw_iconst (v := 1) dL_law_209 rfl ?_
  refine aw_iadd_n (a := i) (b := 1) dL_law_210 ?_
  refine aw_iald_n (j := i + 1) dL_law_211 rfl (Nat.le_of_ble_eq_true rfl) (by omega) (by omega) ?_
  refine aw_top (congrFun h02 _) ?_
  refine aw_aload_n dL_law_212 rfl ?_
  refine aw_iload_n dL_law_213 rfl ?_
  refine aw_iconst (v := 2) dL_law_214 rfl ?_
  refine aw_iadd_n (a := i) (b := 2) dL_law_215 ?_
  refine aw_iald_n (j := i + 2) dL_law_216 rfl (Nat.le_of_ble_eq_true rfl) (by omega) (by omega) ?_
  refine aw_top (congrFun h02 _) ?_
  refine aw_V0c (As := [_, _]) dL_law_217 k12_17 rfl rfl rfl ⟨Nat.le_of_ble_eq_true rfl, Nat.le_of_ble_eq_true rfl⟩ (Nat.le_of_ble_eq_true rfl) ⟨⟨Nat.le_of_ble_eq_true rfl, Nat.le_of_ble_eq_true rfl⟩, ⟨Nat.le_of_ble_eq_true rfl, Nat.le_of_ble_eq_true rfl⟩⟩ ⟨rfl, rfl⟩ (hM) (fun v h2 hq => ?_)
  obtain ⟨rfl, I3, L3, c3, rfl, hI3⟩ := hq
  refine aw_ic_eq (tgt := 1242) dL_law_220 (by decide) (fun c220 => ?_) (fun z => absurd z (fun q => q rfl))
  exact ih _ _ _ hI3
theorem lc_wipe (G : aw_G) {n i : Nat} {I : Nat → Nat → Int32} {L : Nat → Nat → Int64} {c : Nat} {Q : Option Value → aw_H → Prop} (hn : n ≤ 3072) (hi : i + 6 ≤ n) (h : zINV I) (ih : ∀ I L c, zINV I → aw_W G mL_law 1242 [.ref 0, .ref 3, .ref 81, .int (nI i)] [] (zH n I L c) (102, 3856) Q) : aw_W G mL_law 225 [.ref 0, .ref 3, .ref 81, .int (nI i)] [] (zH n I L c) (102, 3856) Q := by
  refine aw_ro (fun hro => ?_)
  have h0 : I 0 = g_ro G 0 := (hro 0 (by decide)).2
  obtain ⟨r, ⟨z, rfl⟩, hr⟩ := st_wipe G (n := n) h (g_ro G 0 (i + 1))
  refine aw_aload_n dL_law_225 rfl ?_
  refine aw_aload_n dL_law_226 rfl ?_
  refine aw_iload_n dL_law_227 rfl ?_
  refine aw_iconst (v := 1) dL_law_228 rfl ?_
  refine aw_iadd_n (a := i) (b := 1) dL_law_229 ?_
  refine aw_iald_n (j := i + 1) dL_law_230 rfl (Nat.le_of_ble_eq_true rfl) (by omega) (by omega) ?_
  refine aw_top (congrFun h0 _) ?_
  refine aw_V0c (As := [_]) dL_law_231 k12_18 rfl rfl rfl ⟨Nat.le_of_ble_eq_true rfl, Nat.le_of_ble_eq_true rfl⟩ (Nat.le_of_ble_eq_true rfl) ⟨⟨Nat.le_of_ble_eq_true rfl, Nat.le_of_ble_eq_true rfl⟩, ⟨Nat.le_of_ble_eq_true rfl, Nat.le_of_ble_eq_true rfl⟩⟩ ⟨rfl, rfl⟩ (hr L c) (fun v h2 hq => ?_)
  obtain ⟨rfl, I2, L2, c2, rfl, hM⟩ := hq
  refine aw_ro (fun hro2 => ?_)
  have h02 : I2 0 = g_ro G 0 := (hro2 0 (by decide)).2
  refine aw_aload_n dL_law_234 rfl ?_
  refine aw_aload_n dL_law_235 rfl ?_
  refine aw_iload_n dL_law_236 rfl ?_
  refine aw_iconst (v := 1) dL_law_237 rfl ?_
  refine aw_iadd_n (a := i) (b := 1) dL_law_238 ?_
  refine aw_iald_n (j := i + 1) dL_law_239 rfl (Nat.le_of_ble_eq_true rfl) (by omega) (by omega) ?_
  refine aw_top (congrFun h02 _) ?_
  refine aw_V0c (As := [_]) dL_law_240 k12_22 rfl rfl rfl ⟨Nat.le_of_ble_eq_true rfl, Nat.le_of_ble_eq_true rfl⟩ (Nat.le_of_ble_eq_true rfl) ⟨⟨Nat.le_of_ble_eq_true rfl, Nat.le_of_ble_eq_true rfl⟩, ⟨Nat.le_of_ble_eq_true rfl, Nat.le_of_ble_eq_true rfl⟩⟩ ⟨rfl, rfl⟩ (hM) (fun v h2 hq => ?_)
  obtain ⟨rfl, I3, L3, c3, rfl, hI3⟩ := hq
  refine aw_ic_eq (tgt := 1242) dL_law_243 (by decide) (fun c243 => ?_) (fun z => absurd z (fun q => q rfl))
  exact ih _ _ _ hI3
theorem lc_undo (G : aw_G) {n i : Nat} {I : Nat → Nat → Int32} {L : Nat → Nat → Int64} {c : Nat} {Q : Option Value → aw_H → Prop} (hn : n ≤ 3072) (hi : i + 6 ≤ n) (h : zINV I) (ih : ∀ I L c, zINV I → aw_W G mL_law 1242 [.ref 0, .ref 3, .ref 81, .int (nI i)] [] (zH n I L c) (102, 3856) Q) : aw_W G mL_law 248 [.ref 0, .ref 3, .ref 81, .int (nI i)] [] (zH n I L c) (102, 3856) Q := by
  refine aw_ro (fun hro => ?_)
  have h0 : I 0 = g_ro G 0 := (hro 0 (by decide)).2
  obtain ⟨r, ⟨z, rfl⟩, hr⟩ := st_undo G (n := n) h (g_ro G 0 (i + 1))
  refine aw_aload_n dL_law_248 rfl ?_
  refine aw_aload_n dL_law_249 rfl ?_
  refine aw_iload_n dL_law_250 rfl ?_
  refine aw_iconst (v := 1) dL_law_251 rfl ?_
  refine aw_iadd_n (a := i) (b := 1) dL_law_252 ?_
  refine aw_iald_n (j := i + 1) dL_law_253 rfl (Nat.le_of_ble_eq_true rfl) (by omega) (by omega) ?_
  refine aw_top (congrFun h0 _) ?_
  refine aw_V0c (As := [_]) dL_law_254 k12_23 rfl rfl rfl ⟨Nat.le_of_ble_eq_true rfl, Nat.le_of_ble_eq_true rfl⟩ (Nat.le_of_ble_eq_true rfl) ⟨⟨Nat.le_of_ble_eq_true rfl, Nat.le_of_ble_eq_true rfl⟩, ⟨Nat.le_of_ble_eq_true rfl, Nat.le_of_ble_eq_true rfl⟩⟩ ⟨rfl, rfl⟩ (hr L c) (fun v h2 hq => ?_)
  obtain ⟨rfl, I2, L2, c2, rfl, hM⟩ := hq
  refine aw_ro (fun hro2 => ?_)
  have h02 : I2 0 = g_ro G 0 := (hro2 0 (by decide)).2
  refine aw_aload_n dL_law_257 rfl ?_
  refine aw_aload_n dL_law_258 rfl ?_
  refine aw_iload_n dL_law_259 rfl ?_
  refine aw_iconst (v := 1) dL_law_260 rfl ?_
  refine aw_iadd_n (a := i) (b := 1) dL_law_261 ?_
  refine aw_iald_n (j := i + 1) dL_law_262 rfl (Nat.le_of_ble_eq_true rfl) (by omega) (by omega) ?_
  refine aw_top (congrFun h02 _) ?_
  refine aw_V0c (As := [_]) dL_law_263 k12_26 rfl rfl rfl ⟨Nat.le_of_ble_eq_true rfl, Nat.le_of_ble_eq_true rfl⟩ (Nat.le_of_ble_eq_true rfl) ⟨⟨Nat.le_of_ble_eq_true rfl, Nat.le_of_ble_eq_true rfl⟩, ⟨Nat.le_of_ble_eq_true rfl, Nat.le_of_ble_eq_true rfl⟩⟩ ⟨rfl, rfl⟩ (hM) (fun v h2 hq => ?_)
  obtain ⟨rfl, I3, L3, c3, rfl, hI3⟩ := hq
  refine aw_ic_eq (tgt := 1242) dL_law_266 (by decide) (fun c266 => ?_) (fun z => absurd z (fun q => q rfl))
  exact ih _ _ _ hI3
theorem lc_fault (G : aw_G) {n i : Nat} {I : Nat → Nat → Int32} {L : Nat → Nat → Int64} {c : Nat} {Q : Option Value → aw_H → Prop} (hn : n ≤ 3072) (hi : i + 6 ≤ n) (h : zINV I) (ih : ∀ I L c, zINV I → aw_W G mL_law 1242 [.ref 0, .ref 3, .ref 81, .int (nI i)] [] (zH n I L c) (102, 3856) Q) : aw_W G mL_law 271 [.ref 0, .ref 3, .ref 81, .int (nI i)] [] (zH n I L c) (102, 3856) Q := by
  refine aw_ro (fun hro => ?_)
  have h0 : I 0 = g_ro G 0 := (hro 0 (by decide)).2
  obtain ⟨r, ⟨z, rfl⟩, hr⟩ := st_fault G (n := n) h (g_ro G 0 (i + 1))
  refine aw_aload_n dL_law_271 rfl ?_
  refine aw_aload_n dL_law_272 rfl ?_
  refine aw_iload_n dL_law_273 rfl ?_
  refine aw_iconst (v := 1) dL_law_274 rfl ?_
  refine aw_iadd_n (a := i) (b := 1) dL_law_275 ?_
  refine aw_iald_n (j := i + 1) dL_law_276 rfl (Nat.le_of_ble_eq_true rfl) (by omega) (by omega) ?_
  refine aw_top (congrFun h0 _) ?_
  refine aw_V0c (As := [_]) dL_law_277 k12_27 rfl rfl rfl ⟨Nat.le_of_ble_eq_true rfl, Nat.le_of_ble_eq_true rfl⟩ (Nat.le_of_ble_eq_true rfl) ⟨⟨Nat.le_of_ble_eq_true rfl, Nat.le_of_ble_eq_true rfl⟩, ⟨Nat.le_of_ble_eq_true rfl, Nat.le_of_ble_eq_true rfl⟩⟩ ⟨rfl, rfl⟩ (hr L c) (fun v h2 hq => ?_)
  obtain ⟨rfl, I2, L2, c2, rfl, hM⟩ := hq
  refine aw_ro (fun hro2 => ?_)
  have h02 : I2 0 = g_ro G 0 := (hro2 0 (by decide)).2
  refine aw_aload_n dL_law_280 rfl ?_
  refine aw_aload_n dL_law_281 rfl ?_
  refine aw_iload_n dL_law_282 rfl ?_
  refine aw_iconst (v := 1) dL_law_283 rfl ?_
  refine aw_iadd_n (a := i) (b := 1) dL_law_284 ?_
  refine aw_iald_n (j := i + 1) dL_law_285 rfl (Nat.le_of_ble_eq_true rfl) (by omega) (by omega) ?_
  refine aw_top (congrFun h02 _) ?_
  refine aw_V0c (As := [_]) dL_law_286 k12_30 rfl rfl rfl ⟨Nat.le_of_ble_eq_true rfl, Nat.le_of_ble_eq_true rfl⟩ (Nat.le_of_ble_eq_true rfl) ⟨⟨Nat.le_of_ble_eq_true rfl, Nat.le_of_ble_eq_true rfl⟩, ⟨Nat.le_of_ble_eq_true rfl, Nat.le_of_ble_eq_true rfl⟩⟩ ⟨rfl, rfl⟩ (hM) (fun v h2 hq => ?_)
  obtain ⟨rfl, I3, L3, c3, rfl, hI3⟩ := hq
  refine aw_ic_eq (tgt := 1242) dL_law_289 (by decide) (fun c289 => ?_) (fun z => absurd z (fun q => q rfl))
  exact ih _ _ _ hI3
theorem lc_way (G : aw_G) {n i : Nat} {I : Nat → Nat → Int32} {L : Nat → Nat → Int64} {c : Nat} {Q : Option Value → aw_H → Prop} (hn : n ≤ 3072) (hi : i + 6 ≤ n) (h : zINV I) (ih : ∀ I L c, zINV I → aw_W G mL_law 1242 [.ref 0, .ref 3, .ref 81, .int (nI i)] [] (zH n I L c) (102, 3856) Q) : aw_W G mL_law 294 [.ref 0, .ref 3, .ref 81, .int (nI i)] [] (zH n I L c) (102, 3856) Q := by
  refine aw_ro (fun hro => ?_)
  have h0 : I 0 = g_ro G 0 := (hro 0 (by decide)).2
  obtain ⟨r, ⟨z, rfl⟩, hr⟩ := st_way G (n := n) h (g_ro G 0 (i + 1)) (g_ro G 0 (i + 2))
  refine aw_aload_n dL_law_294 rfl ?_
  refine aw_aload_n dL_law_295 rfl ?_
  refine aw_iload_n dL_law_296 rfl ?_
  refine aw_iconst (v := 1) dL_law_297 rfl ?_
  refine aw_iadd_n (a := i) (b := 1) dL_law_298 ?_
  refine aw_iald_n (j := i + 1) dL_law_299 rfl (Nat.le_of_ble_eq_true rfl) (by omega) (by omega) ?_
  refine aw_top (congrFun h0 _) ?_
  refine aw_aload_n dL_law_300 rfl ?_
  refine aw_iload_n dL_law_301 rfl ?_
  refine aw_iconst (v := 2) dL_law_302 rfl ?_
  refine aw_iadd_n (a := i) (b := 2) dL_law_303 ?_
  refine aw_iald_n (j := i + 2) dL_law_304 rfl (Nat.le_of_ble_eq_true rfl) (by omega) (by omega) ?_
  refine aw_top (congrFun h0 _) ?_
  refine aw_V0c (As := [_, _]) dL_law_305 k12_31 rfl rfl rfl ⟨Nat.le_of_ble_eq_true rfl, Nat.le_of_ble_eq_true rfl⟩ (Nat.le_of_ble_eq_true rfl) ⟨⟨Nat.le_of_ble_eq_true rfl, Nat.le_of_ble_eq_true rfl⟩, ⟨Nat.le_of_ble_eq_true rfl, Nat.le_of_ble_eq_true rfl⟩⟩ ⟨rfl, rfl⟩ (hr L c) (fun v h2 hq => ?_)
  obtain ⟨rfl, I2, L2, c2, rfl, hM⟩ := hq
  refine aw_ro (fun hro2 => ?_)
  have h02 : I2 0 = g_ro G 0 := (hro2 0 (by decide)).2
  refine aw_aload_n dL_law_308 rfl ?_
  refine aw_aload_n dL_law_309 rfl ?_
  refine aw_iload_n dL_law_310 rfl ?_
  refine aw_iconst (v := 1) dL_law_311 rfl ?_
  refine aw_iadd_n (a := i) (b := 1) dL_law_312 ?_
  refine aw_iald_n (j := i + 1) dL_law_313 rfl (Nat.le_of_ble_eq_true rfl) (by omega) (by omega) ?_
  refine aw_top (congrFun h02 _) ?_
  refine aw_aload_n dL_law_314 rfl ?_
  refine aw_iload_n dL_law_315 rfl ?_
  refine aw_iconst (v := 2) dL_law_316 rfl ?_
  refine aw_iadd_n (a := i) (b := 2) dL_law_317 ?_
  refine aw_iald_n (j := i + 2) dL_law_318 rfl (Nat.le_of_ble_eq_true rfl) (by omega) (by omega) ?_
  refine aw_top (congrFun h02 _) ?_
  refine aw_V0c (As := [_, _]) dL_law_319 k12_34 rfl rfl rfl ⟨Nat.le_of_ble_eq_true rfl, Nat.le_of_ble_eq_true rfl⟩ (Nat.le_of_ble_eq_true rfl) ⟨⟨Nat.le_of_ble_eq_true rfl, Nat.le_of_ble_eq_true rfl⟩, ⟨Nat.le_of_ble_eq_true rfl, Nat.le_of_ble_eq_true rfl⟩⟩ ⟨rfl, rfl⟩ (hM) (fun v h2 hq => ?_)
  obtain ⟨rfl, I3, L3, c3, rfl, hI3⟩ := hq
  refine aw_ic_eq (tgt := 1242) dL_law_322 (by decide) (fun c322 => ?_) (fun z => absurd z (fun q => q rfl))
  exact ih _ _ _ hI3
theorem lc_carter (G : aw_G) {n i : Nat} {I : Nat → Nat → Int32} {L : Nat → Nat → Int64} {c : Nat} {Q : Option Value → aw_H → Prop} (hn : n ≤ 3072) (hi : i + 6 ≤ n) (h : zINV I) (ih : ∀ I L c, zINV I → aw_W G mL_law 1242 [.ref 0, .ref 3, .ref 81, .int (nI i)] [] (zH n I L c) (102, 3856) Q) : aw_W G mL_law 327 [.ref 0, .ref 3, .ref 81, .int (nI i)] [] (zH n I L c) (102, 3856) Q := by
  refine aw_ro (fun hro => ?_)
  have h0 : I 0 = g_ro G 0 := (hro 0 (by decide)).2
  obtain ⟨r, ⟨z, rfl⟩, hr⟩ := st_carter G (n := n) h (g_ro G 0 (i + 1)) (g_ro G 0 (i + 2))
  refine aw_aload_n dL_law_327 rfl ?_
  refine aw_aload_n dL_law_328 rfl ?_
  refine aw_iload_n dL_law_329 rfl ?_
  refine aw_iconst (v := 1) dL_law_330 rfl ?_
  refine aw_iadd_n (a := i) (b := 1) dL_law_331 ?_
  refine aw_iald_n (j := i + 1) dL_law_332 rfl (Nat.le_of_ble_eq_true rfl) (by omega) (by omega) ?_
  refine aw_top (congrFun h0 _) ?_
  refine aw_aload_n dL_law_333 rfl ?_
  refine aw_iload_n dL_law_334 rfl ?_
  refine aw_iconst (v := 2) dL_law_335 rfl ?_
  refine aw_iadd_n (a := i) (b := 2) dL_law_336 ?_
  refine aw_iald_n (j := i + 2) dL_law_337 rfl (Nat.le_of_ble_eq_true rfl) (by omega) (by omega) ?_
  refine aw_top (congrFun h0 _) ?_
  refine aw_V0c (As := [_, _]) dL_law_338 k12_35 rfl rfl rfl ⟨Nat.le_of_ble_eq_true rfl, Nat.le_of_ble_eq_true rfl⟩ (Nat.le_of_ble_eq_true rfl) ⟨⟨Nat.le_of_ble_eq_true rfl, Nat.le_of_ble_eq_true rfl⟩, ⟨Nat.le_of_ble_eq_true rfl, Nat.le_of_ble_eq_true rfl⟩⟩ ⟨rfl, rfl⟩ (hr L c) (fun v h2 hq => ?_)
  obtain ⟨rfl, I2, L2, c2, rfl, hM⟩ := hq
  refine aw_ro (fun hro2 => ?_)
  have h02 : I2 0 = g_ro G 0 := (hro2 0 (by decide)).2
  refine aw_aload_n dL_law_341 rfl ?_
  refine aw_aload_n dL_law_342 rfl ?_
  refine aw_iload_n dL_law_343 rfl ?_
  refine aw_iconst (v := 1) dL_law_344 rfl ?_
  refine aw_iadd_n (a := i) (b := 1) dL_law_345 ?_
  refine aw_iald_n (j := i + 1) dL_law_346 rfl (Nat.le_of_ble_eq_true rfl) (by omega) (by omega) ?_
  refine aw_top (congrFun h02 _) ?_
  refine aw_aload_n dL_law_347 rfl ?_
  refine aw_iload_n dL_law_348 rfl ?_
  refine aw_iconst (v := 2) dL_law_349 rfl ?_
  refine aw_iadd_n (a := i) (b := 2) dL_law_350 ?_
  refine aw_iald_n (j := i + 2) dL_law_351 rfl (Nat.le_of_ble_eq_true rfl) (by omega) (by omega) ?_
  refine aw_top (congrFun h02 _) ?_
  refine aw_V0c (As := [_, _]) dL_law_352 k12_38 rfl rfl rfl ⟨Nat.le_of_ble_eq_true rfl, Nat.le_of_ble_eq_true rfl⟩ (Nat.le_of_ble_eq_true rfl) ⟨⟨Nat.le_of_ble_eq_true rfl, Nat.le_of_ble_eq_true rfl⟩, ⟨Nat.le_of_ble_eq_true rfl, Nat.le_of_ble_eq_true rfl⟩⟩ ⟨rfl, rfl⟩ (hM) (fun v h2 hq => ?_)
  obtain ⟨rfl, I3, L3, c3, rfl, hI3⟩ := hq
  refine aw_ic_eq (tgt := 1242) dL_law_355 (by decide) (fun c355 => ?_) (fun z => absurd z (fun q => q rfl))
  exact ih _ _ _ hI3
theorem lc_late (G : aw_G) {n i : Nat} {I : Nat → Nat → Int32} {L : Nat → Nat → Int64} {c : Nat} {Q : Option Value → aw_H → Prop} (hn : n ≤ 3072) (hi : i + 6 ≤ n) (h : zINV I) (ih : ∀ I L c, zINV I → aw_W G mL_law 1242 [.ref 0, .ref 3, .ref 81, .int (nI i)] [] (zH n I L c) (102, 3856) Q) : aw_W G mL_law 360 [.ref 0, .ref 3, .ref 81, .int (nI i)] [] (zH n I L c) (102, 3856) Q := by
  refine aw_ro (fun hro => ?_)
  have h0 : I 0 = g_ro G 0 := (hro 0 (by decide)).2
  obtain ⟨r, ⟨z, rfl⟩, hr⟩ := st_late G (n := n) h (g_ro G 0 (i + 1)) (g_ro G 0 (i + 2))
  refine aw_aload_n dL_law_360 rfl ?_
  refine aw_aload_n dL_law_361 rfl ?_
  refine aw_iload_n dL_law_362 rfl ?_
  refine aw_iconst (v := 1) dL_law_363 rfl ?_
  refine aw_iadd_n (a := i) (b := 1) dL_law_364 ?_
  refine aw_iald_n (j := i + 1) dL_law_365 rfl (Nat.le_of_ble_eq_true rfl) (by omega) (by omega) ?_
  refine aw_top (congrFun h0 _) ?_
  refine aw_aload_n dL_law_366 rfl ?_
  refine aw_iload_n dL_law_367 rfl ?_
  refine aw_iconst (v := 2) dL_law_368 rfl ?_
  refine aw_iadd_n (a := i) (b := 2) dL_law_369 ?_
  refine aw_iald_n (j := i + 2) dL_law_370 rfl (Nat.le_of_ble_eq_true rfl) (by omega) (by omega) ?_
  refine aw_top (congrFun h0 _) ?_
  refine aw_V0c (As := [_, _]) dL_law_371 k12_39 rfl rfl rfl ⟨Nat.le_of_ble_eq_true rfl, Nat.le_of_ble_eq_true rfl⟩ (Nat.le_of_ble_eq_true rfl) ⟨⟨Nat.le_of_ble_eq_true rfl, Nat.le_of_ble_eq_true rfl⟩, ⟨Nat.le_of_ble_eq_true rfl, Nat.le_of_ble_eq_true rfl⟩⟩ ⟨rfl, rfl⟩ (hr L c) (fun v h2 hq => ?_)
  obtain ⟨rfl, I2, L2, c2, rfl, hM⟩ := hq
  refine aw_ro (fun hro2 => ?_)
  have h02 : I2 0 = g_ro G 0 := (hro2 0 (by decide)).2
  refine aw_aload_n dL_law_374 rfl ?_
  refine aw_aload_n dL_law_375 rfl ?_
  refine aw_iload_n dL_law_376 rfl ?_
  refine aw_iconst (v := 1) dL_law_377 rfl ?_
  refine aw_iadd_n (a := i) (b := 1) dL_law_378 ?_
  refine aw_iald_n (j := i + 1) dL_law_379 rfl (Nat.le_of_ble_eq_true rfl) (by omega) (by omega) ?_
  refine aw_top (congrFun h02 _) ?_
  refine aw_aload_n dL_law_380 rfl ?_
  refine aw_iload_n dL_law_381 rfl ?_
  refine aw_iconst (v := 2) dL_law_382 rfl ?_
  refine aw_iadd_n (a := i) (b := 2) dL_law_383 ?_
  refine aw_iald_n (j := i + 2) dL_law_384 rfl (Nat.le_of_ble_eq_true rfl) (by omega) (by omega) ?_
  refine aw_top (congrFun h02 _) ?_
  refine aw_V0c (As := [_, _]) dL_law_385 k12_42 rfl rfl rfl ⟨Nat.le_of_ble_eq_true rfl, Nat.le_of_ble_eq_true rfl⟩ (Nat.le_of_ble_eq_true rfl) ⟨⟨Nat.le_of_ble_eq_true rfl, Nat.le_of_ble_eq_true rfl⟩, ⟨Nat.le_of_ble_eq_true rfl, Nat.le_of_ble_eq_true rfl⟩⟩ ⟨rfl, rfl⟩ (hM) (fun v h2 hq => ?_)
  obtain ⟨rfl, I3, L3, c3, rfl, hI3⟩ := hq
  refine aw_ic_eq (tgt := 1242) dL_law_388 (by decide) (fun c388 => ?_) (fun z => absurd z (fun q => q rfl))
  exact ih _ _ _ hI3
theorem lc_answer (G : aw_G) {n i : Nat} {I : Nat → Nat → Int32} {L : Nat → Nat → Int64} {c : Nat} {Q : Option Value → aw_H → Prop} (hn : n ≤ 3072) (hi : i + 6 ≤ n) (h : zINV I) (ih : ∀ I L c, zINV I → aw_W G mL_law 1242 [.ref 0, .ref 3, .ref 81, .int (nI i)] [] (zH n I L c) (102, 3856) Q) : aw_W G mL_law 393 [.ref 0, .ref 3, .ref 81, .int (nI i)] [] (zH n I L c) (102, 3856) Q := by
  refine aw_ro (fun hro => ?_)
  have h0 : I 0 = g_ro G 0 := (hro 0 (by decide)).2
  obtain ⟨r, ⟨z, rfl⟩, hr⟩ := st_answer G (n := n) h (g_ro G 0 (i + 1)) (g_ro G 0 (i + 2))
  refine aw_aload_n dL_law_393 rfl ?_
  refine aw_aload_n dL_law_394 rfl ?_
  refine aw_iload_n dL_law_395 rfl ?_
  refine aw_iconst (v := 1) dL_law_396 rfl ?_
  refine aw_iadd_n (a := i) (b := 1) dL_law_397 ?_
  refine aw_iald_n (j := i + 1) dL_law_398 rfl (Nat.le_of_ble_eq_true rfl) (by omega) (by omega) ?_
  refine aw_top (congrFun h0 _) ?_
  refine aw_aload_n dL_law_399 rfl ?_
  refine aw_iload_n dL_law_400 rfl ?_
  refine aw_iconst (v := 2) dL_law_401 rfl ?_
  refine aw_iadd_n (a := i) (b := 2) dL_law_402 ?_
  refine aw_iald_n (j := i + 2) dL_law_403 rfl (Nat.le_of_ble_eq_true rfl) (by omega) (by omega) ?_
  refine aw_top (congrFun h0 _) ?_
  refine aw_V0c (As := [_, _]) dL_law_404 k12_43 rfl rfl rfl ⟨Nat.le_of_ble_eq_true rfl, Nat.le_of_ble_eq_true rfl⟩ (Nat.le_of_ble_eq_true rfl) ⟨⟨Nat.le_of_ble_eq_true rfl, Nat.le_of_ble_eq_true rfl⟩, ⟨Nat.le_of_ble_eq_true rfl, Nat.le_of_ble_eq_true rfl⟩⟩ ⟨rfl, rfl⟩ (hr L c) (fun v h2 hq => ?_)
  obtain ⟨rfl, I2, L2, c2, rfl, hM⟩ := hq
  refine aw_ro (fun hro2 => ?_)
  have h02 : I2 0 = g_ro G 0 := (hro2 0 (by decide)).2
  refine aw_aload_n dL_law_407 rfl ?_
  refine aw_aload_n dL_law_408 rfl ?_
  refine aw_iload_n dL_law_409 rfl ?_
  refine aw_iconst (v := 1) dL_law_410 rfl ?_
  refine aw_iadd_n (a := i) (b := 1) dL_law_411 ?_
  refine aw_iald_n (j := i + 1) dL_law_412 rfl (Nat.le_of_ble_eq_true rfl) (by omega) (by omega) ?_
  refine aw_top (congrFun h02 _) ?_
  refine aw_aload_n dL_law_413 rfl ?_
  refine aw_iload_n dL_law_414 rfl ?_
  refine aw_iconst (v := 2) dL_law_415 rfl ?_
  refine aw_iadd_n (a := i) (b := 2) dL_law_416 ?_
  refine aw_iald_n (j := i + 2) dL_law_417 rfl (Nat.le_of_ble_eq_true rfl) (by omega) (by omega) ?_
  refine aw_top (congrFun h02 _) ?_
  refine aw_V0c (As := [_, _]) dL_law_418 k12_46 rfl rfl rfl ⟨Nat.le_of_ble_eq_true rfl, Nat.le_of_ble_eq_true rfl⟩ (Nat.le_of_ble_eq_true rfl) ⟨⟨Nat.le_of_ble_eq_true rfl, Nat.le_of_ble_eq_true rfl⟩, ⟨Nat.le_of_ble_eq_true rfl, Nat.le_of_ble_eq_true rfl⟩⟩ ⟨rfl, rfl⟩ (hM) (fun v h2 hq => ?_)
  obtain ⟨rfl, I3, L3, c3, rfl, hI3⟩ := hq
  refine aw_ic_eq (tgt := 1242) dL_law_421 (by decide) (fun c421 => ?_) (fun z => absurd z (fun q => q rfl))
  exact ih _ _ _ hI3
theorem lc_back (G : aw_G) {n i : Nat} {I : Nat → Nat → Int32} {L : Nat → Nat → Int64} {c : Nat} {Q : Option Value → aw_H → Prop} (hn : n ≤ 3072) (hi : i + 6 ≤ n) (h : zINV I) (ih : ∀ I L c, zINV I → aw_W G mL_law 1242 [.ref 0, .ref 3, .ref 81, .int (nI i)] [] (zH n I L c) (102, 3856) Q) : aw_W G mL_law 426 [.ref 0, .ref 3, .ref 81, .int (nI i)] [] (zH n I L c) (102, 3856) Q := by
  refine aw_ro (fun hro => ?_)
  have h0 : I 0 = g_ro G 0 := (hro 0 (by decide)).2
  obtain ⟨r, ⟨z, rfl⟩, hr⟩ := st_back G (n := n) h 
  refine aw_aload_n dL_law_426 rfl ?_
  refine aw_V0c (As := []) dL_law_427 k12_47 rfl rfl rfl ⟨Nat.le_of_ble_eq_true rfl, Nat.le_of_ble_eq_true rfl⟩ (Nat.le_of_ble_eq_true rfl) ⟨⟨Nat.le_of_ble_eq_true rfl, Nat.le_of_ble_eq_true rfl⟩, ⟨Nat.le_of_ble_eq_true rfl, Nat.le_of_ble_eq_true rfl⟩⟩ ⟨rfl, rfl⟩ (hr L c) (fun v h2 hq => ?_)
  obtain ⟨rfl, I2, L2, c2, rfl, hM⟩ := hq
  refine aw_ro (fun hro2 => ?_)
  have h02 : I2 0 = g_ro G 0 := (hro2 0 (by decide)).2
  refine aw_aload_n dL_law_430 rfl ?_
  refine aw_V0c (As := []) dL_law_431 k12_51 rfl rfl rfl ⟨Nat.le_of_ble_eq_true rfl, Nat.le_of_ble_eq_true rfl⟩ (Nat.le_of_ble_eq_true rfl) ⟨⟨Nat.le_of_ble_eq_true rfl, Nat.le_of_ble_eq_true rfl⟩, ⟨Nat.le_of_ble_eq_true rfl, Nat.le_of_ble_eq_true rfl⟩⟩ ⟨rfl, rfl⟩ (hM) (fun v h2 hq => ?_)
  obtain ⟨rfl, I3, L3, c3, rfl, hI3⟩ := hq
  refine aw_ic_eq (tgt := 1242) dL_law_434 (by decide) (fun c434 => ?_) (fun z => absurd z (fun q => q rfl))
  exact ih _ _ _ hI3
theorem lc_read (G : aw_G) {n i : Nat} {I : Nat → Nat → Int32} {L : Nat → Nat → Int64} {c : Nat} {Q : Option Value → aw_H → Prop} (hn : n ≤ 3072) (hi : i + 6 ≤ n) (h : zINV I) (ih : ∀ I L c, zINV I → aw_W G mL_law 1242 [.ref 0, .ref 3, .ref 81, .int (nI i)] [] (zH n I L c) (102, 3856) Q) : aw_W G mL_law 439 [.ref 0, .ref 3, .ref 81, .int (nI i)] [] (zH n I L c) (102, 3856) Q := by
  refine aw_ro (fun hro => ?_)
  have h0 : I 0 = g_ro G 0 := (hro 0 (by decide)).2
  obtain ⟨r, ⟨z, rfl⟩, hr⟩ := st_read G (n := n) h (g_ro G 0 (i + 1))
  refine aw_aload_n dL_law_439 rfl ?_
  refine aw_aload_n dL_law_440 rfl ?_
  refine aw_iload_n dL_law_441 rfl ?_
  refine aw_iconst (v := 1) dL_law_442 rfl ?_
  refine aw_iadd_n (a := i) (b := 1) dL_law_443 ?_
  refine aw_iald_n (j := i + 1) dL_law_444 rfl (Nat.le_of_ble_eq_true rfl) (by omega) (by omega) ?_
  refine aw_top (congrFun h0 _) ?_
  refine aw_V0c (As := [_]) dL_law_445 k12_52 rfl rfl rfl ⟨Nat.le_of_ble_eq_true rfl, Nat.le_of_ble_eq_true rfl⟩ (Nat.le_of_ble_eq_true rfl) ⟨⟨Nat.le_of_ble_eq_true rfl, Nat.le_of_ble_eq_true rfl⟩, ⟨Nat.le_of_ble_eq_true rfl, Nat.le_of_ble_eq_true rfl⟩⟩ ⟨rfl, rfl⟩ (hr L c) (fun v h2 hq => ?_)
  obtain ⟨rfl, I2, L2, c2, rfl, hM⟩ := hq
  refine aw_ro (fun hro2 => ?_)
  have h02 : I2 0 = g_ro G 0 := (hro2 0 (by decide)).2
  refine aw_aload_n dL_law_448 rfl ?_
  refine aw_aload_n dL_law_449 rfl ?_
  refine aw_iload_n dL_law_450 rfl ?_
  refine aw_iconst (v := 1) dL_law_451 rfl ?_
  refine aw_iadd_n (a := i) (b := 1) dL_law_452 ?_
  refine aw_iald_n (j := i + 1) dL_law_453 rfl (Nat.le_of_ble_eq_true rfl) (by omega) (by omega) ?_
  refine aw_top (congrFun h02 _) ?_
  refine aw_V0c (As := [_]) dL_law_454 k12_55 rfl rfl rfl ⟨Nat.le_of_ble_eq_true rfl, Nat.le_of_ble_eq_true rfl⟩ (Nat.le_of_ble_eq_true rfl) ⟨⟨Nat.le_of_ble_eq_true rfl, Nat.le_of_ble_eq_true rfl⟩, ⟨Nat.le_of_ble_eq_true rfl, Nat.le_of_ble_eq_true rfl⟩⟩ ⟨rfl, rfl⟩ (hM) (fun v h2 hq => ?_)
  obtain ⟨rfl, I3, L3, c3, rfl, hI3⟩ := hq
  refine aw_ic_eq (tgt := 1242) dL_law_457 (by decide) (fun c457 => ?_) (fun z => absurd z (fun q => q rfl))
  exact ih _ _ _ hI3
theorem lc_at (G : aw_G) {n i : Nat} {I : Nat → Nat → Int32} {L : Nat → Nat → Int64} {c : Nat} {Q : Option Value → aw_H → Prop} (hn : n ≤ 3072) (hi : i + 6 ≤ n) (h : zINV I) (ih : ∀ I L c, zINV I → aw_W G mL_law 1242 [.ref 0, .ref 3, .ref 81, .int (nI i)] [] (zH n I L c) (102, 3856) Q) : aw_W G mL_law 462 [.ref 0, .ref 3, .ref 81, .int (nI i)] [] (zH n I L c) (102, 3856) Q := by
  refine aw_ro (fun hro => ?_)
  have h0 : I 0 = g_ro G 0 := (hro 0 (by decide)).2
  obtain ⟨r, ⟨z, rfl⟩, hr⟩ := st_at G (n := n) h (g_ro G 0 (i + 1)) (g_ro G 0 (i + 2)) (g_ro G 0 (i + 3))
  refine aw_aload_n dL_law_462 rfl ?_
  refine aw_aload_n dL_law_463 rfl ?_
  refine aw_iload_n dL_law_464 rfl ?_
  refine aw_iconst (v := 1) dL_law_465 rfl ?_
  refine aw_iadd_n (a := i) (b := 1) dL_law_466 ?_
  refine aw_iald_n (j := i + 1) dL_law_467 rfl (Nat.le_of_ble_eq_true rfl) (by omega) (by omega) ?_
  refine aw_top (congrFun h0 _) ?_
  refine aw_aload_n dL_law_468 rfl ?_
  refine aw_iload_n dL_law_469 rfl ?_
  refine aw_iconst (v := 2) dL_law_470 rfl ?_
  refine aw_iadd_n (a := i) (b := 2) dL_law_471 ?_
  refine aw_iald_n (j := i + 2) dL_law_472 rfl (Nat.le_of_ble_eq_true rfl) (by omega) (by omega) ?_
  refine aw_top (congrFun h0 _) ?_
  refine aw_aload_n dL_law_473 rfl ?_
  refine aw_iload_n dL_law_474 rfl ?_
  refine aw_iconst (v := 3) dL_law_475 rfl ?_
  refine aw_iadd_n (a := i) (b := 3) dL_law_476 ?_
  refine aw_iald_n (j := i + 3) dL_law_477 rfl (Nat.le_of_ble_eq_true rfl) (by omega) (by omega) ?_
  refine aw_top (congrFun h0 _) ?_
  refine aw_V0c (As := [_, _, _]) dL_law_478 k12_56 rfl rfl rfl ⟨Nat.le_of_ble_eq_true rfl, Nat.le_of_ble_eq_true rfl⟩ (Nat.le_of_ble_eq_true rfl) ⟨⟨Nat.le_of_ble_eq_true rfl, Nat.le_of_ble_eq_true rfl⟩, ⟨Nat.le_of_ble_eq_true rfl, Nat.le_of_ble_eq_true rfl⟩⟩ ⟨rfl, rfl⟩ (hr L c) (fun v h2 hq => ?_)
  obtain ⟨rfl, I2, L2, c2, rfl, hM⟩ := hq
  refine aw_ro (fun hro2 => ?_)
  have h02 : I2 0 = g_ro G 0 := (hro2 0 (by decide)).2
  refine aw_aload_n dL_law_481 rfl ?_
  refine aw_aload_n dL_law_482 rfl ?_
  refine aw_iload_n dL_law_483 rfl ?_
  refine aw_iconst (v := 1) dL_law_484 rfl ?_
  refine aw_iadd_n (a := i) (b := 1) dL_law_485 ?_
  refine aw_iald_n (j := i + 1) dL_law_486 rfl (Nat.le_of_ble_eq_true rfl) (by omega) (by omega) ?_
  refine aw_top (congrFun h02 _) ?_
  refine aw_aload_n dL_law_487 rfl ?_
  refine aw_iload_n dL_law_488 rfl ?_
  refine aw_iconst (v := 2) dL_law_489 rfl ?_
  refine aw_iadd_n (a := i) (b := 2) dL_law_490 ?_
  refine aw_iald_n (j := i + 2) dL_law_491 rfl (Nat.le_of_ble_eq_true rfl) (by omega) (by omega) ?_
  refine aw_top (congrFun h02 _) ?_
  refine aw_aload_n dL_law_492 rfl ?_
  refine aw_iload_n dL_law_493 rfl ?_
  refine aw_iconst (v := 3) dL_law_494 rfl ?_
  refine aw_iadd_n (a := i) (b := 3) dL_law_495 ?_
  refine aw_iald_n (j := i + 3) dL_law_496 rfl (Nat.le_of_ble_eq_true rfl) (by omega) (by omega) ?_
  refine aw_top (congrFun h02 _) ?_
  refine aw_V0c (As := [_, _, _]) dL_law_497 k12_60 rfl rfl rfl ⟨Nat.le_of_ble_eq_true rfl, Nat.le_of_ble_eq_true rfl⟩ (Nat.le_of_ble_eq_true rfl) ⟨⟨Nat.le_of_ble_eq_true rfl, Nat.le_of_ble_eq_true rfl⟩, ⟨Nat.le_of_ble_eq_true rfl, Nat.le_of_ble_eq_true rfl⟩⟩ ⟨rfl, rfl⟩ (hM) (fun v h2 hq => ?_)
  obtain ⟨rfl, I3, L3, c3, rfl, hI3⟩ := hq
  refine aw_ic_eq (tgt := 1242) dL_law_500 (by decide) (fun c500 => ?_) (fun z => absurd z (fun q => q rfl))
  exact ih _ _ _ hI3
theorem lc_ends (G : aw_G) {n i : Nat} {I : Nat → Nat → Int32} {L : Nat → Nat → Int64} {c : Nat} {Q : Option Value → aw_H → Prop} (hn : n ≤ 3072) (hi : i + 6 ≤ n) (h : zINV I) (ih : ∀ I L c, zINV I → aw_W G mL_law 1242 [.ref 0, .ref 3, .ref 81, .int (nI i)] [] (zH n I L c) (102, 3856) Q) : aw_W G mL_law 505 [.ref 0, .ref 3, .ref 81, .int (nI i)] [] (zH n I L c) (102, 3856) Q := by
  refine aw_ro (fun hro => ?_)
  have h0 : I 0 = g_ro G 0 := (hro 0 (by decide)).2
  obtain ⟨r, ⟨z, rfl⟩, hr⟩ := st_ends G (n := n) h (g_ro G 0 (i + 1))
  refine aw_aload_n dL_law_505 rfl ?_
  refine aw_aload_n dL_law_506 rfl ?_
  refine aw_iload_n dL_law_507 rfl ?_
  refine aw_iconst (v := 1) dL_law_508 rfl ?_
  refine aw_iadd_n (a := i) (b := 1) dL_law_509 ?_
  refine aw_iald_n (j := i + 1) dL_law_510 rfl (Nat.le_of_ble_eq_true rfl) (by omega) (by omega) ?_
  refine aw_top (congrFun h0 _) ?_
  refine aw_V0c (As := [_]) dL_law_511 k12_61 rfl rfl rfl ⟨Nat.le_of_ble_eq_true rfl, Nat.le_of_ble_eq_true rfl⟩ (Nat.le_of_ble_eq_true rfl) ⟨⟨Nat.le_of_ble_eq_true rfl, Nat.le_of_ble_eq_true rfl⟩, ⟨Nat.le_of_ble_eq_true rfl, Nat.le_of_ble_eq_true rfl⟩⟩ ⟨rfl, rfl⟩ (hr L c) (fun v h2 hq => ?_)
  obtain ⟨rfl, I2, L2, c2, rfl, hM⟩ := hq
  refine aw_ro (fun hro2 => ?_)
  have h02 : I2 0 = g_ro G 0 := (hro2 0 (by decide)).2
  refine aw_aload_n dL_law_514 rfl ?_
  refine aw_aload_n dL_law_515 rfl ?_
  refine aw_iload_n dL_law_516 rfl ?_
  refine aw_iconst (v := 1) dL_law_517 rfl ?_
  refine aw_iadd_n (a := i) (b := 1) dL_law_518 ?_
  refine aw_iald_n (j := i + 1) dL_law_519 rfl (Nat.le_of_ble_eq_true rfl) (by omega) (by omega) ?_
  refine aw_top (congrFun h02 _) ?_
  refine aw_V0c (As := [_]) dL_law_520 k12_64 rfl rfl rfl ⟨Nat.le_of_ble_eq_true rfl, Nat.le_of_ble_eq_true rfl⟩ (Nat.le_of_ble_eq_true rfl) ⟨⟨Nat.le_of_ble_eq_true rfl, Nat.le_of_ble_eq_true rfl⟩, ⟨Nat.le_of_ble_eq_true rfl, Nat.le_of_ble_eq_true rfl⟩⟩ ⟨rfl, rfl⟩ (hM) (fun v h2 hq => ?_)
  obtain ⟨rfl, I3, L3, c3, rfl, hI3⟩ := hq
  refine aw_ic_eq (tgt := 1242) dL_law_523 (by decide) (fun c523 => ?_) (fun z => absurd z (fun q => q rfl))
  exact ih _ _ _ hI3
theorem lc_far (G : aw_G) {n i : Nat} {I : Nat → Nat → Int32} {L : Nat → Nat → Int64} {c : Nat} {Q : Option Value → aw_H → Prop} (hn : n ≤ 3072) (hi : i + 6 ≤ n) (h : zINV I) (ih : ∀ I L c, zINV I → aw_W G mL_law 1242 [.ref 0, .ref 3, .ref 81, .int (nI i)] [] (zH n I L c) (102, 3856) Q) : aw_W G mL_law 528 [.ref 0, .ref 3, .ref 81, .int (nI i)] [] (zH n I L c) (102, 3856) Q := by
  refine aw_ro (fun hro => ?_)
  have h0 : I 0 = g_ro G 0 := (hro 0 (by decide)).2
  obtain ⟨r, ⟨z, rfl⟩, hr⟩ := st_far G (n := n) h (g_ro G 0 (i + 1)) (g_ro G 0 (i + 2))
  refine aw_aload_n dL_law_528 rfl ?_
  refine aw_aload_n dL_law_529 rfl ?_
  refine aw_iload_n dL_law_530 rfl ?_
  refine aw_iconst (v := 1) dL_law_531 rfl ?_
  refine aw_iadd_n (a := i) (b := 1) dL_law_532 ?_
  refine aw_iald_n (j := i + 1) dL_law_533 rfl (Nat.le_of_ble_eq_true rfl) (by omega) (by omega) ?_
  refine aw_top (congrFun h0 _) ?_
  refine aw_aload_n dL_law_534 rfl ?_
  refine aw_iload_n dL_law_535 rfl ?_
  refine aw_iconst (v := 2) dL_law_536 rfl ?_
  refine aw_iadd_n (a := i) (b := 2) dL_law_537 ?_
  refine aw_iald_n (j := i + 2) dL_law_538 rfl (Nat.le_of_ble_eq_true rfl) (by omega) (by omega) ?_
  refine aw_top (congrFun h0 _) ?_
  refine aw_V0c (As := [_, _]) dL_law_539 k12_65 rfl rfl rfl ⟨Nat.le_of_ble_eq_true rfl, Nat.le_of_ble_eq_true rfl⟩ (Nat.le_of_ble_eq_true rfl) ⟨⟨Nat.le_of_ble_eq_true rfl, Nat.le_of_ble_eq_true rfl⟩, ⟨Nat.le_of_ble_eq_true rfl, Nat.le_of_ble_eq_true rfl⟩⟩ ⟨rfl, rfl⟩ (hr L c) (fun v h2 hq => ?_)
  obtain ⟨rfl, I2, L2, c2, rfl, hM⟩ := hq
  refine aw_ro (fun hro2 => ?_)
  have h02 : I2 0 = g_ro G 0 := (hro2 0 (by decide)).2
  refine aw_aload_n dL_law_542 rfl ?_
  refine aw_aload_n dL_law_543 rfl ?_
  refine aw_iload_n dL_law_544 rfl ?_
  refine aw_iconst (v := 1) dL_law_545 rfl ?_
  refine aw_iadd_n (a := i) (b := 1) dL_law_546 ?_
  refine aw_iald_n (j := i + 1) dL_law_547 rfl (Nat.le_of_ble_eq_true rfl) (by omega) (by omega) ?_
  refine aw_top (congrFun h02 _) ?_
  refine aw_aload_n dL_law_548 rfl ?_
  refine aw_iload_n dL_law_549 rfl ?_
  refine aw_iconst (v := 2) dL_law_550 rfl ?_
  refine aw_iadd_n (a := i) (b := 2) dL_law_551 ?_
  refine aw_iald_n (j := i + 2) dL_law_552 rfl (Nat.le_of_ble_eq_true rfl) (by omega) (by omega) ?_
  refine aw_top (congrFun h02 _) ?_
  refine aw_V0c (As := [_, _]) dL_law_553 k12_68 rfl rfl rfl ⟨Nat.le_of_ble_eq_true rfl, Nat.le_of_ble_eq_true rfl⟩ (Nat.le_of_ble_eq_true rfl) ⟨⟨Nat.le_of_ble_eq_true rfl, Nat.le_of_ble_eq_true rfl⟩, ⟨Nat.le_of_ble_eq_true rfl, Nat.le_of_ble_eq_true rfl⟩⟩ ⟨rfl, rfl⟩ (hM) (fun v h2 hq => ?_)
  obtain ⟨rfl, I3, L3, c3, rfl, hI3⟩ := hq
  refine aw_ic_eq (tgt := 1242) dL_law_556 (by decide) (fun c556 => ?_) (fun z => absurd z (fun q => q rfl))
  exact ih _ _ _ hI3
theorem lc_who (G : aw_G) {n i : Nat} {I : Nat → Nat → Int32} {L : Nat → Nat → Int64} {c : Nat} {Q : Option Value → aw_H → Prop} (hn : n ≤ 3072) (hi : i + 6 ≤ n) (h : zINV I) (ih : ∀ I L c, zINV I → aw_W G mL_law 1242 [.ref 0, .ref 3, .ref 81, .int (nI i)] [] (zH n I L c) (102, 3856) Q) : aw_W G mL_law 561 [.ref 0, .ref 3, .ref 81, .int (nI i)] [] (zH n I L c) (102, 3856) Q := by
  refine aw_ro (fun hro => ?_)
  have h0 : I 0 = g_ro G 0 := (hro 0 (by decide)).2
  obtain ⟨r, ⟨z, rfl⟩, hr⟩ := st_who G (n := n) h (g_ro G 0 (i + 1))
  refine aw_aload_n dL_law_561 rfl ?_
  refine aw_aload_n dL_law_562 rfl ?_
  refine aw_iload_n dL_law_563 rfl ?_
  refine aw_iconst (v := 1) dL_law_564 rfl ?_
  refine aw_iadd_n (a := i) (b := 1) dL_law_565 ?_
  refine aw_iald_n (j := i + 1) dL_law_566 rfl (Nat.le_of_ble_eq_true rfl) (by omega) (by omega) ?_
  refine aw_top (congrFun h0 _) ?_
  refine aw_V0c (As := [_]) dL_law_567 k12_69 rfl rfl rfl ⟨Nat.le_of_ble_eq_true rfl, Nat.le_of_ble_eq_true rfl⟩ (Nat.le_of_ble_eq_true rfl) ⟨⟨Nat.le_of_ble_eq_true rfl, Nat.le_of_ble_eq_true rfl⟩, ⟨Nat.le_of_ble_eq_true rfl, Nat.le_of_ble_eq_true rfl⟩⟩ ⟨rfl, rfl⟩ (hr L c) (fun v h2 hq => ?_)
  obtain ⟨rfl, I2, L2, c2, rfl, hM⟩ := hq
  refine aw_ro (fun hro2 => ?_)
  have h02 : I2 0 = g_ro G 0 := (hro2 0 (by decide)).2
  refine aw_aload_n dL_law_570 rfl ?_
  refine aw_aload_n dL_law_571 rfl ?_
  refine aw_iload_n dL_law_572 rfl ?_
  refine aw_iconst (v := 1) dL_law_573 rfl ?_
  refine aw_iadd_n (a := i) (b := 1) dL_law_574 ?_
  refine aw_iald_n (j := i + 1) dL_law_575 rfl (Nat.le_of_ble_eq_true rfl) (by omega) (by omega) ?_
  refine aw_top (congrFun h02 _) ?_
  refine aw_V0c (As := [_]) dL_law_576 k12_72 rfl rfl rfl ⟨Nat.le_of_ble_eq_true rfl, Nat.le_of_ble_eq_true rfl⟩ (Nat.le_of_ble_eq_true rfl) ⟨⟨Nat.le_of_ble_eq_true rfl, Nat.le_of_ble_eq_true rfl⟩, ⟨Nat.le_of_ble_eq_true rfl, Nat.le_of_ble_eq_true rfl⟩⟩ ⟨rfl, rfl⟩ (hM) (fun v h2 hq => ?_)
  obtain ⟨rfl, I3, L3, c3, rfl, hI3⟩ := hq
  refine aw_ic_eq (tgt := 1242) dL_law_579 (by decide) (fun c579 => ?_) (fun z => absurd z (fun q => q rfl))
  exact ih _ _ _ hI3
theorem lc_met (G : aw_G) {n i : Nat} {I : Nat → Nat → Int32} {L : Nat → Nat → Int64} {c : Nat} {Q : Option Value → aw_H → Prop} (hn : n ≤ 3072) (hi : i + 6 ≤ n) (h : zINV I) (ih : ∀ I L c, zINV I → aw_W G mL_law 1242 [.ref 0, .ref 3, .ref 81, .int (nI i)] [] (zH n I L c) (102, 3856) Q) : aw_W G mL_law 584 [.ref 0, .ref 3, .ref 81, .int (nI i)] [] (zH n I L c) (102, 3856) Q := by
  refine aw_ro (fun hro => ?_)
  have h0 : I 0 = g_ro G 0 := (hro 0 (by decide)).2
  obtain ⟨r, ⟨z, rfl⟩, hr⟩ := st_met G (n := n) h (g_ro G 0 (i + 1))
  refine aw_aload_n dL_law_584 rfl ?_
  refine aw_aload_n dL_law_585 rfl ?_
  refine aw_iload_n dL_law_586 rfl ?_
  refine aw_iconst (v := 1) dL_law_587 rfl ?_
  refine aw_iadd_n (a := i) (b := 1) dL_law_588 ?_
  refine aw_iald_n (j := i + 1) dL_law_589 rfl (Nat.le_of_ble_eq_true rfl) (by omega) (by omega) ?_
  refine aw_top (congrFun h0 _) ?_
  refine aw_V0c (As := [_]) dL_law_590 k12_73 rfl rfl rfl ⟨Nat.le_of_ble_eq_true rfl, Nat.le_of_ble_eq_true rfl⟩ (Nat.le_of_ble_eq_true rfl) ⟨⟨Nat.le_of_ble_eq_true rfl, Nat.le_of_ble_eq_true rfl⟩, ⟨Nat.le_of_ble_eq_true rfl, Nat.le_of_ble_eq_true rfl⟩⟩ ⟨rfl, rfl⟩ (hr L c) (fun v h2 hq => ?_)
  obtain ⟨rfl, I2, L2, c2, rfl, hM⟩ := hq
  refine aw_ro (fun hro2 => ?_)
  have h02 : I2 0 = g_ro G 0 := (hro2 0 (by decide)).2
  refine aw_aload_n dL_law_593 rfl ?_
  refine aw_aload_n dL_law_594 rfl ?_
  refine aw_iload_n dL_law_595 rfl ?_
  refine aw_iconst (v := 1) dL_law_596 rfl ?_
  refine aw_iadd_n (a := i) (b := 1) dL_law_597 ?_
  refine aw_iald_n (j := i + 1) dL_law_598 rfl (Nat.le_of_ble_eq_true rfl) (by omega) (by omega) ?_
  refine aw_top (congrFun h02 _) ?_
  refine aw_V0c (As := [_]) dL_law_599 k12_76 rfl rfl rfl ⟨Nat.le_of_ble_eq_true rfl, Nat.le_of_ble_eq_true rfl⟩ (Nat.le_of_ble_eq_true rfl) ⟨⟨Nat.le_of_ble_eq_true rfl, Nat.le_of_ble_eq_true rfl⟩, ⟨Nat.le_of_ble_eq_true rfl, Nat.le_of_ble_eq_true rfl⟩⟩ ⟨rfl, rfl⟩ (hM) (fun v h2 hq => ?_)
  obtain ⟨rfl, I3, L3, c3, rfl, hI3⟩ := hq
  refine aw_ic_eq (tgt := 1242) dL_law_602 (by decide) (fun c602 => ?_) (fun z => absurd z (fun q => q rfl))
  exact ih _ _ _ hI3
theorem lc_busiest (G : aw_G) {n i : Nat} {I : Nat → Nat → Int32} {L : Nat → Nat → Int64} {c : Nat} {Q : Option Value → aw_H → Prop} (hn : n ≤ 3072) (hi : i + 6 ≤ n) (h : zINV I) (ih : ∀ I L c, zINV I → aw_W G mL_law 1242 [.ref 0, .ref 3, .ref 81, .int (nI i)] [] (zH n I L c) (102, 3856) Q) : aw_W G mL_law 607 [.ref 0, .ref 3, .ref 81, .int (nI i)] [] (zH n I L c) (102, 3856) Q := by
  refine aw_ro (fun hro => ?_)
  have h0 : I 0 = g_ro G 0 := (hro 0 (by decide)).2
  obtain ⟨r, ⟨z, rfl⟩, hr⟩ := st_busiest G (n := n) h 
  refine aw_aload_n dL_law_607 rfl ?_
  refine aw_V0c (As := []) dL_law_608 k12_77 rfl rfl rfl ⟨Nat.le_of_ble_eq_true rfl, Nat.le_of_ble_eq_true rfl⟩ (Nat.le_of_ble_eq_true rfl) ⟨⟨Nat.le_of_ble_eq_true rfl, Nat.le_of_ble_eq_true rfl⟩, ⟨Nat.le_of_ble_eq_true rfl, Nat.le_of_ble_eq_true rfl⟩⟩ ⟨rfl, rfl⟩ (hr L c) (fun v h2 hq => ?_)
  obtain ⟨rfl, I2, L2, c2, rfl, hM⟩ := hq
  refine aw_ro (fun hro2 => ?_)
  have h02 : I2 0 = g_ro G 0 := (hro2 0 (by decide)).2
  refine aw_aload_n dL_law_611 rfl ?_
  refine aw_V0c (As := []) dL_law_612 k12_80 rfl rfl rfl ⟨Nat.le_of_ble_eq_true rfl, Nat.le_of_ble_eq_true rfl⟩ (Nat.le_of_ble_eq_true rfl) ⟨⟨Nat.le_of_ble_eq_true rfl, Nat.le_of_ble_eq_true rfl⟩, ⟨Nat.le_of_ble_eq_true rfl, Nat.le_of_ble_eq_true rfl⟩⟩ ⟨rfl, rfl⟩ (hM) (fun v h2 hq => ?_)
  obtain ⟨rfl, I3, L3, c3, rfl, hI3⟩ := hq
  refine aw_ic_eq (tgt := 1242) dL_law_615 (by decide) (fun c615 => ?_) (fun z => absurd z (fun q => q rfl))
  exact ih _ _ _ hI3
theorem lc_needs (G : aw_G) {n i : Nat} {I : Nat → Nat → Int32} {L : Nat → Nat → Int64} {c : Nat} {Q : Option Value → aw_H → Prop} (hn : n ≤ 3072) (hi : i + 6 ≤ n) (h : zINV I) (ih : ∀ I L c, zINV I → aw_W G mL_law 1242 [.ref 0, .ref 3, .ref 81, .int (nI i)] [] (zH n I L c) (102, 3856) Q) : aw_W G mL_law 620 [.ref 0, .ref 3, .ref 81, .int (nI i)] [] (zH n I L c) (102, 3856) Q := by
  refine aw_ro (fun hro => ?_)
  have h0 : I 0 = g_ro G 0 := (hro 0 (by decide)).2
  obtain ⟨r, ⟨z, rfl⟩, hr⟩ := st_needs G (n := n) h (g_ro G 0 (i + 1))
  refine aw_aload_n dL_law_620 rfl ?_
  refine aw_aload_n dL_law_621 rfl ?_
  refine aw_iload_n dL_law_622 rfl ?_
  refine aw_iconst (v := 1) dL_law_623 rfl ?_
  refine aw_iadd_n (a := i) (b := 1) dL_law_624 ?_
  refine aw_iald_n (j := i + 1) dL_law_625 rfl (Nat.le_of_ble_eq_true rfl) (by omega) (by omega) ?_
  refine aw_top (congrFun h0 _) ?_
  refine aw_V0c (As := [_]) dL_law_626 k12_81 rfl rfl rfl ⟨Nat.le_of_ble_eq_true rfl, Nat.le_of_ble_eq_true rfl⟩ (Nat.le_of_ble_eq_true rfl) ⟨⟨Nat.le_of_ble_eq_true rfl, Nat.le_of_ble_eq_true rfl⟩, ⟨Nat.le_of_ble_eq_true rfl, Nat.le_of_ble_eq_true rfl⟩⟩ ⟨rfl, rfl⟩ (hr L c) (fun v h2 hq => ?_)
  obtain ⟨rfl, I2, L2, c2, rfl, hM⟩ := hq
  refine aw_ro (fun hro2 => ?_)
  have h02 : I2 0 = g_ro G 0 := (hro2 0 (by decide)).2
  refine aw_aload_n dL_law_629 rfl ?_
  refine aw_aload_n dL_law_630 rfl ?_
  refine aw_iload_n dL_law_631 rfl ?_
  refine aw_iconst (v := 1) dL_law_632 rfl ?_
  refine aw_iadd_n (a := i) (b := 1) dL_law_633 ?_
  refine aw_iald_n (j := i + 1) dL_law_634 rfl (Nat.le_of_ble_eq_true rfl) (by omega) (by omega) ?_
  refine aw_top (congrFun h02 _) ?_
  refine aw_V0c (As := [_]) dL_law_635 k12_84 rfl rfl rfl ⟨Nat.le_of_ble_eq_true rfl, Nat.le_of_ble_eq_true rfl⟩ (Nat.le_of_ble_eq_true rfl) ⟨⟨Nat.le_of_ble_eq_true rfl, Nat.le_of_ble_eq_true rfl⟩, ⟨Nat.le_of_ble_eq_true rfl, Nat.le_of_ble_eq_true rfl⟩⟩ ⟨rfl, rfl⟩ (hM) (fun v h2 hq => ?_)
  obtain ⟨rfl, I3, L3, c3, rfl, hI3⟩ := hq
  refine aw_ic_eq (tgt := 1242) dL_law_638 (by decide) (fun c638 => ?_) (fun z => absurd z (fun q => q rfl))
  exact ih _ _ _ hI3
theorem lc_lend (G : aw_G) {n i : Nat} {I : Nat → Nat → Int32} {L : Nat → Nat → Int64} {c : Nat} {Q : Option Value → aw_H → Prop} (hn : n ≤ 3072) (hi : i + 6 ≤ n) (h : zINV I) (ih : ∀ I L c, zINV I → aw_W G mL_law 1242 [.ref 0, .ref 3, .ref 81, .int (nI i)] [] (zH n I L c) (102, 3856) Q) : aw_W G mL_law 643 [.ref 0, .ref 3, .ref 81, .int (nI i)] [] (zH n I L c) (102, 3856) Q := by
  refine aw_ro (fun hro => ?_)
  have h0 : I 0 = g_ro G 0 := (hro 0 (by decide)).2
  obtain ⟨r, ⟨z, rfl⟩, hr⟩ := st_lend G (n := n) h (g_ro G 0 (i + 1))
  refine aw_aload_n dL_law_643 rfl ?_
  refine aw_aload_n dL_law_644 rfl ?_
  refine aw_iload_n dL_law_645 rfl ?_
  refine aw_iconst (v := 1) dL_law_646 rfl ?_
  refine aw_iadd_n (a := i) (b := 1) dL_law_647 ?_
  refine aw_iald_n (j := i + 1) dL_law_648 rfl (Nat.le_of_ble_eq_true rfl) (by omega) (by omega) ?_
  refine aw_top (congrFun h0 _) ?_
  refine aw_V0c (As := [_]) dL_law_649 k12_85 rfl rfl rfl ⟨Nat.le_of_ble_eq_true rfl, Nat.le_of_ble_eq_true rfl⟩ (Nat.le_of_ble_eq_true rfl) ⟨⟨Nat.le_of_ble_eq_true rfl, Nat.le_of_ble_eq_true rfl⟩, ⟨Nat.le_of_ble_eq_true rfl, Nat.le_of_ble_eq_true rfl⟩⟩ ⟨rfl, rfl⟩ (hr L c) (fun v h2 hq => ?_)
  obtain ⟨rfl, I2, L2, c2, rfl, hM⟩ := hq
  refine aw_ro (fun hro2 => ?_)
  have h02 : I2 0 = g_ro G 0 := (hro2 0 (by decide)).2
  refine aw_aload_n dL_law_652 rfl ?_
  refine aw_aload_n dL_law_653 rfl ?_
  refine aw_iload_n dL_law_654 rfl ?_
  refine aw_iconst (v := 1) dL_law_655 rfl ?_
  refine aw_iadd_n (a := i) (b := 1) dL_law_656 ?_
  refine aw_iald_n (j := i + 1) dL_law_657 rfl (Nat.le_of_ble_eq_true rfl) (by omega) (by omega) ?_
  refine aw_top (congrFun h02 _) ?_
  refine aw_V0c (As := [_]) dL_law_658 k12_88 rfl rfl rfl ⟨Nat.le_of_ble_eq_true rfl, Nat.le_of_ble_eq_true rfl⟩ (Nat.le_of_ble_eq_true rfl) ⟨⟨Nat.le_of_ble_eq_true rfl, Nat.le_of_ble_eq_true rfl⟩, ⟨Nat.le_of_ble_eq_true rfl, Nat.le_of_ble_eq_true rfl⟩⟩ ⟨rfl, rfl⟩ (hM) (fun v h2 hq => ?_)
  obtain ⟨rfl, I3, L3, c3, rfl, hI3⟩ := hq
  refine aw_ic_eq (tgt := 1242) dL_law_661 (by decide) (fun c661 => ?_) (fun z => absurd z (fun q => q rfl))
  exact ih _ _ _ hI3
theorem lc_delay (G : aw_G) {n i : Nat} {I : Nat → Nat → Int32} {L : Nat → Nat → Int64} {c : Nat} {Q : Option Value → aw_H → Prop} (hn : n ≤ 3072) (hi : i + 6 ≤ n) (h : zINV I) (ih : ∀ I L c, zINV I → aw_W G mL_law 1242 [.ref 0, .ref 3, .ref 81, .int (nI i)] [] (zH n I L c) (102, 3856) Q) : aw_W G mL_law 666 [.ref 0, .ref 3, .ref 81, .int (nI i)] [] (zH n I L c) (102, 3856) Q := by
  refine aw_ro (fun hro => ?_)
  have h0 : I 0 = g_ro G 0 := (hro 0 (by decide)).2
  obtain ⟨r, ⟨z, rfl⟩, hr⟩ := st_delay G (n := n) h (g_ro G 0 (i + 1)) (g_ro G 0 (i + 2))
  refine aw_aload_n dL_law_666 rfl ?_
  refine aw_aload_n dL_law_667 rfl ?_
  refine aw_iload_n dL_law_668 rfl ?_
  refine aw_iconst (v := 1) dL_law_669 rfl ?_
  refine aw_iadd_n (a := i) (b := 1) dL_law_670 ?_
  refine aw_iald_n (j := i + 1) dL_law_671 rfl (Nat.le_of_ble_eq_true rfl) (by omega) (by omega) ?_
  refine aw_top (congrFun h0 _) ?_
  refine aw_aload_n dL_law_672 rfl ?_
  refine aw_iload_n dL_law_673 rfl ?_
  refine aw_iconst (v := 2) dL_law_674 rfl ?_
  refine aw_iadd_n (a := i) (b := 2) dL_law_675 ?_
  refine aw_iald_n (j := i + 2) dL_law_676 rfl (Nat.le_of_ble_eq_true rfl) (by omega) (by omega) ?_
  refine aw_top (congrFun h0 _) ?_
  refine aw_V0c (As := [_, _]) dL_law_677 k12_89 rfl rfl rfl ⟨Nat.le_of_ble_eq_true rfl, Nat.le_of_ble_eq_true rfl⟩ (Nat.le_of_ble_eq_true rfl) ⟨⟨Nat.le_of_ble_eq_true rfl, Nat.le_of_ble_eq_true rfl⟩, ⟨Nat.le_of_ble_eq_true rfl, Nat.le_of_ble_eq_true rfl⟩⟩ ⟨rfl, rfl⟩ (hr L c) (fun v h2 hq => ?_)
  obtain ⟨rfl, I2, L2, c2, rfl, hM⟩ := hq
  refine aw_ro (fun hro2 => ?_)
  have h02 : I2 0 = g_ro G 0 := (hro2 0 (by decide)).2
  refine aw_aload_n dL_law_680 rfl ?_
  refine aw_aload_n dL_law_681 rfl ?_
  refine aw_iload_n dL_law_682 rfl ?_
  refine aw_iconst (v := 1) dL_law_683 rfl ?_
  refine aw_iadd_n (a := i) (b := 1) dL_law_684 ?_
  refine aw_iald_n (j := i + 1) dL_law_685 rfl (Nat.le_of_ble_eq_true rfl) (by omega) (by omega) ?_
  refine aw_top (congrFun h02 _) ?_
  refine aw_aload_n dL_law_686 rfl ?_
  refine aw_iload_n dL_law_687 rfl ?_
  refine aw_iconst (v := 2) dL_law_688 rfl ?_
  refine aw_iadd_n (a := i) (b := 2) dL_law_689 ?_
  refine aw_iald_n (j := i + 2) dL_law_690 rfl (Nat.le_of_ble_eq_true rfl) (by omega) (by omega) ?_
  refine aw_top (congrFun h02 _) ?_
  refine aw_V0c (As := [_, _]) dL_law_691 k12_92 rfl rfl rfl ⟨Nat.le_of_ble_eq_true rfl, Nat.le_of_ble_eq_true rfl⟩ (Nat.le_of_ble_eq_true rfl) ⟨⟨Nat.le_of_ble_eq_true rfl, Nat.le_of_ble_eq_true rfl⟩, ⟨Nat.le_of_ble_eq_true rfl, Nat.le_of_ble_eq_true rfl⟩⟩ ⟨rfl, rfl⟩ (hM) (fun v h2 hq => ?_)
  obtain ⟨rfl, I3, L3, c3, rfl, hI3⟩ := hq
  refine aw_ic_eq (tgt := 1242) dL_law_694 (by decide) (fun c694 => ?_) (fun z => absurd z (fun q => q rfl))
  exact ih _ _ _ hI3
theorem lc_level (G : aw_G) {n i : Nat} {I : Nat → Nat → Int32} {L : Nat → Nat → Int64} {c : Nat} {Q : Option Value → aw_H → Prop} (hn : n ≤ 3072) (hi : i + 6 ≤ n) (h : zINV I) (ih : ∀ I L c, zINV I → aw_W G mL_law 1242 [.ref 0, .ref 3, .ref 81, .int (nI i)] [] (zH n I L c) (102, 3856) Q) : aw_W G mL_law 699 [.ref 0, .ref 3, .ref 81, .int (nI i)] [] (zH n I L c) (102, 3856) Q := by
  refine aw_ro (fun hro => ?_)
  have h0 : I 0 = g_ro G 0 := (hro 0 (by decide)).2
  obtain ⟨r, ⟨z, rfl⟩, hr⟩ := st_level G (n := n) h (g_ro G 0 (i + 1))
  refine aw_aload_n dL_law_699 rfl ?_
  refine aw_aload_n dL_law_700 rfl ?_
  refine aw_iload_n dL_law_701 rfl ?_
  refine aw_iconst (v := 1) dL_law_702 rfl ?_
  refine aw_iadd_n (a := i) (b := 1) dL_law_703 ?_
  refine aw_iald_n (j := i + 1) dL_law_704 rfl (Nat.le_of_ble_eq_true rfl) (by omega) (by omega) ?_
  refine aw_top (congrFun h0 _) ?_
  refine aw_V0c (As := [_]) dL_law_705 k12_93 rfl rfl rfl ⟨Nat.le_of_ble_eq_true rfl, Nat.le_of_ble_eq_true rfl⟩ (Nat.le_of_ble_eq_true rfl) ⟨⟨Nat.le_of_ble_eq_true rfl, Nat.le_of_ble_eq_true rfl⟩, ⟨Nat.le_of_ble_eq_true rfl, Nat.le_of_ble_eq_true rfl⟩⟩ ⟨rfl, rfl⟩ (hr L c) (fun v h2 hq => ?_)
  obtain ⟨rfl, I2, L2, c2, rfl, hM⟩ := hq
  refine aw_ro (fun hro2 => ?_)
  have h02 : I2 0 = g_ro G 0 := (hro2 0 (by decide)).2
  refine aw_aload_n dL_law_708 rfl ?_
  refine aw_aload_n dL_law_709 rfl ?_
  refine aw_iload_n dL_law_710 rfl ?_
  refine aw_iconst (v := 1) dL_law_711 rfl ?_
  refine aw_iadd_n (a := i) (b := 1) dL_law_712 ?_
  refine aw_iald_n (j := i + 1) dL_law_713 rfl (Nat.le_of_ble_eq_true rfl) (by omega) (by omega) ?_
  refine aw_top (congrFun h02 _) ?_
  refine aw_V0c (As := [_]) dL_law_714 k12_96 rfl rfl rfl ⟨Nat.le_of_ble_eq_true rfl, Nat.le_of_ble_eq_true rfl⟩ (Nat.le_of_ble_eq_true rfl) ⟨⟨Nat.le_of_ble_eq_true rfl, Nat.le_of_ble_eq_true rfl⟩, ⟨Nat.le_of_ble_eq_true rfl, Nat.le_of_ble_eq_true rfl⟩⟩ ⟨rfl, rfl⟩ (hM) (fun v h2 hq => ?_)
  obtain ⟨rfl, I3, L3, c3, rfl, hI3⟩ := hq
  refine aw_ic_eq (tgt := 1242) dL_law_717 (by decide) (fun c717 => ?_) (fun z => absurd z (fun q => q rfl))
  exact ih _ _ _ hI3
theorem lc_seen (G : aw_G) {n i : Nat} {I : Nat → Nat → Int32} {L : Nat → Nat → Int64} {c : Nat} {Q : Option Value → aw_H → Prop} (hn : n ≤ 3072) (hi : i + 6 ≤ n) (h : zINV I) (ih : ∀ I L c, zINV I → aw_W G mL_law 1242 [.ref 0, .ref 3, .ref 81, .int (nI i)] [] (zH n I L c) (102, 3856) Q) : aw_W G mL_law 722 [.ref 0, .ref 3, .ref 81, .int (nI i)] [] (zH n I L c) (102, 3856) Q := by
  refine aw_ro (fun hro => ?_)
  have h0 : I 0 = g_ro G 0 := (hro 0 (by decide)).2
  obtain ⟨r, ⟨z, rfl⟩, hr⟩ := st_seen G (n := n) h (g_ro G 0 (i + 1)) (g_ro G 0 (i + 2)) (g_ro G 0 (i + 3))
  refine aw_aload_n dL_law_722 rfl ?_
  refine aw_aload_n dL_law_723 rfl ?_
  refine aw_iload_n dL_law_724 rfl ?_
  refine aw_iconst (v := 1) dL_law_725 rfl ?_
  refine aw_iadd_n (a := i) (b := 1) dL_law_726 ?_
  refine aw_iald_n (j := i + 1) dL_law_727 rfl (Nat.le_of_ble_eq_true rfl) (by omega) (by omega) ?_
  refine aw_top (congrFun h0 _) ?_
  refine aw_aload_n dL_law_728 rfl ?_
  refine aw_iload_n dL_law_729 rfl ?_
  refine aw_iconst (v := 2) dL_law_730 rfl ?_
  refine aw_iadd_n (a := i) (b := 2) dL_law_731 ?_
  refine aw_iald_n (j := i + 2) dL_law_732 rfl (Nat.le_of_ble_eq_true rfl) (by omega) (by omega) ?_
  refine aw_top (congrFun h0 _) ?_
  refine aw_aload_n dL_law_733 rfl ?_
  refine aw_iload_n dL_law_734 rfl ?_
  refine aw_iconst (v := 3) dL_law_735 rfl ?_
  refine aw_iadd_n (a := i) (b := 3) dL_law_736 ?_
  refine aw_iald_n (j := i + 3) dL_law_737 rfl (Nat.le_of_ble_eq_true rfl) (by omega) (by omega) ?_
  refine aw_top (congrFun h0 _) ?_
  refine aw_V0c (As := [_, _, _]) dL_law_738 k12_97 rfl rfl rfl ⟨Nat.le_of_ble_eq_true rfl, Nat.le_of_ble_eq_true rfl⟩ (Nat.le_of_ble_eq_true rfl) ⟨⟨Nat.le_of_ble_eq_true rfl, Nat.le_of_ble_eq_true rfl⟩, ⟨Nat.le_of_ble_eq_true rfl, Nat.le_of_ble_eq_true rfl⟩⟩ ⟨rfl, rfl⟩ (hr L c) (fun v h2 hq => ?_)
  obtain ⟨rfl, I2, L2, c2, rfl, hM⟩ := hq
  refine aw_ro (fun hro2 => ?_)
  have h02 : I2 0 = g_ro G 0 := (hro2 0 (by decide)).2
  refine aw_aload_n dL_law_741 rfl ?_
  refine aw_aload_n dL_law_742 rfl ?_
  refine aw_iload_n dL_law_743 rfl ?_
  refine aw_iconst (v := 1) dL_law_744 rfl ?_
  refine aw_iadd_n (a := i) (b := 1) dL_law_745 ?_
  refine aw_iald_n (j := i + 1) dL_law_746 rfl (Nat.le_of_ble_eq_true rfl) (by omega) (by omega) ?_
  refine aw_top (congrFun h02 _) ?_
  refine aw_aload_n dL_law_747 rfl ?_
  refine aw_iload_n dL_law_748 rfl ?_
  refine aw_iconst (v := 2) dL_law_749 rfl ?_
  refine aw_iadd_n (a := i) (b := 2) dL_law_750 ?_
  refine aw_iald_n (j := i + 2) dL_law_751 rfl (Nat.le_of_ble_eq_true rfl) (by omega) (by omega) ?_
  refine aw_top (congrFun h02 _) ?_
  refine aw_aload_n dL_law_752 rfl ?_
  refine aw_iload_n dL_law_753 rfl ?_
  refine aw_iconst (v := 3) dL_law_754 rfl ?_
  refine aw_iadd_n (a := i) (b := 3) dL_law_755 ?_
  refine aw_iald_n (j := i + 3) dL_law_756 rfl (Nat.le_of_ble_eq_true rfl) (by omega) (by omega) ?_
  refine aw_top (congrFun h02 _) ?_
  refine aw_V0c (As := [_, _, _]) dL_law_757 k12_100 rfl rfl rfl ⟨Nat.le_of_ble_eq_true rfl, Nat.le_of_ble_eq_true rfl⟩ (Nat.le_of_ble_eq_true rfl) ⟨⟨Nat.le_of_ble_eq_true rfl, Nat.le_of_ble_eq_true rfl⟩, ⟨Nat.le_of_ble_eq_true rfl, Nat.le_of_ble_eq_true rfl⟩⟩ ⟨rfl, rfl⟩ (hM) (fun v h2 hq => ?_)
  obtain ⟨rfl, I3, L3, c3, rfl, hI3⟩ := hq
  refine aw_ic_eq (tgt := 1242) dL_law_760 (by decide) (fun c760 => ?_) (fun z => absurd z (fun q => q rfl))
  exact ih _ _ _ hI3
theorem lc_forget (G : aw_G) {n i : Nat} {I : Nat → Nat → Int32} {L : Nat → Nat → Int64} {c : Nat} {Q : Option Value → aw_H → Prop} (hn : n ≤ 3072) (hi : i + 6 ≤ n) (h : zINV I) (ih : ∀ I L c, zINV I → aw_W G mL_law 1242 [.ref 0, .ref 3, .ref 81, .int (nI i)] [] (zH n I L c) (102, 3856) Q) : aw_W G mL_law 765 [.ref 0, .ref 3, .ref 81, .int (nI i)] [] (zH n I L c) (102, 3856) Q := by
  refine aw_ro (fun hro => ?_)
  have h0 : I 0 = g_ro G 0 := (hro 0 (by decide)).2
  obtain ⟨r, ⟨z, rfl⟩, hr⟩ := st_forget G (n := n) h 
  refine aw_aload_n dL_law_765 rfl ?_
  refine aw_V0c (As := []) dL_law_766 k12_101 rfl rfl rfl ⟨Nat.le_of_ble_eq_true rfl, Nat.le_of_ble_eq_true rfl⟩ (Nat.le_of_ble_eq_true rfl) ⟨⟨Nat.le_of_ble_eq_true rfl, Nat.le_of_ble_eq_true rfl⟩, ⟨Nat.le_of_ble_eq_true rfl, Nat.le_of_ble_eq_true rfl⟩⟩ ⟨rfl, rfl⟩ (hr L c) (fun v h2 hq => ?_)
  obtain ⟨rfl, I2, L2, c2, rfl, hM⟩ := hq
  refine aw_ro (fun hro2 => ?_)
  have h02 : I2 0 = g_ro G 0 := (hro2 0 (by decide)).2
  refine aw_aload_n dL_law_769 rfl ?_
  refine aw_V0c (As := []) dL_law_770 k12_104 rfl rfl rfl ⟨Nat.le_of_ble_eq_true rfl, Nat.le_of_ble_eq_true rfl⟩ (Nat.le_of_ble_eq_true rfl) ⟨⟨Nat.le_of_ble_eq_true rfl, Nat.le_of_ble_eq_true rfl⟩, ⟨Nat.le_of_ble_eq_true rfl, Nat.le_of_ble_eq_true rfl⟩⟩ ⟨rfl, rfl⟩ (hM) (fun v h2 hq => ?_)
  obtain ⟨rfl, I3, L3, c3, rfl, hI3⟩ := hq
  refine aw_ic_eq (tgt := 1242) dL_law_773 (by decide) (fun c773 => ?_) (fun z => absurd z (fun q => q rfl))
  exact ih _ _ _ hI3
theorem lc_never (G : aw_G) {n i : Nat} {I : Nat → Nat → Int32} {L : Nat → Nat → Int64} {c : Nat} {Q : Option Value → aw_H → Prop} (hn : n ≤ 3072) (hi : i + 6 ≤ n) (h : zINV I) (ih : ∀ I L c, zINV I → aw_W G mL_law 1242 [.ref 0, .ref 3, .ref 81, .int (nI i)] [] (zH n I L c) (102, 3856) Q) : aw_W G mL_law 778 [.ref 0, .ref 3, .ref 81, .int (nI i)] [] (zH n I L c) (102, 3856) Q := by
  refine aw_ro (fun hro => ?_)
  have h0 : I 0 = g_ro G 0 := (hro 0 (by decide)).2
  obtain ⟨r, ⟨z, rfl⟩, hr⟩ := st_never G (n := n) h 
  refine aw_aload_n dL_law_778 rfl ?_
  refine aw_V0c (As := []) dL_law_779 k12_105 rfl rfl rfl ⟨Nat.le_of_ble_eq_true rfl, Nat.le_of_ble_eq_true rfl⟩ (Nat.le_of_ble_eq_true rfl) ⟨⟨Nat.le_of_ble_eq_true rfl, Nat.le_of_ble_eq_true rfl⟩, ⟨Nat.le_of_ble_eq_true rfl, Nat.le_of_ble_eq_true rfl⟩⟩ ⟨rfl, rfl⟩ (hr L c) (fun v h2 hq => ?_)
  obtain ⟨rfl, I2, L2, c2, rfl, hM⟩ := hq
  refine aw_ro (fun hro2 => ?_)
  have h02 : I2 0 = g_ro G 0 := (hro2 0 (by decide)).2
  refine aw_aload_n dL_law_782 rfl ?_
  refine aw_V0c (As := []) dL_law_783 k12_108 rfl rfl rfl ⟨Nat.le_of_ble_eq_true rfl, Nat.le_of_ble_eq_true rfl⟩ (Nat.le_of_ble_eq_true rfl) ⟨⟨Nat.le_of_ble_eq_true rfl, Nat.le_of_ble_eq_true rfl⟩, ⟨Nat.le_of_ble_eq_true rfl, Nat.le_of_ble_eq_true rfl⟩⟩ ⟨rfl, rfl⟩ (hM) (fun v h2 hq => ?_)
  obtain ⟨rfl, I3, L3, c3, rfl, hI3⟩ := hq
  refine aw_ic_eq (tgt := 1242) dL_law_786 (by decide) (fun c786 => ?_) (fun z => absurd z (fun q => q rfl))
  exact ih _ _ _ hI3
theorem lc_sort (G : aw_G) {n i : Nat} {I : Nat → Nat → Int32} {L : Nat → Nat → Int64} {c : Nat} {Q : Option Value → aw_H → Prop} (hn : n ≤ 3072) (hi : i + 6 ≤ n) (h : zINV I) (ih : ∀ I L c, zINV I → aw_W G mL_law 1242 [.ref 0, .ref 3, .ref 81, .int (nI i)] [] (zH n I L c) (102, 3856) Q) : aw_W G mL_law 791 [.ref 0, .ref 3, .ref 81, .int (nI i)] [] (zH n I L c) (102, 3856) Q := by
  refine aw_ro (fun hro => ?_)
  have h0 : I 0 = g_ro G 0 := (hro 0 (by decide)).2
  obtain ⟨r, ⟨z, rfl⟩, hr⟩ := st_sort G (n := n) h (g_ro G 0 (i + 1))
  refine aw_aload_n dL_law_791 rfl ?_
  refine aw_aload_n dL_law_792 rfl ?_
  refine aw_iload_n dL_law_793 rfl ?_
  refine aw_iconst (v := 1) dL_law_794 rfl ?_
  refine aw_iadd_n (a := i) (b := 1) dL_law_795 ?_
  refine aw_iald_n (j := i + 1) dL_law_796 rfl (Nat.le_of_ble_eq_true rfl) (by omega) (by omega) ?_
  refine aw_top (congrFun h0 _) ?_
  refine aw_V0c (As := [_]) dL_law_797 k12_109 rfl rfl rfl ⟨Nat.le_of_ble_eq_true rfl, Nat.le_of_ble_eq_true rfl⟩ (Nat.le_of_ble_eq_true rfl) ⟨⟨Nat.le_of_ble_eq_true rfl, Nat.le_of_ble_eq_true rfl⟩, ⟨Nat.le_of_ble_eq_true rfl, Nat.le_of_ble_eq_true rfl⟩⟩ ⟨rfl, rfl⟩ (hr L c) (fun v h2 hq => ?_)
  obtain ⟨rfl, I2, L2, c2, rfl, hM⟩ := hq
  refine aw_ro (fun hro2 => ?_)
  have h02 : I2 0 = g_ro G 0 := (hro2 0 (by decide)).2
  refine aw_aload_n dL_law_800 rfl ?_
  refine aw_aload_n dL_law_801 rfl ?_
  refine aw_iload_n dL_law_802 rfl ?_
  refine aw_iconst (v := 1) dL_law_803 rfl ?_
  refine aw_iadd_n (a := i) (b := 1) dL_law_804 ?_
  refine aw_iald_n (j := i + 1) dL_law_805 rfl (Nat.le_of_ble_eq_true rfl) (by omega) (by omega) ?_
  refine aw_top (congrFun h02 _) ?_
  refine aw_V0c (As := [_]) dL_law_806 k12_112 rfl rfl rfl ⟨Nat.le_of_ble_eq_true rfl, Nat.le_of_ble_eq_true rfl⟩ (Nat.le_of_ble_eq_true rfl) ⟨⟨Nat.le_of_ble_eq_true rfl, Nat.le_of_ble_eq_true rfl⟩, ⟨Nat.le_of_ble_eq_true rfl, Nat.le_of_ble_eq_true rfl⟩⟩ ⟨rfl, rfl⟩ (hM) (fun v h2 hq => ?_)
  obtain ⟨rfl, I3, L3, c3, rfl, hI3⟩ := hq
  refine aw_ic_eq (tgt := 1242) dL_law_809 (by decide) (fun c809 => ?_) (fun z => absurd z (fun q => q rfl))
  exact ih _ _ _ hI3
theorem lc_force (G : aw_G) {n i : Nat} {I : Nat → Nat → Int32} {L : Nat → Nat → Int64} {c : Nat} {Q : Option Value → aw_H → Prop} (hn : n ≤ 3072) (hi : i + 6 ≤ n) (h : zINV I) (ih : ∀ I L c, zINV I → aw_W G mL_law 1242 [.ref 0, .ref 3, .ref 81, .int (nI i)] [] (zH n I L c) (102, 3856) Q) : aw_W G mL_law 814 [.ref 0, .ref 3, .ref 81, .int (nI i)] [] (zH n I L c) (102, 3856) Q := by
  refine aw_ro (fun hro => ?_)
  have h0 : I 0 = g_ro G 0 := (hro 0 (by decide)).2
  obtain ⟨r, ⟨z, rfl⟩, hr⟩ := st_force G (n := n) h (g_ro G 0 (i + 1)) (g_ro G 0 (i + 2))
  refine aw_aload_n dL_law_814 rfl ?_
  refine aw_aload_n dL_law_815 rfl ?_
  refine aw_iload_n dL_law_816 rfl ?_
  refine aw_iconst (v := 1) dL_law_817 rfl ?_
  refine aw_iadd_n (a := i) (b := 1) dL_law_818 ?_
  refine aw_iald_n (j := i + 1) dL_law_819 rfl (Nat.le_of_ble_eq_true rfl) (by omega) (by omega) ?_
  refine aw_top (congrFun h0 _) ?_
  refine aw_aload_n dL_law_820 rfl ?_
  refine aw_iload_n dL_law_821 rfl ?_
  refine aw_iconst (v := 2) dL_law_822 rfl ?_
  refine aw_iadd_n (a := i) (b := 2) dL_law_823 ?_
  refine aw_iald_n (j := i + 2) dL_law_824 rfl (Nat.le_of_ble_eq_true rfl) (by omega) (by omega) ?_
  refine aw_top (congrFun h0 _) ?_
  refine aw_V0c (As := [_, _]) dL_law_825 k12_113 rfl rfl rfl ⟨Nat.le_of_ble_eq_true rfl, Nat.le_of_ble_eq_true rfl⟩ (Nat.le_of_ble_eq_true rfl) ⟨⟨Nat.le_of_ble_eq_true rfl, Nat.le_of_ble_eq_true rfl⟩, ⟨Nat.le_of_ble_eq_true rfl, Nat.le_of_ble_eq_true rfl⟩⟩ ⟨rfl, rfl⟩ (hr L c) (fun v h2 hq => ?_)
  obtain ⟨rfl, I2, L2, c2, rfl, hM⟩ := hq
  refine aw_ro (fun hro2 => ?_)
  have h02 : I2 0 = g_ro G 0 := (hro2 0 (by decide)).2
  refine aw_aload_n dL_law_828 rfl ?_
  refine aw_aload_n dL_law_829 rfl ?_
  refine aw_iload_n dL_law_830 rfl ?_
  refine aw_iconst (v := 1) dL_law_831 rfl ?_
  refine aw_iadd_n (a := i) (b := 1) dL_law_832 ?_
  refine aw_iald_n (j := i + 1) dL_law_833 rfl (Nat.le_of_ble_eq_true rfl) (by omega) (by omega) ?_
  refine aw_top (congrFun h02 _) ?_
  refine aw_aload_n dL_law_834 rfl ?_
  refine aw_iload_n dL_law_835 rfl ?_
  refine aw_iconst (v := 2) dL_law_836 rfl ?_
  refine aw_iadd_n (a := i) (b := 2) dL_law_837 ?_
  refine aw_iald_n (j := i + 2) dL_law_838 rfl (Nat.le_of_ble_eq_true rfl) (by omega) (by omega) ?_
  refine aw_top (congrFun h02 _) ?_
  refine aw_V0c (As := [_, _]) dL_law_839 k12_116 rfl rfl rfl ⟨Nat.le_of_ble_eq_true rfl, Nat.le_of_ble_eq_true rfl⟩ (Nat.le_of_ble_eq_true rfl) ⟨⟨Nat.le_of_ble_eq_true rfl, Nat.le_of_ble_eq_true rfl⟩, ⟨Nat.le_of_ble_eq_true rfl, Nat.le_of_ble_eq_true rfl⟩⟩ ⟨rfl, rfl⟩ (hM) (fun v h2 hq => ?_)
  obtain ⟨rfl, I3, L3, c3, rfl, hI3⟩ := hq
  refine aw_ic_eq (tgt := 1242) dL_law_842 (by decide) (fun c842 => ?_) (fun z => absurd z (fun q => q rfl))
  exact ih _ _ _ hI3
theorem lc_ask (G : aw_G) {n i : Nat} {I : Nat → Nat → Int32} {L : Nat → Nat → Int64} {c : Nat} {Q : Option Value → aw_H → Prop} (hn : n ≤ 3072) (hi : i + 6 ≤ n) (h : zINV I) (ih : ∀ I L c, zINV I → aw_W G mL_law 1242 [.ref 0, .ref 3, .ref 81, .int (nI i)] [] (zH n I L c) (102, 3856) Q) : aw_W G mL_law 847 [.ref 0, .ref 3, .ref 81, .int (nI i)] [] (zH n I L c) (102, 3856) Q := by
  refine aw_ro (fun hro => ?_)
  have h0 : I 0 = g_ro G 0 := (hro 0 (by decide)).2
  obtain ⟨r, ⟨z, rfl⟩, hr⟩ := st_ask G (n := n) h (g_ro G 0 (i + 1))
  refine aw_aload_n dL_law_847 rfl ?_
  refine aw_aload_n dL_law_848 rfl ?_
  refine aw_iload_n dL_law_849 rfl ?_
  refine aw_iconst (v := 1) dL_law_850 rfl ?_
  refine aw_iadd_n (a := i) (b := 1) dL_law_851 ?_
  refine aw_iald_n (j := i + 1) dL_law_852 rfl (Nat.le_of_ble_eq_true rfl) (by omega) (by omega) ?_
  refine aw_top (congrFun h0 _) ?_
  refine aw_V0c (As := [_]) dL_law_853 k12_117 rfl rfl rfl ⟨Nat.le_of_ble_eq_true rfl, Nat.le_of_ble_eq_true rfl⟩ (Nat.le_of_ble_eq_true rfl) ⟨⟨Nat.le_of_ble_eq_true rfl, Nat.le_of_ble_eq_true rfl⟩, ⟨Nat.le_of_ble_eq_true rfl, Nat.le_of_ble_eq_true rfl⟩⟩ ⟨rfl, rfl⟩ (hr L c) (fun v h2 hq => ?_)
  obtain ⟨rfl, I2, L2, c2, rfl, hM⟩ := hq
  refine aw_ro (fun hro2 => ?_)
  have h02 : I2 0 = g_ro G 0 := (hro2 0 (by decide)).2
  refine aw_aload_n dL_law_856 rfl ?_
  refine aw_aload_n dL_law_857 rfl ?_
  refine aw_iload_n dL_law_858 rfl ?_
  refine aw_iconst (v := 1) dL_law_859 rfl ?_
  refine aw_iadd_n (a := i) (b := 1) dL_law_860 ?_
  refine aw_iald_n (j := i + 1) dL_law_861 rfl (Nat.le_of_ble_eq_true rfl) (by omega) (by omega) ?_
  refine aw_top (congrFun h02 _) ?_
  refine aw_V0c (As := [_]) dL_law_862 k12_120 rfl rfl rfl ⟨Nat.le_of_ble_eq_true rfl, Nat.le_of_ble_eq_true rfl⟩ (Nat.le_of_ble_eq_true rfl) ⟨⟨Nat.le_of_ble_eq_true rfl, Nat.le_of_ble_eq_true rfl⟩, ⟨Nat.le_of_ble_eq_true rfl, Nat.le_of_ble_eq_true rfl⟩⟩ ⟨rfl, rfl⟩ (hM) (fun v h2 hq => ?_)
  obtain ⟨rfl, I3, L3, c3, rfl, hI3⟩ := hq
  refine aw_ic_eq (tgt := 1242) dL_law_865 (by decide) (fun c865 => ?_) (fun z => absurd z (fun q => q rfl))
  exact ih _ _ _ hI3
theorem lc_rumour (G : aw_G) {n i : Nat} {I : Nat → Nat → Int32} {L : Nat → Nat → Int64} {c : Nat} {Q : Option Value → aw_H → Prop} (hn : n ≤ 3072) (hi : i + 6 ≤ n) (h : zINV I) (ih : ∀ I L c, zINV I → aw_W G mL_law 1242 [.ref 0, .ref 3, .ref 81, .int (nI i)] [] (zH n I L c) (102, 3856) Q) : aw_W G mL_law 870 [.ref 0, .ref 3, .ref 81, .int (nI i)] [] (zH n I L c) (102, 3856) Q := by
  refine aw_ro (fun hro => ?_)
  have h0 : I 0 = g_ro G 0 := (hro 0 (by decide)).2
  obtain ⟨r, ⟨z, rfl⟩, hr⟩ := st_rumour G (n := n) h (g_ro G 0 (i + 1)) (g_ro G 0 (i + 2)) (g_ro G 0 (i + 3))
  refine aw_aload_n dL_law_870 rfl ?_
  refine aw_aload_n dL_law_871 rfl ?_
  refine aw_iload_n dL_law_872 rfl ?_
  refine aw_iconst (v := 1) dL_law_873 rfl ?_
  refine aw_iadd_n (a := i) (b := 1) dL_law_874 ?_
  refine aw_iald_n (j := i + 1) dL_law_875 rfl (Nat.le_of_ble_eq_true rfl) (by omega) (by omega) ?_
  refine aw_top (congrFun h0 _) ?_
  refine aw_aload_n dL_law_876 rfl ?_
  refine aw_iload_n dL_law_877 rfl ?_
  refine aw_iconst (v := 2) dL_law_878 rfl ?_
  refine aw_iadd_n (a := i) (b := 2) dL_law_879 ?_
  refine aw_iald_n (j := i + 2) dL_law_880 rfl (Nat.le_of_ble_eq_true rfl) (by omega) (by omega) ?_
  refine aw_top (congrFun h0 _) ?_
  refine aw_aload_n dL_law_881 rfl ?_
  refine aw_iload_n dL_law_882 rfl ?_
  refine aw_iconst (v := 3) dL_law_883 rfl ?_
  refine aw_iadd_n (a := i) (b := 3) dL_law_884 ?_
  refine aw_iald_n (j := i + 3) dL_law_885 rfl (Nat.le_of_ble_eq_true rfl) (by omega) (by omega) ?_
  refine aw_top (congrFun h0 _) ?_
  refine aw_V0c (As := [_, _, _]) dL_law_886 k12_121 rfl rfl rfl ⟨Nat.le_of_ble_eq_true rfl, Nat.le_of_ble_eq_true rfl⟩ (Nat.le_of_ble_eq_true rfl) ⟨⟨Nat.le_of_ble_eq_true rfl, Nat.le_of_ble_eq_true rfl⟩, ⟨Nat.le_of_ble_eq_true rfl, Nat.le_of_ble_eq_true rfl⟩⟩ ⟨rfl, rfl⟩ (hr L c) (fun v h2 hq => ?_)
  obtain ⟨rfl, I2, L2, c2, rfl, hM⟩ := hq
  refine aw_ro (fun hro2 => ?_)
  have h02 : I2 0 = g_ro G 0 := (hro2 0 (by decide)).2
  refine aw_aload_n dL_law_889 rfl ?_
  refine aw_aload_n dL_law_890 rfl ?_
  refine aw_iload_n dL_law_891 rfl ?_
  refine aw_iconst (v := 1) dL_law_892 rfl ?_
  refine aw_iadd_n (a := i) (b := 1) dL_law_893 ?_
  refine aw_iald_n (j := i + 1) dL_law_894 rfl (Nat.le_of_ble_eq_true rfl) (by omega) (by omega) ?_
  refine aw_top (congrFun h02 _) ?_
  refine aw_aload_n dL_law_895 rfl ?_
  refine aw_iload_n dL_law_896 rfl ?_
  refine aw_iconst (v := 2) dL_law_897 rfl ?_
  refine aw_iadd_n (a := i) (b := 2) dL_law_898 ?_
  refine aw_iald_n (j := i + 2) dL_law_899 rfl (Nat.le_of_ble_eq_true rfl) (by omega) (by omega) ?_
  refine aw_top (congrFun h02 _) ?_
  refine aw_aload_n dL_law_900 rfl ?_
  refine aw_iload_n dL_law_901 rfl ?_
  refine aw_iconst (v := 3) dL_law_902 rfl ?_
  refine aw_iadd_n (a := i) (b := 3) dL_law_903 ?_
  refine aw_iald_n (j := i + 3) dL_law_904 rfl (Nat.le_of_ble_eq_true rfl) (by omega) (by omega) ?_
  refine aw_top (congrFun h02 _) ?_
  refine aw_V0c (As := [_, _, _]) dL_law_905 k12_125 rfl rfl rfl ⟨Nat.le_of_ble_eq_true rfl, Nat.le_of_ble_eq_true rfl⟩ (Nat.le_of_ble_eq_true rfl) ⟨⟨Nat.le_of_ble_eq_true rfl, Nat.le_of_ble_eq_true rfl⟩, ⟨Nat.le_of_ble_eq_true rfl, Nat.le_of_ble_eq_true rfl⟩⟩ ⟨rfl, rfl⟩ (hM) (fun v h2 hq => ?_)
  obtain ⟨rfl, I3, L3, c3, rfl, hI3⟩ := hq
  refine aw_lcmp dL_law_908 ?_
  refine aw_if_eq (tgt := 1242) dL_law_909 (by decide) (fun c909 => ?_) (fun z => absurd z (fun q => q (lg_self _)))
  exact ih _ _ _ hI3
theorem lc_market (G : aw_G) {n i : Nat} {I : Nat → Nat → Int32} {L : Nat → Nat → Int64} {c : Nat} {Q : Option Value → aw_H → Prop} (hn : n ≤ 3072) (hi : i + 6 ≤ n) (h : zINV I) (ih : ∀ I L c, zINV I → aw_W G mL_law 1242 [.ref 0, .ref 3, .ref 81, .int (nI i)] [] (zH n I L c) (102, 3856) Q) : aw_W G mL_law 914 [.ref 0, .ref 3, .ref 81, .int (nI i)] [] (zH n I L c) (102, 3856) Q := by
  refine aw_ro (fun hro => ?_)
  have h0 : I 0 = g_ro G 0 := (hro 0 (by decide)).2
  obtain ⟨r, ⟨z, rfl⟩, hr⟩ := st_market G (n := n) h (g_ro G 0 (i + 1)) (g_ro G 0 (i + 2))
  refine aw_aload_n dL_law_914 rfl ?_
  refine aw_aload_n dL_law_915 rfl ?_
  refine aw_iload_n dL_law_916 rfl ?_
  refine aw_iconst (v := 1) dL_law_917 rfl ?_
  refine aw_iadd_n (a := i) (b := 1) dL_law_918 ?_
  refine aw_iald_n (j := i + 1) dL_law_919 rfl (Nat.le_of_ble_eq_true rfl) (by omega) (by omega) ?_
  refine aw_top (congrFun h0 _) ?_
  refine aw_aload_n dL_law_920 rfl ?_
  refine aw_iload_n dL_law_921 rfl ?_
  refine aw_iconst (v := 2) dL_law_922 rfl ?_
  refine aw_iadd_n (a := i) (b := 2) dL_law_923 ?_
  refine aw_iald_n (j := i + 2) dL_law_924 rfl (Nat.le_of_ble_eq_true rfl) (by omega) (by omega) ?_
  refine aw_top (congrFun h0 _) ?_
  refine aw_V0c (As := [_, _]) dL_law_925 k12_126 rfl rfl rfl ⟨Nat.le_of_ble_eq_true rfl, Nat.le_of_ble_eq_true rfl⟩ (Nat.le_of_ble_eq_true rfl) ⟨⟨Nat.le_of_ble_eq_true rfl, Nat.le_of_ble_eq_true rfl⟩, ⟨Nat.le_of_ble_eq_true rfl, Nat.le_of_ble_eq_true rfl⟩⟩ ⟨rfl, rfl⟩ (hr L c) (fun v h2 hq => ?_)
  obtain ⟨rfl, I2, L2, c2, rfl, hM⟩ := hq
  refine aw_ro (fun hro2 => ?_)
  have h02 : I2 0 = g_ro G 0 := (hro2 0 (by decide)).2
  refine aw_aload_n dL_law_928 rfl ?_
  refine aw_aload_n dL_law_929 rfl ?_
  refine aw_iload_n dL_law_930 rfl ?_
  refine aw_iconst (v := 1) dL_law_931 rfl ?_
  refine aw_iadd_n (a := i) (b := 1) dL_law_932 ?_
  refine aw_iald_n (j := i + 1) dL_law_933 rfl (Nat.le_of_ble_eq_true rfl) (by omega) (by omega) ?_
  refine aw_top (congrFun h02 _) ?_
  refine aw_aload_n dL_law_934 rfl ?_
  refine aw_iload_n dL_law_935 rfl ?_
  refine aw_iconst (v := 2) dL_law_936 rfl ?_
  refine aw_iadd_n (a := i) (b := 2) dL_law_937 ?_
  refine aw_iald_n (j := i + 2) dL_law_938 rfl (Nat.le_of_ble_eq_true rfl) (by omega) (by omega) ?_
  refine aw_top (congrFun h02 _) ?_
  refine aw_V0c (As := [_, _]) dL_law_939 k12_129 rfl rfl rfl ⟨Nat.le_of_ble_eq_true rfl, Nat.le_of_ble_eq_true rfl⟩ (Nat.le_of_ble_eq_true rfl) ⟨⟨Nat.le_of_ble_eq_true rfl, Nat.le_of_ble_eq_true rfl⟩, ⟨Nat.le_of_ble_eq_true rfl, Nat.le_of_ble_eq_true rfl⟩⟩ ⟨rfl, rfl⟩ (hM) (fun v h2 hq => ?_)
  obtain ⟨rfl, I3, L3, c3, rfl, hI3⟩ := hq
  refine aw_ic_eq (tgt := 1242) dL_law_942 (by decide) (fun c942 => ?_) (fun z => absurd z (fun q => q rfl))
  exact ih _ _ _ hI3
theorem lc_sheet (G : aw_G) {n i : Nat} {I : Nat → Nat → Int32} {L : Nat → Nat → Int64} {c : Nat} {Q : Option Value → aw_H → Prop} (hn : n ≤ 3072) (hi : i + 6 ≤ n) (h : zINV I) (ih : ∀ I L c, zINV I → aw_W G mL_law 1242 [.ref 0, .ref 3, .ref 81, .int (nI i)] [] (zH n I L c) (102, 3856) Q) : aw_W G mL_law 947 [.ref 0, .ref 3, .ref 81, .int (nI i)] [] (zH n I L c) (102, 3856) Q := by
  refine aw_ro (fun hro => ?_)
  have h0 : I 0 = g_ro G 0 := (hro 0 (by decide)).2
  obtain ⟨r, ⟨z, rfl⟩, hr⟩ := st_sheet G (n := n) h (g_ro G 0 (i + 1)) (g_ro G 0 (i + 2)) (g_ro G 0 (i + 3))
  refine aw_aload_n dL_law_947 rfl ?_
  refine aw_aload_n dL_law_948 rfl ?_
  refine aw_iload_n dL_law_949 rfl ?_
  refine aw_iconst (v := 1) dL_law_950 rfl ?_
  refine aw_iadd_n (a := i) (b := 1) dL_law_951 ?_
  refine aw_iald_n (j := i + 1) dL_law_952 rfl (Nat.le_of_ble_eq_true rfl) (by omega) (by omega) ?_
  refine aw_top (congrFun h0 _) ?_
  refine aw_aload_n dL_law_953 rfl ?_
  refine aw_iload_n dL_law_954 rfl ?_
  refine aw_iconst (v := 2) dL_law_955 rfl ?_
  refine aw_iadd_n (a := i) (b := 2) dL_law_956 ?_
  refine aw_iald_n (j := i + 2) dL_law_957 rfl (Nat.le_of_ble_eq_true rfl) (by omega) (by omega) ?_
  refine aw_top (congrFun h0 _) ?_
  refine aw_aload_n dL_law_958 rfl ?_
  refine aw_iload_n dL_law_959 rfl ?_
  refine aw_iconst (v := 3) dL_law_960 rfl ?_
  refine aw_iadd_n (a := i) (b := 3) dL_law_961 ?_
  refine aw_iald_n (j := i + 3) dL_law_962 rfl (Nat.le_of_ble_eq_true rfl) (by omega) (by omega) ?_
  refine aw_top (congrFun h0 _) ?_
  refine aw_V0c (As := [_, _, _]) dL_law_963 k12_130 rfl rfl rfl ⟨Nat.le_of_ble_eq_true rfl, Nat.le_of_ble_eq_true rfl⟩ (Nat.le_of_ble_eq_true rfl) ⟨⟨Nat.le_of_ble_eq_true rfl, Nat.le_of_ble_eq_true rfl⟩, ⟨Nat.le_of_ble_eq_true rfl, Nat.le_of_ble_eq_true rfl⟩⟩ ⟨rfl, rfl⟩ (hr L c) (fun v h2 hq => ?_)
  obtain ⟨rfl, I2, L2, c2, rfl, hM⟩ := hq
  refine aw_ro (fun hro2 => ?_)
  have h02 : I2 0 = g_ro G 0 := (hro2 0 (by decide)).2
  refine aw_aload_n dL_law_966 rfl ?_
  refine aw_aload_n dL_law_967 rfl ?_
  refine aw_iload_n dL_law_968 rfl ?_
  refine aw_iconst (v := 1) dL_law_969 rfl ?_
  refine aw_iadd_n (a := i) (b := 1) dL_law_970 ?_
  refine aw_iald_n (j := i + 1) dL_law_971 rfl (Nat.le_of_ble_eq_true rfl) (by omega) (by omega) ?_
  refine aw_top (congrFun h02 _) ?_
  refine aw_aload_n dL_law_972 rfl ?_
  refine aw_iload_n dL_law_973 rfl ?_
  refine aw_iconst (v := 2) dL_law_974 rfl ?_
  refine aw_iadd_n (a := i) (b := 2) dL_law_975 ?_
  refine aw_iald_n (j := i + 2) dL_law_976 rfl (Nat.le_of_ble_eq_true rfl) (by omega) (by omega) ?_
  refine aw_top (congrFun h02 _) ?_
  refine aw_aload_n dL_law_977 rfl ?_
  refine aw_iload_n dL_law_978 rfl ?_
  refine aw_iconst (v := 3) dL_law_979 rfl ?_
  refine aw_iadd_n (a := i) (b := 3) dL_law_980 ?_
  refine aw_iald_n (j := i + 3) dL_law_981 rfl (Nat.le_of_ble_eq_true rfl) (by omega) (by omega) ?_
  refine aw_top (congrFun h02 _) ?_
  refine aw_V0c (As := [_, _, _]) dL_law_982 k12_133 rfl rfl rfl ⟨Nat.le_of_ble_eq_true rfl, Nat.le_of_ble_eq_true rfl⟩ (Nat.le_of_ble_eq_true rfl) ⟨⟨Nat.le_of_ble_eq_true rfl, Nat.le_of_ble_eq_true rfl⟩, ⟨Nat.le_of_ble_eq_true rfl, Nat.le_of_ble_eq_true rfl⟩⟩ ⟨rfl, rfl⟩ (hM) (fun v h2 hq => ?_)
  obtain ⟨rfl, I3, L3, c3, rfl, hI3⟩ := hq
  refine aw_ic_eq (tgt := 1242) dL_law_985 (by decide) (fun c985 => ?_) (fun z => absurd z (fun q => q rfl))
  exact ih _ _ _ hI3
theorem lc_lose (G : aw_G) {n i : Nat} {I : Nat → Nat → Int32} {L : Nat → Nat → Int64} {c : Nat} {Q : Option Value → aw_H → Prop} (hn : n ≤ 3072) (hi : i + 6 ≤ n) (h : zINV I) (ih : ∀ I L c, zINV I → aw_W G mL_law 1242 [.ref 0, .ref 3, .ref 81, .int (nI i)] [] (zH n I L c) (102, 3856) Q) : aw_W G mL_law 990 [.ref 0, .ref 3, .ref 81, .int (nI i)] [] (zH n I L c) (102, 3856) Q := by
  refine aw_ro (fun hro => ?_)
  have h0 : I 0 = g_ro G 0 := (hro 0 (by decide)).2
  obtain ⟨r, ⟨z, rfl⟩, hr⟩ := st_lose G (n := n) h (g_ro G 0 (i + 1))
  refine aw_aload_n dL_law_990 rfl ?_
  refine aw_aload_n dL_law_991 rfl ?_
  refine aw_iload_n dL_law_992 rfl ?_
  refine aw_iconst (v := 1) dL_law_993 rfl ?_
  refine aw_iadd_n (a := i) (b := 1) dL_law_994 ?_
  refine aw_iald_n (j := i + 1) dL_law_995 rfl (Nat.le_of_ble_eq_true rfl) (by omega) (by omega) ?_
  refine aw_top (congrFun h0 _) ?_
  refine aw_V0c (As := [_]) dL_law_996 k12_134 rfl rfl rfl ⟨Nat.le_of_ble_eq_true rfl, Nat.le_of_ble_eq_true rfl⟩ (Nat.le_of_ble_eq_true rfl) ⟨⟨Nat.le_of_ble_eq_true rfl, Nat.le_of_ble_eq_true rfl⟩, ⟨Nat.le_of_ble_eq_true rfl, Nat.le_of_ble_eq_true rfl⟩⟩ ⟨rfl, rfl⟩ (hr L c) (fun v h2 hq => ?_)
  obtain ⟨rfl, I2, L2, c2, rfl, hM⟩ := hq
  refine aw_ro (fun hro2 => ?_)
  have h02 : I2 0 = g_ro G 0 := (hro2 0 (by decide)).2
  refine aw_aload_n dL_law_999 rfl ?_
  refine aw_aload_n dL_law_1000 rfl ?_
  refine aw_iload_n dL_law_1001 rfl ?_
  refine aw_iconst (v := 1) dL_law_1002 rfl ?_
  refine aw_iadd_n (a := i) (b := 1) dL_law_1003 ?_
  refine aw_iald_n (j := i + 1) dL_law_1004 rfl (Nat.le_of_ble_eq_true rfl) (by omega) (by omega) ?_
  refine aw_top (congrFun h02 _) ?_
  refine aw_V0c (As := [_]) dL_law_1005 k12_137 rfl rfl rfl ⟨Nat.le_of_ble_eq_true rfl, Nat.le_of_ble_eq_true rfl⟩ (Nat.le_of_ble_eq_true rfl) ⟨⟨Nat.le_of_ble_eq_true rfl, Nat.le_of_ble_eq_true rfl⟩, ⟨Nat.le_of_ble_eq_true rfl, Nat.le_of_ble_eq_true rfl⟩⟩ ⟨rfl, rfl⟩ (hM) (fun v h2 hq => ?_)
  obtain ⟨rfl, I3, L3, c3, rfl, hI3⟩ := hq
  refine aw_ic_eq (tgt := 1242) dL_law_1008 (by decide) (fun c1008 => ?_) (fun z => absurd z (fun q => q rfl))
  exact ih _ _ _ hI3
theorem lc_lay (G : aw_G) {n i : Nat} {I : Nat → Nat → Int32} {L : Nat → Nat → Int64} {c : Nat} {Q : Option Value → aw_H → Prop} (hn : n ≤ 3072) (hi : i + 6 ≤ n) (h : zINV I) (ih : ∀ I L c, zINV I → aw_W G mL_law 1242 [.ref 0, .ref 3, .ref 81, .int (nI i)] [] (zH n I L c) (102, 3856) Q) : aw_W G mL_law 1013 [.ref 0, .ref 3, .ref 81, .int (nI i)] [] (zH n I L c) (102, 3856) Q := by
  refine aw_ro (fun hro => ?_)
  have h0 : I 0 = g_ro G 0 := (hro 0 (by decide)).2
  obtain ⟨r, ⟨z, rfl⟩, hr⟩ := st_lay G (n := n) h (g_ro G 0 (i + 1)) (g_ro G 0 (i + 2)) (g_ro G 0 (i + 3)) (g_ro G 0 (i + 4))
  refine aw_aload_n dL_law_1013 rfl ?_
  refine aw_aload_n dL_law_1014 rfl ?_
  refine aw_iload_n dL_law_1015 rfl ?_
  refine aw_iconst (v := 1) dL_law_1016 rfl ?_
  refine aw_iadd_n (a := i) (b := 1) dL_law_1017 ?_
  refine aw_iald_n (j := i + 1) dL_law_1018 rfl (Nat.le_of_ble_eq_true rfl) (by omega) (by omega) ?_
  refine aw_top (congrFun h0 _) ?_
  refine aw_aload_n dL_law_1019 rfl ?_
  refine aw_iload_n dL_law_1020 rfl ?_
  refine aw_iconst (v := 2) dL_law_1021 rfl ?_
  refine aw_iadd_n (a := i) (b := 2) dL_law_1022 ?_
  refine aw_iald_n (j := i + 2) dL_law_1023 rfl (Nat.le_of_ble_eq_true rfl) (by omega) (by omega) ?_
  refine aw_top (congrFun h0 _) ?_
  refine aw_aload_n dL_law_1024 rfl ?_
  refine aw_iload_n dL_law_1025 rfl ?_
  refine aw_iconst (v := 3) dL_law_1026 rfl ?_
  refine aw_iadd_n (a := i) (b := 3) dL_law_1027 ?_
  refine aw_iald_n (j := i + 3) dL_law_1028 rfl (Nat.le_of_ble_eq_true rfl) (by omega) (by omega) ?_
  refine aw_top (congrFun h0 _) ?_
  refine aw_aload_n dL_law_1029 rfl ?_
  refine aw_iload_n dL_law_1030 rfl ?_
  refine aw_iconst (v := 4) dL_law_1031 rfl ?_
  refine aw_iadd_n (a := i) (b := 4) dL_law_1032 ?_
  refine aw_iald_n (j := i + 4) dL_law_1033 rfl (Nat.le_of_ble_eq_true rfl) (by omega) (by omega) ?_
  refine aw_top (congrFun h0 _) ?_
  refine aw_V0c (As := [_, _, _, _]) dL_law_1034 k12_138 rfl rfl rfl ⟨Nat.le_of_ble_eq_true rfl, Nat.le_of_ble_eq_true rfl⟩ (Nat.le_of_ble_eq_true rfl) ⟨⟨Nat.le_of_ble_eq_true rfl, Nat.le_of_ble_eq_true rfl⟩, ⟨Nat.le_of_ble_eq_true rfl, Nat.le_of_ble_eq_true rfl⟩⟩ ⟨rfl, rfl⟩ (hr L c) (fun v h2 hq => ?_)
  obtain ⟨rfl, I2, L2, c2, rfl, hM⟩ := hq
  refine aw_ro (fun hro2 => ?_)
  have h02 : I2 0 = g_ro G 0 := (hro2 0 (by decide)).2
  refine aw_aload_n dL_law_1037 rfl ?_
  refine aw_aload_n dL_law_1038 rfl ?_
  refine aw_iload_n dL_law_1039 rfl ?_
  refine aw_iconst (v := 1) dL_law_1040 rfl ?_
  refine aw_iadd_n (a := i) (b := 1) dL_law_1041 ?_
  refine aw_iald_n (j := i + 1) dL_law_1042 rfl (Nat.le_of_ble_eq_true rfl) (by omega) (by omega) ?_
  refine aw_top (congrFun h02 _) ?_
  refine aw_aload_n dL_law_1043 rfl ?_
  refine aw_iload_n dL_law_1044 rfl ?_
  refine aw_iconst (v := 2) dL_law_1045 rfl ?_
  refine aw_iadd_n (a := i) (b := 2) dL_law_1046 ?_
  refine aw_iald_n (j := i + 2) dL_law_1047 rfl (Nat.le_of_ble_eq_true rfl) (by omega) (by omega) ?_
  refine aw_top (congrFun h02 _) ?_
  refine aw_aload_n dL_law_1048 rfl ?_
  refine aw_iload_n dL_law_1049 rfl ?_
  refine aw_iconst (v := 3) dL_law_1050 rfl ?_
  refine aw_iadd_n (a := i) (b := 3) dL_law_1051 ?_
  refine aw_iald_n (j := i + 3) dL_law_1052 rfl (Nat.le_of_ble_eq_true rfl) (by omega) (by omega) ?_
  refine aw_top (congrFun h02 _) ?_
  refine aw_aload_n dL_law_1053 rfl ?_
  refine aw_iload_n dL_law_1054 rfl ?_
  refine aw_iconst (v := 4) dL_law_1055 rfl ?_
  refine aw_iadd_n (a := i) (b := 4) dL_law_1056 ?_
  refine aw_iald_n (j := i + 4) dL_law_1057 rfl (Nat.le_of_ble_eq_true rfl) (by omega) (by omega) ?_
  refine aw_top (congrFun h02 _) ?_
  refine aw_V0c (As := [_, _, _, _]) dL_law_1058 k12_142 rfl rfl rfl ⟨Nat.le_of_ble_eq_true rfl, Nat.le_of_ble_eq_true rfl⟩ (Nat.le_of_ble_eq_true rfl) ⟨⟨Nat.le_of_ble_eq_true rfl, Nat.le_of_ble_eq_true rfl⟩, ⟨Nat.le_of_ble_eq_true rfl, Nat.le_of_ble_eq_true rfl⟩⟩ ⟨rfl, rfl⟩ (hM) (fun v h2 hq => ?_)
  obtain ⟨rfl, I3, L3, c3, rfl, hI3⟩ := hq
  refine aw_ic_eq (tgt := 1242) dL_law_1061 (by decide) (fun c1061 => ?_) (fun z => absurd z (fun q => q rfl))
  exact ih _ _ _ hI3
theorem lc_get (G : aw_G) {n i : Nat} {I : Nat → Nat → Int32} {L : Nat → Nat → Int64} {c : Nat} {Q : Option Value → aw_H → Prop} (hn : n ≤ 3072) (hi : i + 6 ≤ n) (h : zINV I) (ih : ∀ I L c, zINV I → aw_W G mL_law 1242 [.ref 0, .ref 3, .ref 81, .int (nI i)] [] (zH n I L c) (102, 3856) Q) : aw_W G mL_law 1066 [.ref 0, .ref 3, .ref 81, .int (nI i)] [] (zH n I L c) (102, 3856) Q := by
  refine aw_ro (fun hro => ?_)
  have h0 : I 0 = g_ro G 0 := (hro 0 (by decide)).2
  obtain ⟨r, ⟨z, rfl⟩, hr⟩ := st_get G (n := n) h (g_ro G 0 (i + 1)) (g_ro G 0 (i + 2)) (g_ro G 0 (i + 3))
  refine aw_aload_n dL_law_1066 rfl ?_
  refine aw_aload_n dL_law_1067 rfl ?_
  refine aw_iload_n dL_law_1068 rfl ?_
  refine aw_iconst (v := 1) dL_law_1069 rfl ?_
  refine aw_iadd_n (a := i) (b := 1) dL_law_1070 ?_
  refine aw_iald_n (j := i + 1) dL_law_1071 rfl (Nat.le_of_ble_eq_true rfl) (by omega) (by omega) ?_
  refine aw_top (congrFun h0 _) ?_
  refine aw_aload_n dL_law_1072 rfl ?_
  refine aw_iload_n dL_law_1073 rfl ?_
  refine aw_iconst (v := 2) dL_law_1074 rfl ?_
  refine aw_iadd_n (a := i) (b := 2) dL_law_1075 ?_
  refine aw_iald_n (j := i + 2) dL_law_1076 rfl (Nat.le_of_ble_eq_true rfl) (by omega) (by omega) ?_
  refine aw_top (congrFun h0 _) ?_
  refine aw_aload_n dL_law_1077 rfl ?_
  refine aw_iload_n dL_law_1078 rfl ?_
  refine aw_iconst (v := 3) dL_law_1079 rfl ?_
  refine aw_iadd_n (a := i) (b := 3) dL_law_1080 ?_
  refine aw_iald_n (j := i + 3) dL_law_1081 rfl (Nat.le_of_ble_eq_true rfl) (by omega) (by omega) ?_
  refine aw_top (congrFun h0 _) ?_
  refine aw_V0c (As := [_, _, _]) dL_law_1082 k12_143 rfl rfl rfl ⟨Nat.le_of_ble_eq_true rfl, Nat.le_of_ble_eq_true rfl⟩ (Nat.le_of_ble_eq_true rfl) ⟨⟨Nat.le_of_ble_eq_true rfl, Nat.le_of_ble_eq_true rfl⟩, ⟨Nat.le_of_ble_eq_true rfl, Nat.le_of_ble_eq_true rfl⟩⟩ ⟨rfl, rfl⟩ (hr L c) (fun v h2 hq => ?_)
  obtain ⟨rfl, I2, L2, c2, rfl, hM⟩ := hq
  refine aw_ro (fun hro2 => ?_)
  have h02 : I2 0 = g_ro G 0 := (hro2 0 (by decide)).2
  refine aw_aload_n dL_law_1085 rfl ?_
  refine aw_aload_n dL_law_1086 rfl ?_
  refine aw_iload_n dL_law_1087 rfl ?_
  refine aw_iconst (v := 1) dL_law_1088 rfl ?_
  refine aw_iadd_n (a := i) (b := 1) dL_law_1089 ?_
  refine aw_iald_n (j := i + 1) dL_law_1090 rfl (Nat.le_of_ble_eq_true rfl) (by omega) (by omega) ?_
  refine aw_top (congrFun h02 _) ?_
  refine aw_aload_n dL_law_1091 rfl ?_
  refine aw_iload_n dL_law_1092 rfl ?_
  refine aw_iconst (v := 2) dL_law_1093 rfl ?_
  refine aw_iadd_n (a := i) (b := 2) dL_law_1094 ?_
  refine aw_iald_n (j := i + 2) dL_law_1095 rfl (Nat.le_of_ble_eq_true rfl) (by omega) (by omega) ?_
  refine aw_top (congrFun h02 _) ?_
  refine aw_aload_n dL_law_1096 rfl ?_
  refine aw_iload_n dL_law_1097 rfl ?_
  refine aw_iconst (v := 3) dL_law_1098 rfl ?_
  refine aw_iadd_n (a := i) (b := 3) dL_law_1099 ?_
  refine aw_iald_n (j := i + 3) dL_law_1100 rfl (Nat.le_of_ble_eq_true rfl) (by omega) (by omega) ?_
  refine aw_top (congrFun h02 _) ?_
  refine aw_V0c (As := [_, _, _]) dL_law_1101 k12_146 rfl rfl rfl ⟨Nat.le_of_ble_eq_true rfl, Nat.le_of_ble_eq_true rfl⟩ (Nat.le_of_ble_eq_true rfl) ⟨⟨Nat.le_of_ble_eq_true rfl, Nat.le_of_ble_eq_true rfl⟩, ⟨Nat.le_of_ble_eq_true rfl, Nat.le_of_ble_eq_true rfl⟩⟩ ⟨rfl, rfl⟩ (hM) (fun v h2 hq => ?_)
  obtain ⟨rfl, I3, L3, c3, rfl, hI3⟩ := hq
  refine aw_ic_eq (tgt := 1242) dL_law_1104 (by decide) (fun c1104 => ?_) (fun z => absurd z (fun q => q rfl))
  exact ih _ _ _ hI3
theorem lc_copy (G : aw_G) {n i : Nat} {I : Nat → Nat → Int32} {L : Nat → Nat → Int64} {c : Nat} {Q : Option Value → aw_H → Prop} (hn : n ≤ 3072) (hi : i + 6 ≤ n) (h : zINV I) (ih : ∀ I L c, zINV I → aw_W G mL_law 1242 [.ref 0, .ref 3, .ref 81, .int (nI i)] [] (zH n I L c) (102, 3856) Q) : aw_W G mL_law 1109 [.ref 0, .ref 3, .ref 81, .int (nI i)] [] (zH n I L c) (102, 3856) Q := by
  refine aw_ro (fun hro => ?_)
  have h0 : I 0 = g_ro G 0 := (hro 0 (by decide)).2
  obtain ⟨r, ⟨z, rfl⟩, hr⟩ := st_copy G (n := n) h (g_ro G 0 (i + 1)) (g_ro G 0 (i + 2)) (g_ro G 0 (i + 3)) (g_ro G 0 (i + 4)) (g_ro G 0 (i + 5))
  refine aw_aload_n dL_law_1109 rfl ?_
  refine aw_aload_n dL_law_1110 rfl ?_
  refine aw_iload_n dL_law_1111 rfl ?_
  refine aw_iconst (v := 1) dL_law_1112 rfl ?_
  refine aw_iadd_n (a := i) (b := 1) dL_law_1113 ?_
  refine aw_iald_n (j := i + 1) dL_law_1114 rfl (Nat.le_of_ble_eq_true rfl) (by omega) (by omega) ?_
  refine aw_top (congrFun h0 _) ?_
  refine aw_aload_n dL_law_1115 rfl ?_
  refine aw_iload_n dL_law_1116 rfl ?_
  refine aw_iconst (v := 2) dL_law_1117 rfl ?_
  refine aw_iadd_n (a := i) (b := 2) dL_law_1118 ?_
  refine aw_iald_n (j := i + 2) dL_law_1119 rfl (Nat.le_of_ble_eq_true rfl) (by omega) (by omega) ?_
  refine aw_top (congrFun h0 _) ?_
  refine aw_aload_n dL_law_1120 rfl ?_
  refine aw_iload_n dL_law_1121 rfl ?_
  refine aw_iconst (v := 3) dL_law_1122 rfl ?_
  refine aw_iadd_n (a := i) (b := 3) dL_law_1123 ?_
  refine aw_iald_n (j := i + 3) dL_law_1124 rfl (Nat.le_of_ble_eq_true rfl) (by omega) (by omega) ?_
  refine aw_top (congrFun h0 _) ?_
  refine aw_aload_n dL_law_1125 rfl ?_
  refine aw_iload_n dL_law_1126 rfl ?_
  refine aw_iconst (v := 4) dL_law_1127 rfl ?_
  refine aw_iadd_n (a := i) (b := 4) dL_law_1128 ?_
  refine aw_iald_n (j := i + 4) dL_law_1129 rfl (Nat.le_of_ble_eq_true rfl) (by omega) (by omega) ?_
  refine aw_top (congrFun h0 _) ?_
  refine aw_aload_n dL_law_1130 rfl ?_
  refine aw_iload_n dL_law_1131 rfl ?_
  refine aw_iconst (v := 5) dL_law_1132 rfl ?_
  refine aw_iadd_n (a := i) (b := 5) dL_law_1133 ?_
  refine aw_iald_n (j := i + 5) dL_law_1134 rfl (Nat.le_of_ble_eq_true rfl) (by omega) (by omega) ?_
  refine aw_top (congrFun h0 _) ?_
  refine aw_V0c (As := [_, _, _, _, _]) dL_law_1135 k12_147 rfl rfl rfl ⟨Nat.le_of_ble_eq_true rfl, Nat.le_of_ble_eq_true rfl⟩ (Nat.le_of_ble_eq_true rfl) ⟨⟨Nat.le_of_ble_eq_true rfl, Nat.le_of_ble_eq_true rfl⟩, ⟨Nat.le_of_ble_eq_true rfl, Nat.le_of_ble_eq_true rfl⟩⟩ ⟨rfl, rfl⟩ (hr L c) (fun v h2 hq => ?_)
  obtain ⟨rfl, I2, L2, c2, rfl, hM⟩ := hq
  refine aw_ro (fun hro2 => ?_)
  have h02 : I2 0 = g_ro G 0 := (hro2 0 (by decide)).2
  refine aw_aload_n dL_law_1138 rfl ?_
  refine aw_aload_n dL_law_1139 rfl ?_
  refine aw_iload_n dL_law_1140 rfl ?_
  refine aw_iconst (v := 1) dL_law_1141 rfl ?_
  refine aw_iadd_n (a := i) (b := 1) dL_law_1142 ?_
  refine aw_iald_n (j := i + 1) dL_law_1143 rfl (Nat.le_of_ble_eq_true rfl) (by omega) (by omega) ?_
  refine aw_top (congrFun h02 _) ?_
  refine aw_aload_n dL_law_1144 rfl ?_
  refine aw_iload_n dL_law_1145 rfl ?_
  refine aw_iconst (v := 2) dL_law_1146 rfl ?_
  refine aw_iadd_n (a := i) (b := 2) dL_law_1147 ?_
  refine aw_iald_n (j := i + 2) dL_law_1148 rfl (Nat.le_of_ble_eq_true rfl) (by omega) (by omega) ?_
  refine aw_top (congrFun h02 _) ?_
  refine aw_aload_n dL_law_1149 rfl ?_
  refine aw_iload_n dL_law_1150 rfl ?_
  refine aw_iconst (v := 3) dL_law_1151 rfl ?_
  refine aw_iadd_n (a := i) (b := 3) dL_law_1152 ?_
  refine aw_iald_n (j := i + 3) dL_law_1153 rfl (Nat.le_of_ble_eq_true rfl) (by omega) (by omega) ?_
  refine aw_top (congrFun h02 _) ?_
  refine aw_aload_n dL_law_1154 rfl ?_
  refine aw_iload_n dL_law_1155 rfl ?_
  refine aw_iconst (v := 4) dL_law_1156 rfl ?_
  refine aw_iadd_n (a := i) (b := 4) dL_law_1157 ?_
  refine aw_iald_n (j := i + 4) dL_law_1158 rfl (Nat.le_of_ble_eq_true rfl) (by omega) (by omega) ?_
  refine aw_top (congrFun h02 _) ?_
  refine aw_aload_n dL_law_1159 rfl ?_
  refine aw_iload_n dL_law_1160 rfl ?_
  refine aw_iconst (v := 5) dL_law_1161 rfl ?_
  refine aw_iadd_n (a := i) (b := 5) dL_law_1162 ?_
  refine aw_iald_n (j := i + 5) dL_law_1163 rfl (Nat.le_of_ble_eq_true rfl) (by omega) (by omega) ?_
  refine aw_top (congrFun h02 _) ?_
  refine aw_V0c (As := [_, _, _, _, _]) dL_law_1164 k12_151 rfl rfl rfl ⟨Nat.le_of_ble_eq_true rfl, Nat.le_of_ble_eq_true rfl⟩ (Nat.le_of_ble_eq_true rfl) ⟨⟨Nat.le_of_ble_eq_true rfl, Nat.le_of_ble_eq_true rfl⟩, ⟨Nat.le_of_ble_eq_true rfl, Nat.le_of_ble_eq_true rfl⟩⟩ ⟨rfl, rfl⟩ (hM) (fun v h2 hq => ?_)
  obtain ⟨rfl, I3, L3, c3, rfl, hI3⟩ := hq
  refine aw_ic_eq (tgt := 1242) dL_law_1167 (by decide) (fun c1167 => ?_) (fun z => absurd z (fun q => q rfl))
  exact ih _ _ _ hI3
theorem lc_write (G : aw_G) {n i : Nat} {I : Nat → Nat → Int32} {L : Nat → Nat → Int64} {c : Nat} {Q : Option Value → aw_H → Prop} (hn : n ≤ 3072) (hi : i + 6 ≤ n) (h : zINV I) (ih : ∀ I L c, zINV I → aw_W G mL_law 1242 [.ref 0, .ref 3, .ref 81, .int (nI i)] [] (zH n I L c) (102, 3856) Q) : aw_W G mL_law 1172 [.ref 0, .ref 3, .ref 81, .int (nI i)] [] (zH n I L c) (102, 3856) Q := by
  refine aw_ro (fun hro => ?_)
  have h0 : I 0 = g_ro G 0 := (hro 0 (by decide)).2
  obtain ⟨r, ⟨z, rfl⟩, hr⟩ := st_write G (n := n) h (g_ro G 0 (i + 1)) (g_ro G 0 (i + 2))
  refine aw_aload_n dL_law_1172 rfl ?_
  refine aw_aload_n dL_law_1173 rfl ?_
  refine aw_iload_n dL_law_1174 rfl ?_
  refine aw_iconst (v := 1) dL_law_1175 rfl ?_
  refine aw_iadd_n (a := i) (b := 1) dL_law_1176 ?_
  refine aw_iald_n (j := i + 1) dL_law_1177 rfl (Nat.le_of_ble_eq_true rfl) (by omega) (by omega) ?_
  refine aw_top (congrFun h0 _) ?_
  refine aw_aload_n dL_law_1178 rfl ?_
  refine aw_iload_n dL_law_1179 rfl ?_
  refine aw_iconst (v := 2) dL_law_1180 rfl ?_
  refine aw_iadd_n (a := i) (b := 2) dL_law_1181 ?_
  refine aw_iald_n (j := i + 2) dL_law_1182 rfl (Nat.le_of_ble_eq_true rfl) (by omega) (by omega) ?_
  refine aw_top (congrFun h0 _) ?_
  refine aw_V0c (As := [_, _]) dL_law_1183 k12_152 rfl rfl rfl ⟨Nat.le_of_ble_eq_true rfl, Nat.le_of_ble_eq_true rfl⟩ (Nat.le_of_ble_eq_true rfl) ⟨⟨Nat.le_of_ble_eq_true rfl, Nat.le_of_ble_eq_true rfl⟩, ⟨Nat.le_of_ble_eq_true rfl, Nat.le_of_ble_eq_true rfl⟩⟩ ⟨rfl, rfl⟩ (hr L c) (fun v h2 hq => ?_)
  obtain ⟨rfl, I2, L2, c2, rfl, hM⟩ := hq
  refine aw_ro (fun hro2 => ?_)
  have h02 : I2 0 = g_ro G 0 := (hro2 0 (by decide)).2
  refine aw_aload_n dL_law_1186 rfl ?_
  refine aw_aload_n dL_law_1187 rfl ?_
  refine aw_iload_n dL_law_1188 rfl ?_
  refine aw_iconst (v := 1) dL_law_1189 rfl ?_
  refine aw_iadd_n (a := i) (b := 1) dL_law_1190 ?_
  refine aw_iald_n (j := i + 1) dL_law_1191 rfl (Nat.le_of_ble_eq_true rfl) (by omega) (by omega) ?_
  refine aw_top (congrFun h02 _) ?_
  refine aw_aload_n dL_law_1192 rfl ?_
  refine aw_iload_n dL_law_1193 rfl ?_
  refine aw_iconst (v := 2) dL_law_1194 rfl ?_
  refine aw_iadd_n (a := i) (b := 2) dL_law_1195 ?_
  refine aw_iald_n (j := i + 2) dL_law_1196 rfl (Nat.le_of_ble_eq_true rfl) (by omega) (by omega) ?_
  refine aw_top (congrFun h02 _) ?_
  refine aw_V0c (As := [_, _]) dL_law_1197 k12_155 rfl rfl rfl ⟨Nat.le_of_ble_eq_true rfl, Nat.le_of_ble_eq_true rfl⟩ (Nat.le_of_ble_eq_true rfl) ⟨⟨Nat.le_of_ble_eq_true rfl, Nat.le_of_ble_eq_true rfl⟩, ⟨Nat.le_of_ble_eq_true rfl, Nat.le_of_ble_eq_true rfl⟩⟩ ⟨rfl, rfl⟩ (hM) (fun v h2 hq => ?_)
  obtain ⟨rfl, I3, L3, c3, rfl, hI3⟩ := hq
  refine aw_ic_eq (tgt := 1242) dL_law_1200 (by decide) (fun c1200 => ?_) (fun z => absurd z (fun q => q rfl))
  exact ih _ _ _ hI3
theorem lc_count (G : aw_G) {n i : Nat} {I : Nat → Nat → Int32} {L : Nat → Nat → Int64} {c : Nat} {Q : Option Value → aw_H → Prop} (hn : n ≤ 3072) (hi : i + 6 ≤ n) (h : zINV I) (ih : ∀ I L c, zINV I → aw_W G mL_law 1242 [.ref 0, .ref 3, .ref 81, .int (nI i)] [] (zH n I L c) (102, 3856) Q) : aw_W G mL_law 1205 [.ref 0, .ref 3, .ref 81, .int (nI i)] [] (zH n I L c) (102, 3856) Q := by
  refine aw_ro (fun hro => ?_)
  have h0 : I 0 = g_ro G 0 := (hro 0 (by decide)).2
  obtain ⟨r, ⟨z, rfl⟩, hr⟩ := st_count G (n := n) h (g_ro G 0 (i + 1))
  refine aw_aload_n dL_law_1205 rfl ?_
  refine aw_aload_n dL_law_1206 rfl ?_
  refine aw_iload_n dL_law_1207 rfl ?_
  refine aw_iconst (v := 1) dL_law_1208 rfl ?_
  refine aw_iadd_n (a := i) (b := 1) dL_law_1209 ?_
  refine aw_iald_n (j := i + 1) dL_law_1210 rfl (Nat.le_of_ble_eq_true rfl) (by omega) (by omega) ?_
  refine aw_top (congrFun h0 _) ?_
  refine aw_V0c (As := [_]) dL_law_1211 k12_156 rfl rfl rfl ⟨Nat.le_of_ble_eq_true rfl, Nat.le_of_ble_eq_true rfl⟩ (Nat.le_of_ble_eq_true rfl) ⟨⟨Nat.le_of_ble_eq_true rfl, Nat.le_of_ble_eq_true rfl⟩, ⟨Nat.le_of_ble_eq_true rfl, Nat.le_of_ble_eq_true rfl⟩⟩ ⟨rfl, rfl⟩ (hr L c) (fun v h2 hq => ?_)
  obtain ⟨rfl, I2, L2, c2, rfl, hM⟩ := hq
  refine aw_ro (fun hro2 => ?_)
  have h02 : I2 0 = g_ro G 0 := (hro2 0 (by decide)).2
  refine aw_aload_n dL_law_1214 rfl ?_
  refine aw_aload_n dL_law_1215 rfl ?_
  refine aw_iload_n dL_law_1216 rfl ?_
  refine aw_iconst (v := 1) dL_law_1217 rfl ?_
  refine aw_iadd_n (a := i) (b := 1) dL_law_1218 ?_
  refine aw_iald_n (j := i + 1) dL_law_1219 rfl (Nat.le_of_ble_eq_true rfl) (by omega) (by omega) ?_
  refine aw_top (congrFun h02 _) ?_
  refine aw_V0c (As := [_]) dL_law_1220 k12_159 rfl rfl rfl ⟨Nat.le_of_ble_eq_true rfl, Nat.le_of_ble_eq_true rfl⟩ (Nat.le_of_ble_eq_true rfl) ⟨⟨Nat.le_of_ble_eq_true rfl, Nat.le_of_ble_eq_true rfl⟩, ⟨Nat.le_of_ble_eq_true rfl, Nat.le_of_ble_eq_true rfl⟩⟩ ⟨rfl, rfl⟩ (hM) (fun v h2 hq => ?_)
  obtain ⟨rfl, I3, L3, c3, rfl, hI3⟩ := hq
  refine aw_ic_eq (tgt := 1242) dL_law_1223 (by decide) (fun c1223 => ?_) (fun z => absurd z (fun q => q rfl))
  exact ih _ _ _ hI3
theorem lc_digest (G : aw_G) {n i : Nat} {I : Nat → Nat → Int32} {L : Nat → Nat → Int64} {c : Nat} {Q : Option Value → aw_H → Prop} (hn : n ≤ 3072) (hi : i + 6 ≤ n) (h : zINV I) (ih : ∀ I L c, zINV I → aw_W G mL_law 1242 [.ref 0, .ref 3, .ref 81, .int (nI i)] [] (zH n I L c) (102, 3856) Q) : aw_W G mL_law 1228 [.ref 0, .ref 3, .ref 81, .int (nI i)] [] (zH n I L c) (102, 3856) Q := by
  refine aw_ro (fun hro => ?_)
  have h0 : I 0 = g_ro G 0 := (hro 0 (by decide)).2
  obtain ⟨r, ⟨z, rfl⟩, hr⟩ := st_digest G (n := n) h 
  refine aw_aload_n dL_law_1228 rfl ?_
  refine aw_V0c (As := []) dL_law_1229 k12_160 rfl rfl rfl ⟨Nat.le_of_ble_eq_true rfl, Nat.le_of_ble_eq_true rfl⟩ (Nat.le_of_ble_eq_true rfl) ⟨⟨Nat.le_of_ble_eq_true rfl, Nat.le_of_ble_eq_true rfl⟩, ⟨Nat.le_of_ble_eq_true rfl, Nat.le_of_ble_eq_true rfl⟩⟩ ⟨rfl, rfl⟩ (hr L c) (fun v h2 hq => ?_)
  obtain ⟨rfl, I2, L2, c2, rfl, hM⟩ := hq
  refine aw_ro (fun hro2 => ?_)
  have h02 : I2 0 = g_ro G 0 := (hro2 0 (by decide)).2
  refine aw_aload_n dL_law_1232 rfl ?_
  refine aw_V0c (As := []) dL_law_1233 k12_164 rfl rfl rfl ⟨Nat.le_of_ble_eq_true rfl, Nat.le_of_ble_eq_true rfl⟩ (Nat.le_of_ble_eq_true rfl) ⟨⟨Nat.le_of_ble_eq_true rfl, Nat.le_of_ble_eq_true rfl⟩, ⟨Nat.le_of_ble_eq_true rfl, Nat.le_of_ble_eq_true rfl⟩⟩ ⟨rfl, rfl⟩ (hM) (fun v h2 hq => ?_)
  obtain ⟨rfl, I3, L3, c3, rfl, hI3⟩ := hq
  refine aw_lcmp dL_law_1236 ?_
  refine aw_if_eq (tgt := 1242) dL_law_1237 (by decide) (fun c1237 => ?_) (fun z => absurd z (fun q => q (lg_self _)))
  exact ih _ _ _ hI3
theorem aw_gen {G : aw_G} {M : aw_MR} {pc : Nat} {ls st : List Value} {h : aw_H} {q : Nat × Nat} {Q : Option Value → aw_H → Prop} {x : Int32} (k : ∀ v : Int32, aw_W G M pc ls (.int v :: st) h q Q) : aw_W G M pc ls (.int x :: st) h q Q := k x
set_option maxHeartbeats 40000000 in
theorem lw_loop (G : aw_G) {n : Nat} (hn : n ≤ 3072) : ∀ I L c, zINV I → aw_W G mL_law 18 [.ref 0, .ref 3, .ref 81, .int (nI (6 * 0))] [] (zH n I L c) (102, 3856) (fun v _ => v = some (.int 1)) := by
  refine aw_up (X := fun j => ∀ I L c, zINV I → aw_W G mL_law 18 [.ref 0, .ref 3, .ref 81, .int (nI (6 * j))] [] (zH n I L c) (102, 3856) (fun v _ => v = some (.int 1))) (Nat.zero_le (n / 6 + 1)) ?_ (fun j _ hj ih => ?_)
  · intro I L c hinv
    refine aw_iload_n dL_law_18 rfl ?_
    refine aw_aload_n dL_law_19 rfl ?_
    refine aw_alen dL_law_20 rfl (Nat.le_of_ble_eq_true rfl) ?_
    refine aw_bipush (v := 6) dL_law_21 (by decide) ?_
    refine aw_isub dL_law_23 ?_
    refine aw_ic_gt (tgt := 1248) dL_law_24 (by decide) (fun c24 => ?_) (fun z => absurd z (fun q => by have := zloop hn (by omega) q; omega))
    refine aw_iconst (v := 1) dL_law_1248 rfl ?_
    refine aw_reti dL_law_1249 rfl rfl ⟨Nat.le_of_ble_eq_true rfl, Nat.le_of_ble_eq_true rfl⟩ ?_
    exact rfl
  · intro I L c hinv
    have h42 : ∀ I L c, zINV I → aw_W G mL_law 1242 [.ref 0, .ref 3, .ref 81, .int (nI (6 * j))] [] (zH n I L c) (102, 3856) (fun v _ => v = some (.int 1)) := by
      intro I L c h
      have e6 : 6 * (j + 1) = 6 * j + 6 := by omega
      rw [e6] at ih
      refine aw_iinc_m (d := 6) (ls2 := [_, _, _, _]) dL_law_1242 rfl rfl (by decide) rfl rfl ?_
      refine aw_goto (tgt := 18) dL_law_1245 (by decide) ?_
      exact ih _ _ _ h
    refine aw_iload_n dL_law_18 rfl ?_
    refine aw_aload_n dL_law_19 rfl ?_
    refine aw_alen dL_law_20 rfl (Nat.le_of_ble_eq_true rfl) ?_
    refine aw_bipush (v := 6) dL_law_21 (by decide) ?_
    refine aw_isub dL_law_23 ?_
    refine aw_ic_gt (tgt := 1248) dL_law_24 (by decide) (fun c24 => ?_) (fun c24 => ?_)
    · refine aw_iconst (v := 1) dL_law_1248 rfl ?_
      refine aw_reti dL_law_1249 rfl rfl ⟨Nat.le_of_ble_eq_true rfl, Nat.le_of_ble_eq_true rfl⟩ ?_
      exact rfl
    · have hx := zloop hn (by omega) c24
      refine aw_aload_n dL_law_27 rfl ?_
      refine aw_iload_n dL_law_28 rfl ?_
      refine aw_iald_n (j := 6 * j) dL_law_29 rfl (Nat.le_of_ble_eq_true rfl) (by omega) (by omega) ?_
      refine aw_bipush (v := 63) dL_law_30 (by decide) ?_
      refine aw_iand dL_law_32 ?_
      refine aw_gen (fun v => ?_)
      have h' : v.toInt = 0 ∨ v.toInt = 1 ∨ v.toInt = 2 ∨ v.toInt = 3 ∨ v.toInt = 4 ∨ v.toInt = 5 ∨ v.toInt = 6 ∨ v.toInt = 7 ∨ v.toInt = 8 ∨ v.toInt = 9 ∨ v.toInt = 10 ∨ v.toInt = 11 ∨ v.toInt = 12 ∨ v.toInt = 13 ∨ v.toInt = 14 ∨ v.toInt = 15 ∨ v.toInt = 16 ∨ v.toInt = 17 ∨ v.toInt = 18 ∨ v.toInt = 19 ∨ v.toInt = 20 ∨ v.toInt = 21 ∨ v.toInt = 22 ∨ v.toInt = 23 ∨ v.toInt = 24 ∨ v.toInt = 25 ∨ v.toInt = 26 ∨ v.toInt = 27 ∨ v.toInt = 28 ∨ v.toInt = 29 ∨ v.toInt = 30 ∨ v.toInt = 31 ∨ v.toInt = 32 ∨ v.toInt = 33 ∨ v.toInt = 34 ∨ v.toInt = 35 ∨ (v.toInt < 0 ∨ 35 < v.toInt) := by omega
      rcases h' with hv | hv | hv | hv | hv | hv | hv | hv | hv | hv | hv | hv | hv | hv | hv | hv | hv | hv | hv | hv | hv | hv | hv | hv | hv | hv | hv | hv | hv | hv | hv | hv | hv | hv | hv | hv | hv
      · refine aw_swIn (off := 159) (tgt := 192) dL_law_33 (by omega) (by omega) (by rw [hv]; rfl) (by decide) ?_
        exact lc_type G hn hx hinv h42
      · refine aw_swIn (off := 192) (tgt := 225) dL_law_33 (by omega) (by omega) (by rw [hv]; rfl) (by decide) ?_
        exact lc_wipe G hn hx hinv h42
      · refine aw_swIn (off := 215) (tgt := 248) dL_law_33 (by omega) (by omega) (by rw [hv]; rfl) (by decide) ?_
        exact lc_undo G hn hx hinv h42
      · refine aw_swIn (off := 238) (tgt := 271) dL_law_33 (by omega) (by omega) (by rw [hv]; rfl) (by decide) ?_
        exact lc_fault G hn hx hinv h42
      · refine aw_swIn (off := 261) (tgt := 294) dL_law_33 (by omega) (by omega) (by rw [hv]; rfl) (by decide) ?_
        exact lc_way G hn hx hinv h42
      · refine aw_swIn (off := 294) (tgt := 327) dL_law_33 (by omega) (by omega) (by rw [hv]; rfl) (by decide) ?_
        exact lc_carter G hn hx hinv h42
      · refine aw_swIn (off := 327) (tgt := 360) dL_law_33 (by omega) (by omega) (by rw [hv]; rfl) (by decide) ?_
        exact lc_late G hn hx hinv h42
      · refine aw_swIn (off := 360) (tgt := 393) dL_law_33 (by omega) (by omega) (by rw [hv]; rfl) (by decide) ?_
        exact lc_answer G hn hx hinv h42
      · refine aw_swIn (off := 393) (tgt := 426) dL_law_33 (by omega) (by omega) (by rw [hv]; rfl) (by decide) ?_
        exact lc_back G hn hx hinv h42
      · refine aw_swIn (off := 406) (tgt := 439) dL_law_33 (by omega) (by omega) (by rw [hv]; rfl) (by decide) ?_
        exact lc_read G hn hx hinv h42
      · refine aw_swIn (off := 429) (tgt := 462) dL_law_33 (by omega) (by omega) (by rw [hv]; rfl) (by decide) ?_
        exact lc_at G hn hx hinv h42
      · refine aw_swIn (off := 472) (tgt := 505) dL_law_33 (by omega) (by omega) (by rw [hv]; rfl) (by decide) ?_
        exact lc_ends G hn hx hinv h42
      · refine aw_swIn (off := 495) (tgt := 528) dL_law_33 (by omega) (by omega) (by rw [hv]; rfl) (by decide) ?_
        exact lc_far G hn hx hinv h42
      · refine aw_swIn (off := 528) (tgt := 561) dL_law_33 (by omega) (by omega) (by rw [hv]; rfl) (by decide) ?_
        exact lc_who G hn hx hinv h42
      · refine aw_swIn (off := 551) (tgt := 584) dL_law_33 (by omega) (by omega) (by rw [hv]; rfl) (by decide) ?_
        exact lc_met G hn hx hinv h42
      · refine aw_swIn (off := 574) (tgt := 607) dL_law_33 (by omega) (by omega) (by rw [hv]; rfl) (by decide) ?_
        exact lc_busiest G hn hx hinv h42
      · refine aw_swIn (off := 587) (tgt := 620) dL_law_33 (by omega) (by omega) (by rw [hv]; rfl) (by decide) ?_
        exact lc_needs G hn hx hinv h42
      · refine aw_swIn (off := 610) (tgt := 643) dL_law_33 (by omega) (by omega) (by rw [hv]; rfl) (by decide) ?_
        exact lc_lend G hn hx hinv h42
      · refine aw_swIn (off := 633) (tgt := 666) dL_law_33 (by omega) (by omega) (by rw [hv]; rfl) (by decide) ?_
        exact lc_delay G hn hx hinv h42
      · refine aw_swIn (off := 666) (tgt := 699) dL_law_33 (by omega) (by omega) (by rw [hv]; rfl) (by decide) ?_
        exact lc_level G hn hx hinv h42
      · refine aw_swIn (off := 689) (tgt := 722) dL_law_33 (by omega) (by omega) (by rw [hv]; rfl) (by decide) ?_
        exact lc_seen G hn hx hinv h42
      · refine aw_swIn (off := 732) (tgt := 765) dL_law_33 (by omega) (by omega) (by rw [hv]; rfl) (by decide) ?_
        exact lc_forget G hn hx hinv h42
      · refine aw_swIn (off := 745) (tgt := 778) dL_law_33 (by omega) (by omega) (by rw [hv]; rfl) (by decide) ?_
        exact lc_never G hn hx hinv h42
      · refine aw_swIn (off := 758) (tgt := 791) dL_law_33 (by omega) (by omega) (by rw [hv]; rfl) (by decide) ?_
        exact lc_sort G hn hx hinv h42
      · refine aw_swIn (off := 781) (tgt := 814) dL_law_33 (by omega) (by omega) (by rw [hv]; rfl) (by decide) ?_
        exact lc_force G hn hx hinv h42
      · refine aw_swIn (off := 814) (tgt := 847) dL_law_33 (by omega) (by omega) (by rw [hv]; rfl) (by decide) ?_
        exact lc_ask G hn hx hinv h42
      · refine aw_swIn (off := 837) (tgt := 870) dL_law_33 (by omega) (by omega) (by rw [hv]; rfl) (by decide) ?_
        exact lc_rumour G hn hx hinv h42
      · refine aw_swIn (off := 881) (tgt := 914) dL_law_33 (by omega) (by omega) (by rw [hv]; rfl) (by decide) ?_
        exact lc_market G hn hx hinv h42
      · refine aw_swIn (off := 914) (tgt := 947) dL_law_33 (by omega) (by omega) (by rw [hv]; rfl) (by decide) ?_
        exact lc_sheet G hn hx hinv h42
      · refine aw_swIn (off := 957) (tgt := 990) dL_law_33 (by omega) (by omega) (by rw [hv]; rfl) (by decide) ?_
        exact lc_lose G hn hx hinv h42
      · refine aw_swIn (off := 980) (tgt := 1013) dL_law_33 (by omega) (by omega) (by rw [hv]; rfl) (by decide) ?_
        exact lc_lay G hn hx hinv h42
      · refine aw_swIn (off := 1033) (tgt := 1066) dL_law_33 (by omega) (by omega) (by rw [hv]; rfl) (by decide) ?_
        exact lc_get G hn hx hinv h42
      · refine aw_swIn (off := 1076) (tgt := 1109) dL_law_33 (by omega) (by omega) (by rw [hv]; rfl) (by decide) ?_
        exact lc_copy G hn hx hinv h42
      · refine aw_swIn (off := 1139) (tgt := 1172) dL_law_33 (by omega) (by omega) (by rw [hv]; rfl) (by decide) ?_
        exact lc_write G hn hx hinv h42
      · refine aw_swIn (off := 1172) (tgt := 1205) dL_law_33 (by omega) (by omega) (by rw [hv]; rfl) (by decide) ?_
        exact lc_count G hn hx hinv h42
      · refine aw_swIn (off := 1195) (tgt := 1228) dL_law_33 (by omega) (by omega) (by rw [hv]; rfl) (by decide) ?_
        exact lc_digest G hn hx hinv h42
      · refine aw_swOut (tgt := 1242) dL_law_33 hv (by decide) ?_
        exact h42 _ _ _ hinv
theorem lw_all (G : aw_G) {n : Nat} {xs : Nat → Int32} (hn : n ≤ 3072) : aw_W G mL_law 0 [.ref 0, aw_x, aw_x, aw_x] [] (aw_S0 n, aw_I0 xs, fun _ _ => 0, fun _ _ => none, 0) (0, 0) (fun v _ => v = some (.int 1)) := by
  refine aw_re (h2 := (zS n, aw_I0 xs, fun _ _ => 0, zR 12, 0)) ?_ ?_
  · rintro H ⟨h1, h2, h3⟩
    refine ⟨h1, h2, fun o ho => ⟨?_, (h3 o ho).2⟩⟩
    have h' : o = 0 ∨ o = 1 ∨ o = 2 := by omega
    rcases h' with rfl | rfl | rfl
    · exact (h3 0 (by decide)).1
    · exact (h3 1 (by decide)).1
    · exact (h3 2 (by decide)).1
  refine aw_newY (cl := 10) (o := 3) (N2 := 1) dL_law_0 (by decide) cl12_7 (aw_inst (by decide)) (aw_init (c := 10) (by decide)) ⟨Nat.le_of_ble_eq_true rfl, Nat.le_of_ble_eq_true rfl⟩ rfl rfl rfl rfl rfl (c2 := 1) rfl (s2 := 10) rfl ?_
  rw [yR_0]
  refine aw_dup dL_law_3 rfl ?_
  refine aw_invIY (As := []) dL_law_4 k12_9 rfl rfl (Nat.le_of_ble_eq_true rfl) ⟨⟨Nat.le_of_ble_eq_true rfl, Nat.le_of_ble_eq_true rfl⟩, ⟨Nat.le_of_ble_eq_true rfl, Nat.le_of_ble_eq_true rfl⟩⟩ (k_road G (fun a ha => by obtain ⟨d, rfl⟩ : ∃ d, a = d + 3 := ⟨a - 3, by omega⟩; rfl) (fun a ha => rfl) rfl rfl) (c2 := 78) rfl (s2 := 1682) rfl (fun v h2 hq => ?_)
  obtain ⟨rfl, I2, L2, rfl, hC2, hZ2, hL2⟩ := hq
  refine aw_astore_n (ls2 := [_, _, _, _]) dL_law_7 (by decide) rfl rfl ?_
  refine aw_newY (cl := 11) (o := 81) (N2 := 79) dL_law_8 (by decide) cl12_10 (aw_inst (by decide)) (aw_init (c := 11) (by decide)) ⟨Nat.le_of_ble_eq_true rfl, Nat.le_of_ble_eq_true rfl⟩ rfl rfl rfl (hZ2 _ (by decide)) (hL2 _ (by decide)) (c2 := 79) rfl (s2 := 1714) rfl ?_
  refine aw_dup dL_law_11 rfl ?_
  refine aw_invIY (As := []) dL_law_12 k12_12 rfl rfl (Nat.le_of_ble_eq_true rfl) ⟨⟨Nat.le_of_ble_eq_true rfl, Nat.le_of_ble_eq_true rfl⟩, ⟨Nat.le_of_ble_eq_true rfl, Nat.le_of_ble_eq_true rfl⟩⟩ (k_model G hZ2 hL2) (c2 := 102) rfl (s2 := 3856) rfl (fun v h2 hq => ?_)
  obtain ⟨rfl, I3, rfl, hM3, hF3⟩ := hq
  refine aw_astore_n (ls2 := [_, _, _, _]) dL_law_15 (by decide) rfl rfl ?_
  refine aw_iconst (v := 0) dL_law_16 rfl ?_
  refine aw_istore_n (ls2 := [_, _, _, _]) dL_law_17 (by decide) rfl rfl ?_
  exact lw_loop G hn _ _ _ (zINV.mk0 hC2 hM3 hF3)
theorem whole_start {p : Program} {e : Env} {s : State} {m : MethodId} {below : List Frame} {meth : Method} {c : Code} (l : Launch) {b L : Nat} {xs : Nat → Int32} (hL : L ≤ 3072) (C0 : lw_At p s m meth c b L xs) : W p l e room_1 s m #[Value.ref b] below meth c s.heap [] 0 0 (lw_Z below #[Value.ref b] s) (entryFrame m ([Value.ref b] : List Value).toArray 4) :=
  aw_start l hL C0 (fun G => lw_all G hL)
