/-! CONSTRUCTORS -/
theorem va_up_id {α : Type} {f : Nat → α} {i : Nat} {v : α} (h : f i = v) : va_up f i v = f := by
  funext a
  by_cases e : a = i
  · subst e; rw [va_up_at, h]
  · rw [va_up_nat e]
theorem aw_u_up {α : Type} {F : Nat → Nat → α} {o j : Nat} {f : Nat → α} {x : α} : aw_u (va_up F o f) o j x = va_up F o (va_up f j x) := by
  funext a b
  by_cases ha : a = o
  · subst ha; rw [aw_u_row, va_up_at, va_up_at]
  · rw [aw_u_ne ha, va_up_nat ha, va_up_nat ha]
theorem aw_u_upc {α : Type} {F : Nat → Nat → α} {o p j : Nat} {f : Nat → α} {x : α} (h : o ≠ p) : aw_u (va_up F p f) o j x = va_up (aw_u F o j x) p f := by
  funext a b
  by_cases ha : a = o
  · subst ha; rw [aw_u_row, va_up_nat h, va_up_nat h, aw_u_row]
  · rw [aw_u_ne ha]
    by_cases hp : a = p
    · subst hp; rw [va_up_at, va_up_at]
    · rw [va_up_nat hp, va_up_nat hp, aw_u_ne ha]
theorem yR_put {k k2 : Nat} {v : Option Nat} (h : zR 12 3 k = v) (hk : k + 1 = k2) : aw_u (yR k) 3 k v = yR k2 := by
  subst hk
  funext a b
  by_cases ha : a = 3
  · subst ha
    by_cases hb : b = k
    · subst hb
      rw [aw_u_eq, ← h]
      unfold yR
      rw [show Nat.ble (b + 1) b = false from by rw [← Bool.not_eq_true, Nat.ble_eq]; omega]
      rfl
    · rw [aw_u_nj hb]
      unfold yR
      rw [show Nat.ble (k + 1) b = Nat.ble k b from by
        rw [Bool.eq_iff_iff, Nat.ble_eq, Nat.ble_eq]; omega]
  · rw [aw_u_ne ha]
    unfold yR
    rw [show Nat.beq a 3 = false from by
      rw [← Bool.not_eq_true, Nat.beq_eq]; exact ha]
    rfl
theorem yR_full {k o : Nat} {f : Nat → Option Nat} (h : ∀ j, f j = yR k o j) : va_up (yR k) o f = yR k := va_up_id (funext (fun j => (h j).symm))
theorem yR_9 : yR 9 = zR 12 := by
  funext a b
  unfold yR
  by_cases ha : a = 3
  · subst ha
    by_cases hb : 9 ≤ b
    · obtain ⟨d, rfl⟩ : ∃ d, b = d + 9 := ⟨b - 9, by omega⟩
      rw [show Nat.ble 9 (d + 9) = true from by rw [Nat.ble_eq]; omega]
      rfl
    · rw [show Nat.ble 9 b = false from by rw [← Bool.not_eq_true, Nat.ble_eq]; exact hb]
      rfl
  · rw [show Nat.beq a 3 = false from by
      rw [← Bool.not_eq_true, Nat.beq_eq]; exact ha]
    rfl
section AWY
variable {G : aw_G} {M : aw_MR} {pc : Nat} {ls st : List Value} {qc qs : Nat} {Q : Option Value → aw_H → Prop} {n N : Nat} {I : Nat → Nat → Int32} {L : Nat → Nat → Int64} {R : Nat → Nat → Option Nat}
theorem aw_newY {cl idx o N2 : Nat} (hd : decode (aw_c M) pc = .ok (.new idx, 3)) (hc : cl < 12) (hw1 : Cond.classLink (aw_nm (aw_own M)) idx (aw_nm cl) ∈ aw_tbl) (hw2 : Cond.instantiable (aw_nm cl) (aw_N cl) ∈ aw_tbl) (hw3 : Cond.initialized (aw_nm cl) ∈ aw_tbl)
    (hq : qc + 1 ≤ aw_mc M ∧ qs + aw_N cl ≤ aw_ms M) (ho : N + 3 = o) (hN : N + 1 = N2) (hs : zS n o = (cl + 3, 0)) (hI : I o = fun _ => 0) (hL : L o = fun _ => 0) {c2 : Nat} (hc2 : qc + 1 = c2) {s2 : Nat} (hs2 : qs + aw_N cl = s2) (k : aw_W G M (pc + 3) ls (.ref o :: st) (zS n, I, L, va_up R o (fun _ => none), N2) (c2, s2) Q) : aw_W G M pc ls st (zS n, I, L, R, N) (qc, qs) Q := by
  subst ho; subst hN; subst hc2; subst hs2
  refine aw_new (q := (qc, qs)) hd hc hw1 hw2 hw3 hq ?_
  show aw_W G M (pc + 3) ls (.ref (N + 3) :: st) (va_up (zS n) (N + 3) (cl + 3, 0), va_up I (N + 3) (fun _ => 0), va_up L (N + 3) (fun _ => 0), va_up R (N + 3) (fun _ => none), N + 1) _ Q
  rw [va_up_id hs, va_up_id hI, va_up_id hL]
  exact k
theorem aw_newIY {x : Int32} {n2 o N2 : Nat} (hd : decode (aw_c M) pc = .ok (.newarray .int, 2)) (hw : Cond.arrayClass .int ∈ aw_tbl) (h0 : ¬ x < 0) (hn : x.toNatClampNeg = n2) (hb2 : n2 ≤ 100000)
    (hq : qc + 1 ≤ aw_mc M ∧ qs + n2 ≤ aw_ms M) (ho : N + 3 = o) (hN : N + 1 = N2) (hs : zS n o = (0, n2)) (hI : I o = fun _ => 0) (hL : L o = fun _ => 0) (hR : R o = fun _ => none) {c2 : Nat} (hc2 : qc + 1 = c2) {s2 : Nat} (hs2 : qs + n2 = s2) (k : aw_W G M (pc + 2) ls (.ref o :: st) (zS n, I, L, R, N2) (c2, s2) Q) : aw_W G M pc ls (.int x :: st) (zS n, I, L, R, N) (qc, qs) Q := by
  subst ho; subst hN; subst hc2; subst hs2
  refine aw_newI (q := (qc, qs)) hd hw h0 hn hb2 hq ?_
  show aw_W G M (pc + 2) ls (.ref (N + 3) :: st) (va_up (zS n) (N + 3) (0, n2), va_up I (N + 3) (fun _ => 0), va_up L (N + 3) (fun _ => 0), va_up R (N + 3) (fun _ => none), N + 1) _ Q
  rw [va_up_id hs, va_up_id hI, va_up_id hL, va_up_id hR]
  exact k
theorem aw_newLY {x : Int32} {n2 o N2 : Nat} (hd : decode (aw_c M) pc = .ok (.newarray .long, 2)) (hw : Cond.arrayClass .long ∈ aw_tbl) (h0 : ¬ x < 0) (hn : x.toNatClampNeg = n2) (hb2 : n2 ≤ 100000)
    (hq : qc + 1 ≤ aw_mc M ∧ qs + n2 ≤ aw_ms M) (ho : N + 3 = o) (hN : N + 1 = N2) (hs : zS n o = (1, n2)) (hI : I o = fun _ => 0) (hL : L o = fun _ => 0) (hR : R o = fun _ => none) {c2 : Nat} (hc2 : qc + 1 = c2) {s2 : Nat} (hs2 : qs + n2 = s2) (k : aw_W G M (pc + 2) ls (.ref o :: st) (zS n, I, L, R, N2) (c2, s2) Q) : aw_W G M pc ls (.int x :: st) (zS n, I, L, R, N) (qc, qs) Q := by
  subst ho; subst hN; subst hc2; subst hs2
  refine aw_newL (q := (qc, qs)) hd hw h0 hn hb2 hq ?_
  show aw_W G M (pc + 2) ls (.ref (N + 3) :: st) (va_up (zS n) (N + 3) (1, n2), va_up I (N + 3) (fun _ => 0), va_up L (N + 3) (fun _ => 0), va_up R (N + 3) (fun _ => none), N + 1) _ Q
  rw [va_up_id hs, va_up_id hI, va_up_id hL, va_up_id hR]
  exact k
theorem aw_newRY {x : Int32} {n2 idx o N2 : Nat} (hd : decode (aw_c M) pc = .ok (.anewarray idx, 3)) (hw : Cond.classLink (aw_nm (aw_own M)) idx RX8 ∈ aw_tbl) (h0 : ¬ x < 0) (hn : x.toNatClampNeg = n2) (hb2 : n2 ≤ 100000)
    (hq : qc + 1 ≤ aw_mc M ∧ qs + n2 ≤ aw_ms M) (ho : N + 3 = o) (hN : N + 1 = N2) (hs : zS n o = (2, n2)) (hI : I o = fun _ => 0) (hL : L o = fun _ => 0) {c2 : Nat} (hc2 : qc + 1 = c2) {s2 : Nat} (hs2 : qs + n2 = s2) (k : aw_W G M (pc + 3) ls (.ref o :: st) (zS n, I, L, va_up R o (fun _ => none), N2) (c2, s2) Q) : aw_W G M pc ls (.int x :: st) (zS n, I, L, R, N) (qc, qs) Q := by
  subst ho; subst hN; subst hc2; subst hs2
  refine aw_newR (q := (qc, qs)) hd hw h0 hn hb2 hq ?_
  show aw_W G M (pc + 3) ls (.ref (N + 3) :: st) (va_up (zS n) (N + 3) (2, n2), va_up I (N + 3) (fun _ => 0), va_up L (N + 3) (fun _ => 0), va_up R (N + 3) (fun _ => none), N + 1) _ Q
  rw [va_up_id hs, va_up_id hI, va_up_id hL]
  exact k
theorem aw_invIY {h : aw_H} {M2 : aw_MR} {b : Nat} {As rest : List Value} {idx m : Nat} {Q2 : Option Value → aw_H → Prop} (hd : decode (aw_c M) pc = .ok (.invokespecial idx, 3)) (hk : aw_KI (aw_own M) idx M2 m) (hn : As.length = m) (hst : st = As.reverse ++ .ref b :: rest) (hr : (rest.map fun v => v.category).sum ≤ 8) (hf : aw_fit M M2 (qc, qs))
    (hM : aw_Met G M2 (.ref b :: As) h Q2) {c2 : Nat} (hc2 : qc + aw_mc M2 = c2) {s2 : Nat} (hs2 : qs + aw_ms M2 = s2) (k : ∀ v h2, Q2 v h2 → aw_W G M (pc + 3) ls (v.toList ++ rest) h2 (c2, s2) Q) : aw_W G M pc ls st h (qc, qs) Q := by
  subst hc2; subst hs2
  exact aw_invI hd hk hn hst hr hf hM k
theorem aw_putRY {S : Nat → Nat × Nat} {q : Nat × Nat} {o cl j idx m a : Nat} {f : Nat → Option Nat} (hd : decode (aw_c M) pc = .ok (.putfield idx, 3)) (hf : aw_F (aw_own M) idx cl j) (hs : S o = (cl + 3, m)) (ho : 3 ≤ o ∧ o < N + 3)
    (hfin : (aw_T cl j).2.2.2 = false ∨ (aw_ini M = true ∧ (aw_T cl j).1 = aw_nm (aw_own M))) (ht : aw_isR (aw_ty cl j) = true)
    (k : aw_W G M (pc + 3) ls st (S, I, L, va_up R o (va_up f j (some a)), N) q Q) : aw_W G M pc ls (.ref a :: .ref o :: st) (S, I, L, va_up R o f, N) q Q := by
  refine aw_putR hd hf hs ho hfin ht ?_
  rw [aw_u_up]
  exact k
theorem aw_aastY {S : Nat → Nat × Nat} {q : Nat × Nat} {o m a m2 jj : Nat} {i : Int32} {f : Nat → Option Nat} (hd : decode (aw_c M) pc = .ok (.aastore, 1)) (hs : S o = (2, m)) (ho : 3 ≤ o ∧ o < N + 3) (hi : vp_in i m) (hsa : S a = (8 + 3, m2)) (hoa : 3 ≤ a ∧ a < N + 3) (hj : i.toNatClampNeg = jj)
    (k : aw_W G M (pc + 1) ls st (S, I, L, va_up R o (va_up f jj (some a)), N) q Q) : aw_W G M pc ls (.ref a :: .int i :: .ref o :: st) (S, I, L, va_up R o f, N) q Q := by
  refine aw_aast hd hs ho hi hsa hoa ?_
  rw [hj, aw_u_up]
  exact k
theorem aw_putRR {S : Nat → Nat × Nat} {q : Nat × Nat} {cl idx m a k1 k2 : Nat} (hd : decode (aw_c M) pc = .ok (.putfield idx, 3)) (hf : aw_F (aw_own M) idx cl k1) (hs : S 3 = (cl + 3, m)) (ho : 3 ≤ 3 ∧ 3 < N + 3)
    (hfin : (aw_T cl k1).2.2.2 = false ∨ (aw_ini M = true ∧ (aw_T cl k1).1 = aw_nm (aw_own M))) (ht : aw_isR (aw_ty cl k1) = true) (hz : zR 12 3 k1 = some a) (hk : k1 + 1 = k2)
    (k : aw_W G M (pc + 3) ls st (S, I, L, yR k2, N) q Q) : aw_W G M pc ls (.ref a :: .ref 3 :: st) (S, I, L, yR k1, N) q Q := by
  refine aw_putR hd hf hs ho hfin ht ?_
  rw [yR_put hz hk]
  exact k
theorem aw_putRS {S : Nat → Nat × Nat} {q : Nat × Nat} {cl idx m a k1 k2 p : Nat} {f : Nat → Option Nat} (hd : decode (aw_c M) pc = .ok (.putfield idx, 3)) (hf : aw_F (aw_own M) idx cl k1) (hs : S 3 = (cl + 3, m)) (ho : 3 ≤ 3 ∧ 3 < N + 3)
    (hfin : (aw_T cl k1).2.2.2 = false ∨ (aw_ini M = true ∧ (aw_T cl k1).1 = aw_nm (aw_own M))) (ht : aw_isR (aw_ty cl k1) = true) (hz : zR 12 3 k1 = some a) (hk : k1 + 1 = k2) (hp : 3 ≠ p)
    (k : aw_W G M (pc + 3) ls st (S, I, L, va_up (yR k2) p f, N) q Q) : aw_W G M pc ls (.ref a :: .ref 3 :: st) (S, I, L, va_up (yR k1) p f, N) q Q := by
  refine aw_putR hd hf hs ho hfin ht ?_
  rw [aw_u_upc hp, yR_put hz hk]
  exact k
end AWY
theorem gs_WAY : Cond.fieldLinkNest (aw_nm 10) 9 RX9 "WAY" "[I" RX10 ∈ aw_nst := List.mem_filter.mpr ⟨List.mem_of_getElem? (i := 91) (by decide +kernel), rfl⟩
theorem gs_CARTER : Cond.fieldLinkNest (aw_nm 10) 22 RX9 "CARTER" "[I" RX10 ∈ aw_nst := List.mem_filter.mpr ⟨List.mem_of_getElem? (i := 126) (by decide +kernel), rfl⟩
theorem k_text4 (G : aw_G) {n k : Nat} {I : Nat → Nat → Int32} {L : Nat → Nat → Int64} (hI : ∀ a, 4 ≤ a → I a = fun _ => 0) (hL : ∀ a, 4 ≤ a → L a = fun _ => 0) : aw_Met G mX9_init [.ref 4, .ref 1, .int 10] (zS n, I, L, va_up (yR k) 4 (fun _ => none), 2) (fun v h2 => v = none ∧ ∃ I2, h2 = (zS n, I2, L, yR k, 3) ∧ (∀ a, a ≠ 4 → I2 a = I a) ∧ I2 4 1 = 10 ∧ I2 4 3 = 0 ∧ I2 4 4 = -1 ∧ I2 4 5 = 0) := by
  refine aw_Met.of okX9_init (Nat.le_of_ble_eq_true rfl) ?_
  show aw_W G mX9_init 0 [.ref 4, .ref 1, .int 10] [] (zS n, I, L, va_up (yR k) 4 (fun _ => none), 2) (0, 0) _
  refine aw_aload_n dX9_init_0 rfl ?_
  refine aw_obj dX9_init_1 ob9_3 ob_i ob_c ⟨Nat.le_of_ble_eq_true rfl, Nat.le_of_ble_eq_true rfl⟩ ?_
  refine aw_aload_n dX9_init_4 rfl ?_
  refine aw_iconst (v := 0) dX9_init_5 rfl ?_
  refine aw_putI dX9_init_6 f9_9 rfl ⟨Nat.le_of_ble_eq_true rfl, Nat.le_of_ble_eq_true rfl⟩ (Or.inl rfl) rfl ?_
  refine aw_aload_n dX9_init_9 rfl ?_
  refine aw_iconst (v := -1) dX9_init_10 rfl ?_
  refine aw_putI dX9_init_11 f9_15 rfl ⟨Nat.le_of_ble_eq_true rfl, Nat.le_of_ble_eq_true rfl⟩ (Or.inl rfl) rfl ?_
  refine aw_aload_n dX9_init_14 rfl ?_
  refine aw_iconst (v := 0) dX9_init_15 rfl ?_
  refine aw_putI dX9_init_16 f9_18 rfl ⟨Nat.le_of_ble_eq_true rfl, Nat.le_of_ble_eq_true rfl⟩ (Or.inl rfl) rfl ?_
  refine aw_aload_n dX9_init_19 rfl ?_
  refine aw_aload_n dX9_init_20 rfl ?_
  refine aw_putRY dX9_init_21 f9_21 rfl ⟨Nat.le_of_ble_eq_true rfl, Nat.le_of_ble_eq_true rfl⟩ (Or.inr ⟨rfl, rfl⟩) rfl ?_
  refine aw_aload_n dX9_init_24 rfl ?_
  refine aw_iload_n dX9_init_25 rfl ?_
  refine aw_putI dX9_init_26 f9_25 rfl ⟨Nat.le_of_ble_eq_true rfl, Nat.le_of_ble_eq_true rfl⟩ (Or.inr ⟨rfl, rfl⟩) rfl ?_
  refine aw_aload_n dX9_init_29 rfl ?_
  refine aw_iconst (v := 0) dX9_init_30 rfl ?_
  refine aw_aload_n dX9_init_31 rfl ?_
  refine aw_alen dX9_init_32 rfl (Nat.le_of_ble_eq_true rfl) ?_
  refine aw_iload_n dX9_init_33 rfl ?_
  refine aw_imul_n (a := 5) (b := 10) dX9_init_34 ?_
  refine aw_iconst (v := 1) dX9_init_35 rfl ?_
  refine aw_isub dX9_init_36 ?_
  refine aw_max dX9_init_37 mm9_28 ⟨Nat.le_of_ble_eq_true rfl, Nat.le_of_ble_eq_true rfl⟩ ⟨Nat.le_of_ble_eq_true rfl, Nat.le_of_ble_eq_true rfl⟩ ?_
  refine aw_top (show _ = (49 : Int32) from by decide) ?_
  refine aw_newIY (o := 5) (N2 := 3) (n2 := 49) dX9_init_40 aw_arrI (by decide) (by decide) (by decide) ⟨Nat.le_of_ble_eq_true rfl, Nat.le_of_ble_eq_true rfl⟩ rfl rfl rfl (by rw [aw_u_ne (by decide), aw_u_ne (by decide), aw_u_ne (by decide), aw_u_ne (by decide)]; exact hI _ (by decide)) (hL _ (by decide)) ((va_up_nat (by decide)).trans rfl) (c2 := 1) rfl (s2 := 49) rfl ?_
  refine aw_putRY dX9_init_42 f9_34 rfl ⟨Nat.le_of_ble_eq_true rfl, Nat.le_of_ble_eq_true rfl⟩ (Or.inr ⟨rfl, rfl⟩) rfl ?_
  refine aw_ret0 dX9_init_45 rfl ⟨Nat.le_of_ble_eq_true rfl, Nat.le_of_ble_eq_true rfl⟩ ?_
  rw [yR_full (k := k) (o := 4) (fun j => by
    match j with
    | 0 => rfl
    | 1 => rfl
    | 2 => rfl
    | j + 3 => rfl)]
  refine ⟨rfl, _, rfl, fun a ha => by rw [aw_u_ne ha, aw_u_ne ha, aw_u_ne ha, aw_u_ne ha], by rw [aw_u_eq], by rw [aw_u_nj (by decide), aw_u_nj (by decide), aw_u_nj (by decide), aw_u_eq], by rw [aw_u_nj (by decide), aw_u_nj (by decide), aw_u_eq], by rw [aw_u_nj (by decide), aw_u_eq]⟩
theorem k_text6 (G : aw_G) {n k : Nat} {I : Nat → Nat → Int32} {L : Nat → Nat → Int64} (hI : ∀ a, 6 ≤ a → I a = fun _ => 0) (hL : ∀ a, 6 ≤ a → L a = fun _ => 0) : aw_Met G mX9_init [.ref 6, .ref 2, .int 8] (zS n, I, L, va_up (yR k) 6 (fun _ => none), 4) (fun v h2 => v = none ∧ ∃ I2, h2 = (zS n, I2, L, yR k, 5) ∧ (∀ a, a ≠ 6 → I2 a = I a) ∧ I2 6 1 = 8 ∧ I2 6 3 = 0 ∧ I2 6 4 = -1 ∧ I2 6 5 = 0) := by
  refine aw_Met.of okX9_init (Nat.le_of_ble_eq_true rfl) ?_
  show aw_W G mX9_init 0 [.ref 6, .ref 2, .int 8] [] (zS n, I, L, va_up (yR k) 6 (fun _ => none), 4) (0, 0) _
  refine aw_aload_n dX9_init_0 rfl ?_
  refine aw_obj dX9_init_1 ob9_3 ob_i ob_c ⟨Nat.le_of_ble_eq_true rfl, Nat.le_of_ble_eq_true rfl⟩ ?_
  refine aw_aload_n dX9_init_4 rfl ?_
  refine aw_iconst (v := 0) dX9_init_5 rfl ?_
  refine aw_putI dX9_init_6 f9_9 rfl ⟨Nat.le_of_ble_eq_true rfl, Nat.le_of_ble_eq_true rfl⟩ (Or.inl rfl) rfl ?_
  refine aw_aload_n dX9_init_9 rfl ?_
  refine aw_iconst (v := -1) dX9_init_10 rfl ?_
  refine aw_putI dX9_init_11 f9_15 rfl ⟨Nat.le_of_ble_eq_true rfl, Nat.le_of_ble_eq_true rfl⟩ (Or.inl rfl) rfl ?_
  refine aw_aload_n dX9_init_14 rfl ?_
  refine aw_iconst (v := 0) dX9_init_15 rfl ?_
  refine aw_putI dX9_init_16 f9_18 rfl ⟨Nat.le_of_ble_eq_true rfl, Nat.le_of_ble_eq_true rfl⟩ (Or.inl rfl) rfl ?_
  refine aw_aload_n dX9_init_19 rfl ?_
  refine aw_aload_n dX9_init_20 rfl ?_
  refine aw_putRY dX9_init_21 f9_21 rfl ⟨Nat.le_of_ble_eq_true rfl, Nat.le_of_ble_eq_true rfl⟩ (Or.inr ⟨rfl, rfl⟩) rfl ?_
  refine aw_aload_n dX9_init_24 rfl ?_
  refine aw_iload_n dX9_init_25 rfl ?_
  refine aw_putI dX9_init_26 f9_25 rfl ⟨Nat.le_of_ble_eq_true rfl, Nat.le_of_ble_eq_true rfl⟩ (Or.inr ⟨rfl, rfl⟩) rfl ?_
  refine aw_aload_n dX9_init_29 rfl ?_
  refine aw_iconst (v := 0) dX9_init_30 rfl ?_
  refine aw_aload_n dX9_init_31 rfl ?_
  refine aw_alen dX9_init_32 rfl (Nat.le_of_ble_eq_true rfl) ?_
  refine aw_iload_n dX9_init_33 rfl ?_
  refine aw_imul_n (a := 7) (b := 8) dX9_init_34 ?_
  refine aw_iconst (v := 1) dX9_init_35 rfl ?_
  refine aw_isub dX9_init_36 ?_
  refine aw_max dX9_init_37 mm9_28 ⟨Nat.le_of_ble_eq_true rfl, Nat.le_of_ble_eq_true rfl⟩ ⟨Nat.le_of_ble_eq_true rfl, Nat.le_of_ble_eq_true rfl⟩ ?_
  refine aw_top (show _ = (55 : Int32) from by decide) ?_
  refine aw_newIY (o := 7) (N2 := 5) (n2 := 55) dX9_init_40 aw_arrI (by decide) (by decide) (by decide) ⟨Nat.le_of_ble_eq_true rfl, Nat.le_of_ble_eq_true rfl⟩ rfl rfl rfl (by rw [aw_u_ne (by decide), aw_u_ne (by decide), aw_u_ne (by decide), aw_u_ne (by decide)]; exact hI _ (by decide)) (hL _ (by decide)) ((va_up_nat (by decide)).trans rfl) (c2 := 1) rfl (s2 := 55) rfl ?_
  refine aw_putRY dX9_init_42 f9_34 rfl ⟨Nat.le_of_ble_eq_true rfl, Nat.le_of_ble_eq_true rfl⟩ (Or.inr ⟨rfl, rfl⟩) rfl ?_
  refine aw_ret0 dX9_init_45 rfl ⟨Nat.le_of_ble_eq_true rfl, Nat.le_of_ble_eq_true rfl⟩ ?_
  rw [yR_full (k := k) (o := 6) (fun j => by
    match j with
    | 0 => rfl
    | 1 => rfl
    | 2 => rfl
    | j + 3 => rfl)]
  refine ⟨rfl, _, rfl, fun a ha => by rw [aw_u_ne ha, aw_u_ne ha, aw_u_ne ha, aw_u_ne ha], by rw [aw_u_eq], by rw [aw_u_nj (by decide), aw_u_nj (by decide), aw_u_nj (by decide), aw_u_eq], by rw [aw_u_nj (by decide), aw_u_nj (by decide), aw_u_eq], by rw [aw_u_nj (by decide), aw_u_eq]⟩
theorem k_answers (G : aw_G) {n k : Nat} {I : Nat → Nat → Int32} {L : Nat → Nat → Int64} (hI : ∀ a, 8 ≤ a → I a = fun _ => 0) (hL : ∀ a, 8 ≤ a → L a = fun _ => 0) : aw_Met G mX0_init [.ref 8] (zS n, I, L, va_up (yR k) 8 (fun _ => none), 6) (fun v h2 => v = none ∧ ∃ I2, h2 = (zS n, I2, L, yR k, 8) ∧ (∀ a, a ≠ 8 → I2 a = I a) ∧ I2 8 2 = 0) := by
  refine aw_Met.of okX0_init (Nat.le_of_ble_eq_true rfl) ?_
  show aw_W G mX0_init 0 [.ref 8] [] (zS n, I, L, va_up (yR k) 8 (fun _ => none), 6) (0, 0) _
  refine aw_aload_n dX0_init_0 rfl ?_
  refine aw_obj dX0_init_1 ob0_3 ob_i ob_c ⟨Nat.le_of_ble_eq_true rfl, Nat.le_of_ble_eq_true rfl⟩ ?_
  refine aw_aload_n dX0_init_4 rfl ?_
  refine aw_bipush (v := 8) dX0_init_5 (by decide) ?_
  refine aw_newIY (o := 9) (N2 := 7) (n2 := 8) dX0_init_7 aw_arrI (by decide) (by decide) (by decide) ⟨Nat.le_of_ble_eq_true rfl, Nat.le_of_ble_eq_true rfl⟩ rfl rfl rfl (by exact hI _ (by decide)) (hL _ (by decide)) ((va_up_nat (by decide)).trans rfl) (c2 := 1) rfl (s2 := 8) rfl ?_
  refine aw_putRY dX0_init_9 f0_9 rfl ⟨Nat.le_of_ble_eq_true rfl, Nat.le_of_ble_eq_true rfl⟩ (Or.inr ⟨rfl, rfl⟩) rfl ?_
  refine aw_aload_n dX0_init_12 rfl ?_
  refine aw_bipush (v := 8) dX0_init_13 (by decide) ?_
  refine aw_newIY (o := 10) (N2 := 8) (n2 := 8) dX0_init_15 aw_arrI (by decide) (by decide) (by decide) ⟨Nat.le_of_ble_eq_true rfl, Nat.le_of_ble_eq_true rfl⟩ rfl rfl rfl (by exact hI _ (by decide)) (hL _ (by decide)) ((va_up_nat (by decide)).trans rfl) (c2 := 2) rfl (s2 := 16) rfl ?_
  refine aw_putRY dX0_init_17 f0_15 rfl ⟨Nat.le_of_ble_eq_true rfl, Nat.le_of_ble_eq_true rfl⟩ (Or.inr ⟨rfl, rfl⟩) rfl ?_
  refine aw_aload_n dX0_init_20 rfl ?_
  refine aw_iconst (v := 0) dX0_init_21 rfl ?_
  refine aw_putI dX0_init_22 f0_18 rfl ⟨Nat.le_of_ble_eq_true rfl, Nat.le_of_ble_eq_true rfl⟩ (Or.inl rfl) rfl ?_
  refine aw_ret0 dX0_init_25 rfl ⟨Nat.le_of_ble_eq_true rfl, Nat.le_of_ble_eq_true rfl⟩ ?_
  rw [yR_full (k := k) (o := 8) (fun j => by
    match j with
    | 0 => rfl
    | 1 => rfl
    | j + 2 => rfl)]
  refine ⟨rfl, _, rfl, fun a ha => by rw [aw_u_ne ha], by rw [aw_u_eq]⟩
theorem k_chart12 (G : aw_G) {n : Nat} {R0 : Nat → Nat → Option Nat} {I : Nat → Nat → Int32} {L : Nat → Nat → Int64} (hI : ∀ a, 12 ≤ a → I a = fun _ => 0) (hL : ∀ a, 12 ≤ a → L a = fun _ => 0) (hR0 : ∀ j, R0 12 j = zR 12 12 j) (h13 : R0 13 = fun _ => none) (h14 : R0 14 = fun _ => none) (h15 : R0 15 = fun _ => none) : aw_Met G mX2_init [.ref 12] (zS n, I, L, va_up (R0) 12 (fun _ => none), 10) (fun v h2 => v = none ∧ ∃ I2, h2 = (zS n, I2, L, R0, 13) ∧ (∀ a, a ≠ 12 → I2 a = I a)) := by
  refine aw_Met.of okX2_init (Nat.le_of_ble_eq_true rfl) ?_
  show aw_W G mX2_init 0 [.ref 12] [] (zS n, I, L, va_up (R0) 12 (fun _ => none), 10) (0, 0) _
  refine aw_aload_n dX2_init_0 rfl ?_
  refine aw_obj dX2_init_1 ob2_3 ob_i ob_c ⟨Nat.le_of_ble_eq_true rfl, Nat.le_of_ble_eq_true rfl⟩ ?_
  refine aw_aload_n dX2_init_4 rfl ?_
  refine aw_bipush (v := 64) dX2_init_5 (by decide) ?_
  refine aw_newIY (o := 13) (N2 := 11) (n2 := 64) dX2_init_7 aw_arrI (by decide) (by decide) (by decide) ⟨Nat.le_of_ble_eq_true rfl, Nat.le_of_ble_eq_true rfl⟩ rfl rfl rfl (by exact hI _ (by decide)) (hL _ (by decide)) ((va_up_nat (by decide)).trans h13) (c2 := 1) rfl (s2 := 64) rfl ?_
  refine aw_putRY dX2_init_9 f2_9 rfl ⟨Nat.le_of_ble_eq_true rfl, Nat.le_of_ble_eq_true rfl⟩ (Or.inr ⟨rfl, rfl⟩) rfl ?_
  refine aw_aload_n dX2_init_12 rfl ?_
  refine aw_bipush (v := 64) dX2_init_13 (by decide) ?_
  refine aw_newIY (o := 14) (N2 := 12) (n2 := 64) dX2_init_15 aw_arrI (by decide) (by decide) (by decide) ⟨Nat.le_of_ble_eq_true rfl, Nat.le_of_ble_eq_true rfl⟩ rfl rfl rfl (by exact hI _ (by decide)) (hL _ (by decide)) ((va_up_nat (by decide)).trans h14) (c2 := 2) rfl (s2 := 128) rfl ?_
  refine aw_putRY dX2_init_17 f2_15 rfl ⟨Nat.le_of_ble_eq_true rfl, Nat.le_of_ble_eq_true rfl⟩ (Or.inr ⟨rfl, rfl⟩) rfl ?_
  refine aw_aload_n dX2_init_20 rfl ?_
  refine aw_bipush (v := 64) dX2_init_21 (by decide) ?_
  refine aw_newIY (o := 15) (N2 := 13) (n2 := 64) dX2_init_23 aw_arrI (by decide) (by decide) (by decide) ⟨Nat.le_of_ble_eq_true rfl, Nat.le_of_ble_eq_true rfl⟩ rfl rfl rfl (by exact hI _ (by decide)) (hL _ (by decide)) ((va_up_nat (by decide)).trans h15) (c2 := 3) rfl (s2 := 192) rfl ?_
  refine aw_putRY dX2_init_25 f2_18 rfl ⟨Nat.le_of_ble_eq_true rfl, Nat.le_of_ble_eq_true rfl⟩ (Or.inr ⟨rfl, rfl⟩) rfl ?_
  refine aw_ret0 dX2_init_28 rfl ⟨Nat.le_of_ble_eq_true rfl, Nat.le_of_ble_eq_true rfl⟩ ?_
  rw [va_up_id (f := R0) (i := 12) (funext (fun j => (hR0 j).trans (by
    match j with
    | 0 => rfl
    | 1 => rfl
    | 2 => rfl
    | j + 3 => rfl)))]
  refine ⟨rfl, _, rfl, fun a ha => rfl⟩
theorem k_set11 (G : aw_G) {n k : Nat} {I : Nat → Nat → Int32} {L : Nat → Nat → Int64} (hI : ∀ a, 13 ≤ a → I a = fun _ => 0) (hL : ∀ a, 13 ≤ a → L a = fun _ => 0) : aw_Met G mX7_init [.ref 11, .ref 8, .ref 12] (zS n, I, L, va_up (yR k) 11 (fun _ => none), 13) (fun v h2 => v = none ∧ ∃ I2, h2 = (zS n, I2, L, yR k, 19) ∧ (∀ a, a ≠ 11 → I2 a = I a) ∧ I2 11 8 = 0 ∧ I2 11 9 = 0) := by
  refine aw_Met.of okX7_init (Nat.le_of_ble_eq_true rfl) ?_
  show aw_W G mX7_init 0 [.ref 11, .ref 8, .ref 12] [] (zS n, I, L, va_up (yR k) 11 (fun _ => none), 13) (0, 0) _
  refine aw_aload_n dX7_init_0 rfl ?_
  refine aw_obj dX7_init_1 ob7_3 ob_i ob_c ⟨Nat.le_of_ble_eq_true rfl, Nat.le_of_ble_eq_true rfl⟩ ?_
  refine aw_aload_n dX7_init_4 rfl ?_
  refine aw_bipush (v := 8) dX7_init_5 (by decide) ?_
  refine aw_newIY (o := 16) (N2 := 14) (n2 := 8) dX7_init_7 aw_arrI (by decide) (by decide) (by decide) ⟨Nat.le_of_ble_eq_true rfl, Nat.le_of_ble_eq_true rfl⟩ rfl rfl rfl (by exact hI _ (by decide)) (hL _ (by decide)) ((va_up_nat (by decide)).trans rfl) (c2 := 1) rfl (s2 := 8) rfl ?_
  refine aw_putRY dX7_init_9 f7_9 rfl ⟨Nat.le_of_ble_eq_true rfl, Nat.le_of_ble_eq_true rfl⟩ (Or.inr ⟨rfl, rfl⟩) rfl ?_
  refine aw_aload_n dX7_init_12 rfl ?_
  refine aw_bipush (v := 8) dX7_init_13 (by decide) ?_
  refine aw_newIY (o := 17) (N2 := 15) (n2 := 8) dX7_init_15 aw_arrI (by decide) (by decide) (by decide) ⟨Nat.le_of_ble_eq_true rfl, Nat.le_of_ble_eq_true rfl⟩ rfl rfl rfl (by exact hI _ (by decide)) (hL _ (by decide)) ((va_up_nat (by decide)).trans rfl) (c2 := 2) rfl (s2 := 16) rfl ?_
  refine aw_putRY dX7_init_17 f7_15 rfl ⟨Nat.le_of_ble_eq_true rfl, Nat.le_of_ble_eq_true rfl⟩ (Or.inr ⟨rfl, rfl⟩) rfl ?_
  refine aw_aload_n dX7_init_20 rfl ?_
  refine aw_bipush (v := 8) dX7_init_21 (by decide) ?_
  refine aw_newIY (o := 18) (N2 := 16) (n2 := 8) dX7_init_23 aw_arrI (by decide) (by decide) (by decide) ⟨Nat.le_of_ble_eq_true rfl, Nat.le_of_ble_eq_true rfl⟩ rfl rfl rfl (by exact hI _ (by decide)) (hL _ (by decide)) ((va_up_nat (by decide)).trans rfl) (c2 := 3) rfl (s2 := 24) rfl ?_
  refine aw_putRY dX7_init_25 f7_18 rfl ⟨Nat.le_of_ble_eq_true rfl, Nat.le_of_ble_eq_true rfl⟩ (Or.inr ⟨rfl, rfl⟩) rfl ?_
  refine aw_aload_n dX7_init_28 rfl ?_
  refine aw_bipush (v := 8) dX7_init_29 (by decide) ?_
  refine aw_newIY (o := 19) (N2 := 17) (n2 := 8) dX7_init_31 aw_arrI (by decide) (by decide) (by decide) ⟨Nat.le_of_ble_eq_true rfl, Nat.le_of_ble_eq_true rfl⟩ rfl rfl rfl (by exact hI _ (by decide)) (hL _ (by decide)) ((va_up_nat (by decide)).trans rfl) (c2 := 4) rfl (s2 := 32) rfl ?_
  refine aw_putRY dX7_init_33 f7_21 rfl ⟨Nat.le_of_ble_eq_true rfl, Nat.le_of_ble_eq_true rfl⟩ (Or.inr ⟨rfl, rfl⟩) rfl ?_
  refine aw_aload_n dX7_init_36 rfl ?_
  refine aw_bipush (v := 8) dX7_init_37 (by decide) ?_
  refine aw_newIY (o := 20) (N2 := 18) (n2 := 8) dX7_init_39 aw_arrI (by decide) (by decide) (by decide) ⟨Nat.le_of_ble_eq_true rfl, Nat.le_of_ble_eq_true rfl⟩ rfl rfl rfl (by exact hI _ (by decide)) (hL _ (by decide)) ((va_up_nat (by decide)).trans rfl) (c2 := 5) rfl (s2 := 40) rfl ?_
  refine aw_putRY dX7_init_41 f7_24 rfl ⟨Nat.le_of_ble_eq_true rfl, Nat.le_of_ble_eq_true rfl⟩ (Or.inr ⟨rfl, rfl⟩) rfl ?_
  refine aw_aload_n dX7_init_44 rfl ?_
  refine aw_bipush (v := 8) dX7_init_45 (by decide) ?_
  refine aw_newIY (o := 21) (N2 := 19) (n2 := 8) dX7_init_47 aw_arrI (by decide) (by decide) (by decide) ⟨Nat.le_of_ble_eq_true rfl, Nat.le_of_ble_eq_true rfl⟩ rfl rfl rfl (by exact hI _ (by decide)) (hL _ (by decide)) ((va_up_nat (by decide)).trans rfl) (c2 := 6) rfl (s2 := 48) rfl ?_
  refine aw_putRY dX7_init_49 f7_27 rfl ⟨Nat.le_of_ble_eq_true rfl, Nat.le_of_ble_eq_true rfl⟩ (Or.inr ⟨rfl, rfl⟩) rfl ?_
  refine aw_aload_n dX7_init_52 rfl ?_
  refine aw_iconst (v := 0) dX7_init_53 rfl ?_
  refine aw_putI dX7_init_54 f7_30 rfl ⟨Nat.le_of_ble_eq_true rfl, Nat.le_of_ble_eq_true rfl⟩ (Or.inl rfl) rfl ?_
  refine aw_aload_n dX7_init_57 rfl ?_
  refine aw_iconst (v := 0) dX7_init_58 rfl ?_
  refine aw_putI dX7_init_59 f7_34 rfl ⟨Nat.le_of_ble_eq_true rfl, Nat.le_of_ble_eq_true rfl⟩ (Or.inl rfl) rfl ?_
  refine aw_aload_n dX7_init_62 rfl ?_
  refine aw_aload_n dX7_init_63 rfl ?_
  refine aw_putRY dX7_init_64 f7_37 rfl ⟨Nat.le_of_ble_eq_true rfl, Nat.le_of_ble_eq_true rfl⟩ (Or.inr ⟨rfl, rfl⟩) rfl ?_
  refine aw_aload_n dX7_init_67 rfl ?_
  refine aw_aload_n dX7_init_68 rfl ?_
  refine aw_putRY dX7_init_69 f7_41 rfl ⟨Nat.le_of_ble_eq_true rfl, Nat.le_of_ble_eq_true rfl⟩ (Or.inl rfl) rfl ?_
  refine aw_ret0 dX7_init_72 rfl ⟨Nat.le_of_ble_eq_true rfl, Nat.le_of_ble_eq_true rfl⟩ ?_
  rw [yR_full (k := k) (o := 11) (fun j => by
    match j with
    | 0 => rfl
    | 1 => rfl
    | 2 => rfl
    | 3 => rfl
    | 4 => rfl
    | 5 => rfl
    | 6 => rfl
    | 7 => rfl
    | j + 8 => rfl)]
  refine ⟨rfl, _, rfl, fun a ha => by rw [aw_u_ne ha, aw_u_ne ha], by rw [aw_u_nj (by decide), aw_u_eq], by rw [aw_u_eq]⟩
theorem k_set37 (G : aw_G) {n k : Nat} {I : Nat → Nat → Int32} {L : Nat → Nat → Int64} (hI : ∀ a, 37 ≤ a → I a = fun _ => 0) (hL : ∀ a, 37 ≤ a → L a = fun _ => 0) : aw_Met G mX7_init [.ref 37, .ref 8, .ref 12] (zS n, I, L, va_up (yR k) 37 (fun _ => none), 35) (fun v h2 => v = none ∧ ∃ I2, h2 = (zS n, I2, L, yR k, 41) ∧ (∀ a, a ≠ 37 → I2 a = I a) ∧ I2 37 8 = 0 ∧ I2 37 9 = 0) := by
  refine aw_Met.of okX7_init (Nat.le_of_ble_eq_true rfl) ?_
  show aw_W G mX7_init 0 [.ref 37, .ref 8, .ref 12] [] (zS n, I, L, va_up (yR k) 37 (fun _ => none), 35) (0, 0) _
  refine aw_aload_n dX7_init_0 rfl ?_
  refine aw_obj dX7_init_1 ob7_3 ob_i ob_c ⟨Nat.le_of_ble_eq_true rfl, Nat.le_of_ble_eq_true rfl⟩ ?_
  refine aw_aload_n dX7_init_4 rfl ?_
  refine aw_bipush (v := 8) dX7_init_5 (by decide) ?_
  refine aw_newIY (o := 38) (N2 := 36) (n2 := 8) dX7_init_7 aw_arrI (by decide) (by decide) (by decide) ⟨Nat.le_of_ble_eq_true rfl, Nat.le_of_ble_eq_true rfl⟩ rfl rfl rfl (by exact hI _ (by decide)) (hL _ (by decide)) ((va_up_nat (by decide)).trans rfl) (c2 := 1) rfl (s2 := 8) rfl ?_
  refine aw_putRY dX7_init_9 f7_9 rfl ⟨Nat.le_of_ble_eq_true rfl, Nat.le_of_ble_eq_true rfl⟩ (Or.inr ⟨rfl, rfl⟩) rfl ?_
  refine aw_aload_n dX7_init_12 rfl ?_
  refine aw_bipush (v := 8) dX7_init_13 (by decide) ?_
  refine aw_newIY (o := 39) (N2 := 37) (n2 := 8) dX7_init_15 aw_arrI (by decide) (by decide) (by decide) ⟨Nat.le_of_ble_eq_true rfl, Nat.le_of_ble_eq_true rfl⟩ rfl rfl rfl (by exact hI _ (by decide)) (hL _ (by decide)) ((va_up_nat (by decide)).trans rfl) (c2 := 2) rfl (s2 := 16) rfl ?_
  refine aw_putRY dX7_init_17 f7_15 rfl ⟨Nat.le_of_ble_eq_true rfl, Nat.le_of_ble_eq_true rfl⟩ (Or.inr ⟨rfl, rfl⟩) rfl ?_
  refine aw_aload_n dX7_init_20 rfl ?_
  refine aw_bipush (v := 8) dX7_init_21 (by decide) ?_
  refine aw_newIY (o := 40) (N2 := 38) (n2 := 8) dX7_init_23 aw_arrI (by decide) (by decide) (by decide) ⟨Nat.le_of_ble_eq_true rfl, Nat.le_of_ble_eq_true rfl⟩ rfl rfl rfl (by exact hI _ (by decide)) (hL _ (by decide)) ((va_up_nat (by decide)).trans rfl) (c2 := 3) rfl (s2 := 24) rfl ?_
  refine aw_putRY dX7_init_25 f7_18 rfl ⟨Nat.le_of_ble_eq_true rfl, Nat.le_of_ble_eq_true rfl⟩ (Or.inr ⟨rfl, rfl⟩) rfl ?_
  refine aw_aload_n dX7_init_28 rfl ?_
  refine aw_bipush (v := 8) dX7_init_29 (by decide) ?_
  refine aw_newIY (o := 41) (N2 := 39) (n2 := 8) dX7_init_31 aw_arrI (by decide) (by decide) (by decide) ⟨Nat.le_of_ble_eq_true rfl, Nat.le_of_ble_eq_true rfl⟩ rfl rfl rfl (by exact hI _ (by decide)) (hL _ (by decide)) ((va_up_nat (by decide)).trans rfl) (c2 := 4) rfl (s2 := 32) rfl ?_
  refine aw_putRY dX7_init_33 f7_21 rfl ⟨Nat.le_of_ble_eq_true rfl, Nat.le_of_ble_eq_true rfl⟩ (Or.inr ⟨rfl, rfl⟩) rfl ?_
  refine aw_aload_n dX7_init_36 rfl ?_
  refine aw_bipush (v := 8) dX7_init_37 (by decide) ?_
  refine aw_newIY (o := 42) (N2 := 40) (n2 := 8) dX7_init_39 aw_arrI (by decide) (by decide) (by decide) ⟨Nat.le_of_ble_eq_true rfl, Nat.le_of_ble_eq_true rfl⟩ rfl rfl rfl (by exact hI _ (by decide)) (hL _ (by decide)) ((va_up_nat (by decide)).trans rfl) (c2 := 5) rfl (s2 := 40) rfl ?_
  refine aw_putRY dX7_init_41 f7_24 rfl ⟨Nat.le_of_ble_eq_true rfl, Nat.le_of_ble_eq_true rfl⟩ (Or.inr ⟨rfl, rfl⟩) rfl ?_
  refine aw_aload_n dX7_init_44 rfl ?_
  refine aw_bipush (v := 8) dX7_init_45 (by decide) ?_
  refine aw_newIY (o := 43) (N2 := 41) (n2 := 8) dX7_init_47 aw_arrI (by decide) (by decide) (by decide) ⟨Nat.le_of_ble_eq_true rfl, Nat.le_of_ble_eq_true rfl⟩ rfl rfl rfl (by exact hI _ (by decide)) (hL _ (by decide)) ((va_up_nat (by decide)).trans rfl) (c2 := 6) rfl (s2 := 48) rfl ?_
  refine aw_putRY dX7_init_49 f7_27 rfl ⟨Nat.le_of_ble_eq_true rfl, Nat.le_of_ble_eq_true rfl⟩ (Or.inr ⟨rfl, rfl⟩) rfl ?_
  refine aw_aload_n dX7_init_52 rfl ?_
  refine aw_iconst (v := 0) dX7_init_53 rfl ?_
  refine aw_putI dX7_init_54 f7_30 rfl ⟨Nat.le_of_ble_eq_true rfl, Nat.le_of_ble_eq_true rfl⟩ (Or.inl rfl) rfl ?_
  refine aw_aload_n dX7_init_57 rfl ?_
  refine aw_iconst (v := 0) dX7_init_58 rfl ?_
  refine aw_putI dX7_init_59 f7_34 rfl ⟨Nat.le_of_ble_eq_true rfl, Nat.le_of_ble_eq_true rfl⟩ (Or.inl rfl) rfl ?_
  refine aw_aload_n dX7_init_62 rfl ?_
  refine aw_aload_n dX7_init_63 rfl ?_
  refine aw_putRY dX7_init_64 f7_37 rfl ⟨Nat.le_of_ble_eq_true rfl, Nat.le_of_ble_eq_true rfl⟩ (Or.inr ⟨rfl, rfl⟩) rfl ?_
  refine aw_aload_n dX7_init_67 rfl ?_
  refine aw_aload_n dX7_init_68 rfl ?_
  refine aw_putRY dX7_init_69 f7_41 rfl ⟨Nat.le_of_ble_eq_true rfl, Nat.le_of_ble_eq_true rfl⟩ (Or.inl rfl) rfl ?_
  refine aw_ret0 dX7_init_72 rfl ⟨Nat.le_of_ble_eq_true rfl, Nat.le_of_ble_eq_true rfl⟩ ?_
  rw [yR_full (k := k) (o := 37) (fun j => by
    match j with
    | 0 => rfl
    | 1 => rfl
    | 2 => rfl
    | 3 => rfl
    | 4 => rfl
    | 5 => rfl
    | 6 => rfl
    | 7 => rfl
    | j + 8 => rfl)]
  refine ⟨rfl, _, rfl, fun a ha => by rw [aw_u_ne ha, aw_u_ne ha], by rw [aw_u_nj (by decide), aw_u_eq], by rw [aw_u_eq]⟩
theorem k_diary22 (G : aw_G) {n : Nat} {R0 : Nat → Nat → Option Nat} {I : Nat → Nat → Int32} {L : Nat → Nat → Int64} (hI : ∀ a, 31 ≤ a → I a = fun _ => 0) (hL : ∀ a, 31 ≤ a → L a = fun _ => 0) (hR0 : ∀ j, R0 31 j = zR 12 31 j) (h32 : R0 32 = fun _ => none) (h33 : R0 33 = fun _ => none) (h34 : R0 34 = fun _ => none) (h35 : R0 35 = fun _ => none) (h36 : R0 36 = fun _ => none) : aw_Met G mX4_init [.ref 31] (zS n, I, L, va_up (R0) 31 (fun _ => none), 29) (fun v h2 => v = none ∧ ∃ I2, h2 = (zS n, I2, L, R0, 34) ∧ (∀ a, a ≠ 31 → I2 a = I a)) := by
  refine aw_Met.of okX4_init (Nat.le_of_ble_eq_true rfl) ?_
  show aw_W G mX4_init 0 [.ref 31] [] (zS n, I, L, va_up (R0) 31 (fun _ => none), 29) (0, 0) _
  refine aw_aload_n dX4_init_0 rfl ?_
  refine aw_obj dX4_init_1 ob4_3 ob_i ob_c ⟨Nat.le_of_ble_eq_true rfl, Nat.le_of_ble_eq_true rfl⟩ ?_
  refine aw_aload_n dX4_init_4 rfl ?_
  refine aw_bipush (v := 8) dX4_init_5 (by decide) ?_
  refine aw_newIY (o := 32) (N2 := 30) (n2 := 8) dX4_init_7 aw_arrI (by decide) (by decide) (by decide) ⟨Nat.le_of_ble_eq_true rfl, Nat.le_of_ble_eq_true rfl⟩ rfl rfl rfl (by exact hI _ (by decide)) (hL _ (by decide)) ((va_up_nat (by decide)).trans h32) (c2 := 1) rfl (s2 := 8) rfl ?_
  refine aw_putRY dX4_init_9 f4_9 rfl ⟨Nat.le_of_ble_eq_true rfl, Nat.le_of_ble_eq_true rfl⟩ (Or.inr ⟨rfl, rfl⟩) rfl ?_
  refine aw_aload_n dX4_init_12 rfl ?_
  refine aw_bipush (v := 64) dX4_init_13 (by decide) ?_
  refine aw_newIY (o := 33) (N2 := 31) (n2 := 64) dX4_init_15 aw_arrI (by decide) (by decide) (by decide) ⟨Nat.le_of_ble_eq_true rfl, Nat.le_of_ble_eq_true rfl⟩ rfl rfl rfl (by exact hI _ (by decide)) (hL _ (by decide)) ((va_up_nat (by decide)).trans h33) (c2 := 2) rfl (s2 := 72) rfl ?_
  refine aw_putRY dX4_init_17 f4_15 rfl ⟨Nat.le_of_ble_eq_true rfl, Nat.le_of_ble_eq_true rfl⟩ (Or.inr ⟨rfl, rfl⟩) rfl ?_
  refine aw_aload_n dX4_init_20 rfl ?_
  refine aw_bipush (v := 64) dX4_init_21 (by decide) ?_
  refine aw_newIY (o := 34) (N2 := 32) (n2 := 64) dX4_init_23 aw_arrI (by decide) (by decide) (by decide) ⟨Nat.le_of_ble_eq_true rfl, Nat.le_of_ble_eq_true rfl⟩ rfl rfl rfl (by exact hI _ (by decide)) (hL _ (by decide)) ((va_up_nat (by decide)).trans h34) (c2 := 3) rfl (s2 := 136) rfl ?_
  refine aw_putRY dX4_init_25 f4_18 rfl ⟨Nat.le_of_ble_eq_true rfl, Nat.le_of_ble_eq_true rfl⟩ (Or.inr ⟨rfl, rfl⟩) rfl ?_
  refine aw_aload_n dX4_init_28 rfl ?_
  refine aw_bipush (v := 64) dX4_init_29 (by decide) ?_
  refine aw_newIY (o := 35) (N2 := 33) (n2 := 64) dX4_init_31 aw_arrI (by decide) (by decide) (by decide) ⟨Nat.le_of_ble_eq_true rfl, Nat.le_of_ble_eq_true rfl⟩ rfl rfl rfl (by exact hI _ (by decide)) (hL _ (by decide)) ((va_up_nat (by decide)).trans h35) (c2 := 4) rfl (s2 := 200) rfl ?_
  refine aw_putRY dX4_init_33 f4_21 rfl ⟨Nat.le_of_ble_eq_true rfl, Nat.le_of_ble_eq_true rfl⟩ (Or.inr ⟨rfl, rfl⟩) rfl ?_
  refine aw_aload_n dX4_init_36 rfl ?_
  refine aw_bipush (v := 64) dX4_init_37 (by decide) ?_
  refine aw_newIY (o := 36) (N2 := 34) (n2 := 64) dX4_init_39 aw_arrI (by decide) (by decide) (by decide) ⟨Nat.le_of_ble_eq_true rfl, Nat.le_of_ble_eq_true rfl⟩ rfl rfl rfl (by exact hI _ (by decide)) (hL _ (by decide)) ((va_up_nat (by decide)).trans h36) (c2 := 5) rfl (s2 := 264) rfl ?_
  refine aw_putRY dX4_init_41 f4_24 rfl ⟨Nat.le_of_ble_eq_true rfl, Nat.le_of_ble_eq_true rfl⟩ (Or.inr ⟨rfl, rfl⟩) rfl ?_
  refine aw_ret0 dX4_init_44 rfl ⟨Nat.le_of_ble_eq_true rfl, Nat.le_of_ble_eq_true rfl⟩ ?_
  rw [va_up_id (f := R0) (i := 31) (funext (fun j => (hR0 j).trans (by
    match j with
    | 0 => rfl
    | 1 => rfl
    | 2 => rfl
    | 3 => rfl
    | 4 => rfl
    | j + 5 => rfl)))]
  refine ⟨rfl, _, rfl, fun a ha => rfl⟩
theorem k_run22 (G : aw_G) {n k : Nat} {I : Nat → Nat → Int32} {L : Nat → Nat → Int64} (hI : ∀ a, 22 ≤ a → I a = fun _ => 0) (hL : ∀ a, 22 ≤ a → L a = fun _ => 0) : aw_Met G mX6_init [.ref 22] (zS n, I, L, va_up (yR k) 22 (fun _ => none), 20) (fun v h2 => v = none ∧ ∃ I2, h2 = (zS n, I2, L, yR k, 34) ∧ (∀ a, a ≠ 22 → a ≠ 31 → I2 a = I a) ∧ I2 22 0 = 0 ∧ I2 22 10 = -1 ∧ I2 22 11 = -1) := by
  refine aw_Met.of okX6_init (Nat.le_of_ble_eq_true rfl) ?_
  show aw_W G mX6_init 0 [.ref 22] [] (zS n, I, L, va_up (yR k) 22 (fun _ => none), 20) (0, 0) _
  refine aw_aload_n dX6_init_0 rfl ?_
  refine aw_obj dX6_init_1 ob6_3 ob_i ob_c ⟨Nat.le_of_ble_eq_true rfl, Nat.le_of_ble_eq_true rfl⟩ ?_
  refine aw_aload_n dX6_init_4 rfl ?_
  refine aw_iconst (v := 0) dX6_init_5 rfl ?_
  refine aw_putI dX6_init_6 f6_9 rfl ⟨Nat.le_of_ble_eq_true rfl, Nat.le_of_ble_eq_true rfl⟩ (Or.inl rfl) rfl ?_
  refine aw_aload_n dX6_init_9 rfl ?_
  refine aw_bipush (v := 8) dX6_init_10 (by decide) ?_
  refine aw_newIY (o := 23) (N2 := 21) (n2 := 8) dX6_init_12 aw_arrI (by decide) (by decide) (by decide) ⟨Nat.le_of_ble_eq_true rfl, Nat.le_of_ble_eq_true rfl⟩ rfl rfl rfl (by rw [aw_u_ne (by decide)]; exact hI _ (by decide)) (hL _ (by decide)) ((va_up_nat (by decide)).trans rfl) (c2 := 1) rfl (s2 := 8) rfl ?_
  refine aw_putRY dX6_init_14 f6_15 rfl ⟨Nat.le_of_ble_eq_true rfl, Nat.le_of_ble_eq_true rfl⟩ (Or.inr ⟨rfl, rfl⟩) rfl ?_
  refine aw_aload_n dX6_init_17 rfl ?_
  refine aw_bipush (v := 8) dX6_init_18 (by decide) ?_
  refine aw_newIY (o := 24) (N2 := 22) (n2 := 8) dX6_init_20 aw_arrI (by decide) (by decide) (by decide) ⟨Nat.le_of_ble_eq_true rfl, Nat.le_of_ble_eq_true rfl⟩ rfl rfl rfl (by rw [aw_u_ne (by decide)]; exact hI _ (by decide)) (hL _ (by decide)) ((va_up_nat (by decide)).trans rfl) (c2 := 2) rfl (s2 := 16) rfl ?_
  refine aw_putRY dX6_init_22 f6_19 rfl ⟨Nat.le_of_ble_eq_true rfl, Nat.le_of_ble_eq_true rfl⟩ (Or.inr ⟨rfl, rfl⟩) rfl ?_
  refine aw_aload_n dX6_init_25 rfl ?_
  refine aw_bipush (v := 8) dX6_init_26 (by decide) ?_
  refine aw_newIY (o := 25) (N2 := 23) (n2 := 8) dX6_init_28 aw_arrI (by decide) (by decide) (by decide) ⟨Nat.le_of_ble_eq_true rfl, Nat.le_of_ble_eq_true rfl⟩ rfl rfl rfl (by rw [aw_u_ne (by decide)]; exact hI _ (by decide)) (hL _ (by decide)) ((va_up_nat (by decide)).trans rfl) (c2 := 3) rfl (s2 := 24) rfl ?_
  refine aw_putRY dX6_init_30 f6_22 rfl ⟨Nat.le_of_ble_eq_true rfl, Nat.le_of_ble_eq_true rfl⟩ (Or.inr ⟨rfl, rfl⟩) rfl ?_
  refine aw_aload_n dX6_init_33 rfl ?_
  refine aw_bipush (v := 8) dX6_init_34 (by decide) ?_
  refine aw_newIY (o := 26) (N2 := 24) (n2 := 8) dX6_init_36 aw_arrI (by decide) (by decide) (by decide) ⟨Nat.le_of_ble_eq_true rfl, Nat.le_of_ble_eq_true rfl⟩ rfl rfl rfl (by rw [aw_u_ne (by decide)]; exact hI _ (by decide)) (hL _ (by decide)) ((va_up_nat (by decide)).trans rfl) (c2 := 4) rfl (s2 := 32) rfl ?_
  refine aw_putRY dX6_init_38 f6_25 rfl ⟨Nat.le_of_ble_eq_true rfl, Nat.le_of_ble_eq_true rfl⟩ (Or.inr ⟨rfl, rfl⟩) rfl ?_
  refine aw_aload_n dX6_init_41 rfl ?_
  refine aw_bipush (v := 8) dX6_init_42 (by decide) ?_
  refine aw_newIY (o := 27) (N2 := 25) (n2 := 8) dX6_init_44 aw_arrI (by decide) (by decide) (by decide) ⟨Nat.le_of_ble_eq_true rfl, Nat.le_of_ble_eq_true rfl⟩ rfl rfl rfl (by rw [aw_u_ne (by decide)]; exact hI _ (by decide)) (hL _ (by decide)) ((va_up_nat (by decide)).trans rfl) (c2 := 5) rfl (s2 := 40) rfl ?_
  refine aw_putRY dX6_init_46 f6_28 rfl ⟨Nat.le_of_ble_eq_true rfl, Nat.le_of_ble_eq_true rfl⟩ (Or.inr ⟨rfl, rfl⟩) rfl ?_
  refine aw_aload_n dX6_init_49 rfl ?_
  refine aw_bipush (v := 8) dX6_init_50 (by decide) ?_
  refine aw_newIY (o := 28) (N2 := 26) (n2 := 8) dX6_init_52 aw_arrI (by decide) (by decide) (by decide) ⟨Nat.le_of_ble_eq_true rfl, Nat.le_of_ble_eq_true rfl⟩ rfl rfl rfl (by rw [aw_u_ne (by decide)]; exact hI _ (by decide)) (hL _ (by decide)) ((va_up_nat (by decide)).trans rfl) (c2 := 6) rfl (s2 := 48) rfl ?_
  refine aw_putRY dX6_init_54 f6_31 rfl ⟨Nat.le_of_ble_eq_true rfl, Nat.le_of_ble_eq_true rfl⟩ (Or.inr ⟨rfl, rfl⟩) rfl ?_
  refine aw_aload_n dX6_init_57 rfl ?_
  refine aw_bipush (v := 8) dX6_init_58 (by decide) ?_
  refine aw_newIY (o := 29) (N2 := 27) (n2 := 8) dX6_init_60 aw_arrI (by decide) (by decide) (by decide) ⟨Nat.le_of_ble_eq_true rfl, Nat.le_of_ble_eq_true rfl⟩ rfl rfl rfl (by rw [aw_u_ne (by decide)]; exact hI _ (by decide)) (hL _ (by decide)) ((va_up_nat (by decide)).trans rfl) (c2 := 7) rfl (s2 := 56) rfl ?_
  refine aw_putRY dX6_init_62 f6_34 rfl ⟨Nat.le_of_ble_eq_true rfl, Nat.le_of_ble_eq_true rfl⟩ (Or.inr ⟨rfl, rfl⟩) rfl ?_
  refine aw_aload_n dX6_init_65 rfl ?_
  refine aw_bipush (v := 8) dX6_init_66 (by decide) ?_
  refine aw_newIY (o := 30) (N2 := 28) (n2 := 8) dX6_init_68 aw_arrI (by decide) (by decide) (by decide) ⟨Nat.le_of_ble_eq_true rfl, Nat.le_of_ble_eq_true rfl⟩ rfl rfl rfl (by rw [aw_u_ne (by decide)]; exact hI _ (by decide)) (hL _ (by decide)) ((va_up_nat (by decide)).trans rfl) (c2 := 8) rfl (s2 := 64) rfl ?_
  refine aw_putRY dX6_init_70 f6_37 rfl ⟨Nat.le_of_ble_eq_true rfl, Nat.le_of_ble_eq_true rfl⟩ (Or.inr ⟨rfl, rfl⟩) rfl ?_
  refine aw_aload_n dX6_init_73 rfl ?_
  refine aw_newY (cl := 4) (o := 31) (N2 := 29) dX6_init_74 (by decide) cl6_40 (aw_inst (by decide)) (aw_init (c := 4) (by decide)) ⟨Nat.le_of_ble_eq_true rfl, Nat.le_of_ble_eq_true rfl⟩ rfl rfl rfl (by rw [aw_u_ne (by decide)]; exact hI _ (by decide)) (hL _ (by decide)) (c2 := 9) rfl (s2 := 69) rfl ?_
  refine aw_dup dX6_init_77 rfl ?_
  refine aw_invIY (As := []) dX6_init_78 k6_42 rfl rfl (Nat.le_of_ble_eq_true rfl) ⟨⟨Nat.le_of_ble_eq_true rfl, Nat.le_of_ble_eq_true rfl⟩, ⟨Nat.le_of_ble_eq_true rfl, Nat.le_of_ble_eq_true rfl⟩⟩ (k_diary22 G (fun a ha => by rw [aw_u_ne (by omega)]; exact hI a (by omega)) (fun a ha => hL a (by omega)) (fun j => by rw [va_up_nat (by decide)]; rfl) (by rw [va_up_nat (by decide)]; rfl) (by rw [va_up_nat (by decide)]; rfl) (by rw [va_up_nat (by decide)]; rfl) (by rw [va_up_nat (by decide)]; rfl) (by rw [va_up_nat (by decide)]; rfl)) (c2 := 14) rfl (s2 := 333) rfl (fun v h2 hq => ?_)
  obtain ⟨rfl, I2, rfl, f2⟩ := hq
  refine aw_putRY dX6_init_81 f6_43 rfl ⟨Nat.le_of_ble_eq_true rfl, Nat.le_of_ble_eq_true rfl⟩ (Or.inr ⟨rfl, rfl⟩) rfl ?_
  refine aw_aload_n dX6_init_84 rfl ?_
  refine aw_iconst (v := -1) dX6_init_85 rfl ?_
  refine aw_putI dX6_init_86 f6_47 rfl ⟨Nat.le_of_ble_eq_true rfl, Nat.le_of_ble_eq_true rfl⟩ (Or.inl rfl) rfl ?_
  refine aw_aload_n dX6_init_89 rfl ?_
  refine aw_iconst (v := -1) dX6_init_90 rfl ?_
  refine aw_putI dX6_init_91 f6_50 rfl ⟨Nat.le_of_ble_eq_true rfl, Nat.le_of_ble_eq_true rfl⟩ (Or.inl rfl) rfl ?_
  refine aw_ret0 dX6_init_94 rfl ⟨Nat.le_of_ble_eq_true rfl, Nat.le_of_ble_eq_true rfl⟩ ?_
  rw [yR_full (k := k) (o := 22) (fun j => by
    match j with
    | 0 => rfl
    | 1 => rfl
    | 2 => rfl
    | 3 => rfl
    | 4 => rfl
    | 5 => rfl
    | 6 => rfl
    | 7 => rfl
    | 8 => rfl
    | 9 => rfl
    | j + 10 => rfl)]
  refine ⟨rfl, _, rfl, fun a ha hb => by rw [aw_u_ne ha, aw_u_ne ha, f2 a hb, aw_u_ne ha], ?_, ?_, ?_⟩
  · rw [aw_u_nj (by decide), aw_u_nj (by decide), f2 22 (by decide), aw_u_eq]
  · rw [aw_u_nj (by decide), aw_u_eq]
  · rw [aw_u_eq]
theorem k_diary44 (G : aw_G) {n : Nat} {R0 : Nat → Nat → Option Nat} {I : Nat → Nat → Int32} {L : Nat → Nat → Int64} (hI : ∀ a, 53 ≤ a → I a = fun _ => 0) (hL : ∀ a, 53 ≤ a → L a = fun _ => 0) (hR0 : ∀ j, R0 53 j = zR 12 53 j) (h54 : R0 54 = fun _ => none) (h55 : R0 55 = fun _ => none) (h56 : R0 56 = fun _ => none) (h57 : R0 57 = fun _ => none) (h58 : R0 58 = fun _ => none) : aw_Met G mX4_init [.ref 53] (zS n, I, L, va_up (R0) 53 (fun _ => none), 51) (fun v h2 => v = none ∧ ∃ I2, h2 = (zS n, I2, L, R0, 56) ∧ (∀ a, a ≠ 53 → I2 a = I a)) := by
  refine aw_Met.of okX4_init (Nat.le_of_ble_eq_true rfl) ?_
  show aw_W G mX4_init 0 [.ref 53] [] (zS n, I, L, va_up (R0) 53 (fun _ => none), 51) (0, 0) _
  refine aw_aload_n dX4_init_0 rfl ?_
  refine aw_obj dX4_init_1 ob4_3 ob_i ob_c ⟨Nat.le_of_ble_eq_true rfl, Nat.le_of_ble_eq_true rfl⟩ ?_
  refine aw_aload_n dX4_init_4 rfl ?_
  refine aw_bipush (v := 8) dX4_init_5 (by decide) ?_
  refine aw_newIY (o := 54) (N2 := 52) (n2 := 8) dX4_init_7 aw_arrI (by decide) (by decide) (by decide) ⟨Nat.le_of_ble_eq_true rfl, Nat.le_of_ble_eq_true rfl⟩ rfl rfl rfl (by exact hI _ (by decide)) (hL _ (by decide)) ((va_up_nat (by decide)).trans h54) (c2 := 1) rfl (s2 := 8) rfl ?_
  refine aw_putRY dX4_init_9 f4_9 rfl ⟨Nat.le_of_ble_eq_true rfl, Nat.le_of_ble_eq_true rfl⟩ (Or.inr ⟨rfl, rfl⟩) rfl ?_
  refine aw_aload_n dX4_init_12 rfl ?_
  refine aw_bipush (v := 64) dX4_init_13 (by decide) ?_
  refine aw_newIY (o := 55) (N2 := 53) (n2 := 64) dX4_init_15 aw_arrI (by decide) (by decide) (by decide) ⟨Nat.le_of_ble_eq_true rfl, Nat.le_of_ble_eq_true rfl⟩ rfl rfl rfl (by exact hI _ (by decide)) (hL _ (by decide)) ((va_up_nat (by decide)).trans h55) (c2 := 2) rfl (s2 := 72) rfl ?_
  refine aw_putRY dX4_init_17 f4_15 rfl ⟨Nat.le_of_ble_eq_true rfl, Nat.le_of_ble_eq_true rfl⟩ (Or.inr ⟨rfl, rfl⟩) rfl ?_
  refine aw_aload_n dX4_init_20 rfl ?_
  refine aw_bipush (v := 64) dX4_init_21 (by decide) ?_
  refine aw_newIY (o := 56) (N2 := 54) (n2 := 64) dX4_init_23 aw_arrI (by decide) (by decide) (by decide) ⟨Nat.le_of_ble_eq_true rfl, Nat.le_of_ble_eq_true rfl⟩ rfl rfl rfl (by exact hI _ (by decide)) (hL _ (by decide)) ((va_up_nat (by decide)).trans h56) (c2 := 3) rfl (s2 := 136) rfl ?_
  refine aw_putRY dX4_init_25 f4_18 rfl ⟨Nat.le_of_ble_eq_true rfl, Nat.le_of_ble_eq_true rfl⟩ (Or.inr ⟨rfl, rfl⟩) rfl ?_
  refine aw_aload_n dX4_init_28 rfl ?_
  refine aw_bipush (v := 64) dX4_init_29 (by decide) ?_
  refine aw_newIY (o := 57) (N2 := 55) (n2 := 64) dX4_init_31 aw_arrI (by decide) (by decide) (by decide) ⟨Nat.le_of_ble_eq_true rfl, Nat.le_of_ble_eq_true rfl⟩ rfl rfl rfl (by exact hI _ (by decide)) (hL _ (by decide)) ((va_up_nat (by decide)).trans h57) (c2 := 4) rfl (s2 := 200) rfl ?_
  refine aw_putRY dX4_init_33 f4_21 rfl ⟨Nat.le_of_ble_eq_true rfl, Nat.le_of_ble_eq_true rfl⟩ (Or.inr ⟨rfl, rfl⟩) rfl ?_
  refine aw_aload_n dX4_init_36 rfl ?_
  refine aw_bipush (v := 64) dX4_init_37 (by decide) ?_
  refine aw_newIY (o := 58) (N2 := 56) (n2 := 64) dX4_init_39 aw_arrI (by decide) (by decide) (by decide) ⟨Nat.le_of_ble_eq_true rfl, Nat.le_of_ble_eq_true rfl⟩ rfl rfl rfl (by exact hI _ (by decide)) (hL _ (by decide)) ((va_up_nat (by decide)).trans h58) (c2 := 5) rfl (s2 := 264) rfl ?_
  refine aw_putRY dX4_init_41 f4_24 rfl ⟨Nat.le_of_ble_eq_true rfl, Nat.le_of_ble_eq_true rfl⟩ (Or.inr ⟨rfl, rfl⟩) rfl ?_
  refine aw_ret0 dX4_init_44 rfl ⟨Nat.le_of_ble_eq_true rfl, Nat.le_of_ble_eq_true rfl⟩ ?_
  rw [va_up_id (f := R0) (i := 53) (funext (fun j => (hR0 j).trans (by
    match j with
    | 0 => rfl
    | 1 => rfl
    | 2 => rfl
    | 3 => rfl
    | 4 => rfl
    | j + 5 => rfl)))]
  refine ⟨rfl, _, rfl, fun a ha => rfl⟩
theorem k_run44 (G : aw_G) {n k : Nat} {I : Nat → Nat → Int32} {L : Nat → Nat → Int64} (hI : ∀ a, 44 ≤ a → I a = fun _ => 0) (hL : ∀ a, 44 ≤ a → L a = fun _ => 0) : aw_Met G mX6_init [.ref 44] (zS n, I, L, va_up (yR k) 44 (fun _ => none), 42) (fun v h2 => v = none ∧ ∃ I2, h2 = (zS n, I2, L, yR k, 56) ∧ (∀ a, a ≠ 44 → a ≠ 53 → I2 a = I a) ∧ I2 44 0 = 0 ∧ I2 44 10 = -1 ∧ I2 44 11 = -1) := by
  refine aw_Met.of okX6_init (Nat.le_of_ble_eq_true rfl) ?_
  show aw_W G mX6_init 0 [.ref 44] [] (zS n, I, L, va_up (yR k) 44 (fun _ => none), 42) (0, 0) _
  refine aw_aload_n dX6_init_0 rfl ?_
  refine aw_obj dX6_init_1 ob6_3 ob_i ob_c ⟨Nat.le_of_ble_eq_true rfl, Nat.le_of_ble_eq_true rfl⟩ ?_
  refine aw_aload_n dX6_init_4 rfl ?_
  refine aw_iconst (v := 0) dX6_init_5 rfl ?_
  refine aw_putI dX6_init_6 f6_9 rfl ⟨Nat.le_of_ble_eq_true rfl, Nat.le_of_ble_eq_true rfl⟩ (Or.inl rfl) rfl ?_
  refine aw_aload_n dX6_init_9 rfl ?_
  refine aw_bipush (v := 8) dX6_init_10 (by decide) ?_
  refine aw_newIY (o := 45) (N2 := 43) (n2 := 8) dX6_init_12 aw_arrI (by decide) (by decide) (by decide) ⟨Nat.le_of_ble_eq_true rfl, Nat.le_of_ble_eq_true rfl⟩ rfl rfl rfl (by rw [aw_u_ne (by decide)]; exact hI _ (by decide)) (hL _ (by decide)) ((va_up_nat (by decide)).trans rfl) (c2 := 1) rfl (s2 := 8) rfl ?_
  refine aw_putRY dX6_init_14 f6_15 rfl ⟨Nat.le_of_ble_eq_true rfl, Nat.le_of_ble_eq_true rfl⟩ (Or.inr ⟨rfl, rfl⟩) rfl ?_
  refine aw_aload_n dX6_init_17 rfl ?_
  refine aw_bipush (v := 8) dX6_init_18 (by decide) ?_
  refine aw_newIY (o := 46) (N2 := 44) (n2 := 8) dX6_init_20 aw_arrI (by decide) (by decide) (by decide) ⟨Nat.le_of_ble_eq_true rfl, Nat.le_of_ble_eq_true rfl⟩ rfl rfl rfl (by rw [aw_u_ne (by decide)]; exact hI _ (by decide)) (hL _ (by decide)) ((va_up_nat (by decide)).trans rfl) (c2 := 2) rfl (s2 := 16) rfl ?_
  refine aw_putRY dX6_init_22 f6_19 rfl ⟨Nat.le_of_ble_eq_true rfl, Nat.le_of_ble_eq_true rfl⟩ (Or.inr ⟨rfl, rfl⟩) rfl ?_
  refine aw_aload_n dX6_init_25 rfl ?_
  refine aw_bipush (v := 8) dX6_init_26 (by decide) ?_
  refine aw_newIY (o := 47) (N2 := 45) (n2 := 8) dX6_init_28 aw_arrI (by decide) (by decide) (by decide) ⟨Nat.le_of_ble_eq_true rfl, Nat.le_of_ble_eq_true rfl⟩ rfl rfl rfl (by rw [aw_u_ne (by decide)]; exact hI _ (by decide)) (hL _ (by decide)) ((va_up_nat (by decide)).trans rfl) (c2 := 3) rfl (s2 := 24) rfl ?_
  refine aw_putRY dX6_init_30 f6_22 rfl ⟨Nat.le_of_ble_eq_true rfl, Nat.le_of_ble_eq_true rfl⟩ (Or.inr ⟨rfl, rfl⟩) rfl ?_
  refine aw_aload_n dX6_init_33 rfl ?_
  refine aw_bipush (v := 8) dX6_init_34 (by decide) ?_
  refine aw_newIY (o := 48) (N2 := 46) (n2 := 8) dX6_init_36 aw_arrI (by decide) (by decide) (by decide) ⟨Nat.le_of_ble_eq_true rfl, Nat.le_of_ble_eq_true rfl⟩ rfl rfl rfl (by rw [aw_u_ne (by decide)]; exact hI _ (by decide)) (hL _ (by decide)) ((va_up_nat (by decide)).trans rfl) (c2 := 4) rfl (s2 := 32) rfl ?_
  refine aw_putRY dX6_init_38 f6_25 rfl ⟨Nat.le_of_ble_eq_true rfl, Nat.le_of_ble_eq_true rfl⟩ (Or.inr ⟨rfl, rfl⟩) rfl ?_
  refine aw_aload_n dX6_init_41 rfl ?_
  refine aw_bipush (v := 8) dX6_init_42 (by decide) ?_
  refine aw_newIY (o := 49) (N2 := 47) (n2 := 8) dX6_init_44 aw_arrI (by decide) (by decide) (by decide) ⟨Nat.le_of_ble_eq_true rfl, Nat.le_of_ble_eq_true rfl⟩ rfl rfl rfl (by rw [aw_u_ne (by decide)]; exact hI _ (by decide)) (hL _ (by decide)) ((va_up_nat (by decide)).trans rfl) (c2 := 5) rfl (s2 := 40) rfl ?_
  refine aw_putRY dX6_init_46 f6_28 rfl ⟨Nat.le_of_ble_eq_true rfl, Nat.le_of_ble_eq_true rfl⟩ (Or.inr ⟨rfl, rfl⟩) rfl ?_
  refine aw_aload_n dX6_init_49 rfl ?_
  refine aw_bipush (v := 8) dX6_init_50 (by decide) ?_
  refine aw_newIY (o := 50) (N2 := 48) (n2 := 8) dX6_init_52 aw_arrI (by decide) (by decide) (by decide) ⟨Nat.le_of_ble_eq_true rfl, Nat.le_of_ble_eq_true rfl⟩ rfl rfl rfl (by rw [aw_u_ne (by decide)]; exact hI _ (by decide)) (hL _ (by decide)) ((va_up_nat (by decide)).trans rfl) (c2 := 6) rfl (s2 := 48) rfl ?_
  refine aw_putRY dX6_init_54 f6_31 rfl ⟨Nat.le_of_ble_eq_true rfl, Nat.le_of_ble_eq_true rfl⟩ (Or.inr ⟨rfl, rfl⟩) rfl ?_
  refine aw_aload_n dX6_init_57 rfl ?_
  refine aw_bipush (v := 8) dX6_init_58 (by decide) ?_
  refine aw_newIY (o := 51) (N2 := 49) (n2 := 8) dX6_init_60 aw_arrI (by decide) (by decide) (by decide) ⟨Nat.le_of_ble_eq_true rfl, Nat.le_of_ble_eq_true rfl⟩ rfl rfl rfl (by rw [aw_u_ne (by decide)]; exact hI _ (by decide)) (hL _ (by decide)) ((va_up_nat (by decide)).trans rfl) (c2 := 7) rfl (s2 := 56) rfl ?_
  refine aw_putRY dX6_init_62 f6_34 rfl ⟨Nat.le_of_ble_eq_true rfl, Nat.le_of_ble_eq_true rfl⟩ (Or.inr ⟨rfl, rfl⟩) rfl ?_
  refine aw_aload_n dX6_init_65 rfl ?_
  refine aw_bipush (v := 8) dX6_init_66 (by decide) ?_
  refine aw_newIY (o := 52) (N2 := 50) (n2 := 8) dX6_init_68 aw_arrI (by decide) (by decide) (by decide) ⟨Nat.le_of_ble_eq_true rfl, Nat.le_of_ble_eq_true rfl⟩ rfl rfl rfl (by rw [aw_u_ne (by decide)]; exact hI _ (by decide)) (hL _ (by decide)) ((va_up_nat (by decide)).trans rfl) (c2 := 8) rfl (s2 := 64) rfl ?_
  refine aw_putRY dX6_init_70 f6_37 rfl ⟨Nat.le_of_ble_eq_true rfl, Nat.le_of_ble_eq_true rfl⟩ (Or.inr ⟨rfl, rfl⟩) rfl ?_
  refine aw_aload_n dX6_init_73 rfl ?_
  refine aw_newY (cl := 4) (o := 53) (N2 := 51) dX6_init_74 (by decide) cl6_40 (aw_inst (by decide)) (aw_init (c := 4) (by decide)) ⟨Nat.le_of_ble_eq_true rfl, Nat.le_of_ble_eq_true rfl⟩ rfl rfl rfl (by rw [aw_u_ne (by decide)]; exact hI _ (by decide)) (hL _ (by decide)) (c2 := 9) rfl (s2 := 69) rfl ?_
  refine aw_dup dX6_init_77 rfl ?_
  refine aw_invIY (As := []) dX6_init_78 k6_42 rfl rfl (Nat.le_of_ble_eq_true rfl) ⟨⟨Nat.le_of_ble_eq_true rfl, Nat.le_of_ble_eq_true rfl⟩, ⟨Nat.le_of_ble_eq_true rfl, Nat.le_of_ble_eq_true rfl⟩⟩ (k_diary44 G (fun a ha => by rw [aw_u_ne (by omega)]; exact hI a (by omega)) (fun a ha => hL a (by omega)) (fun j => by rw [va_up_nat (by decide)]; rfl) (by rw [va_up_nat (by decide)]; rfl) (by rw [va_up_nat (by decide)]; rfl) (by rw [va_up_nat (by decide)]; rfl) (by rw [va_up_nat (by decide)]; rfl) (by rw [va_up_nat (by decide)]; rfl)) (c2 := 14) rfl (s2 := 333) rfl (fun v h2 hq => ?_)
  obtain ⟨rfl, I2, rfl, f2⟩ := hq
  refine aw_putRY dX6_init_81 f6_43 rfl ⟨Nat.le_of_ble_eq_true rfl, Nat.le_of_ble_eq_true rfl⟩ (Or.inr ⟨rfl, rfl⟩) rfl ?_
  refine aw_aload_n dX6_init_84 rfl ?_
  refine aw_iconst (v := -1) dX6_init_85 rfl ?_
  refine aw_putI dX6_init_86 f6_47 rfl ⟨Nat.le_of_ble_eq_true rfl, Nat.le_of_ble_eq_true rfl⟩ (Or.inl rfl) rfl ?_
  refine aw_aload_n dX6_init_89 rfl ?_
  refine aw_iconst (v := -1) dX6_init_90 rfl ?_
  refine aw_putI dX6_init_91 f6_50 rfl ⟨Nat.le_of_ble_eq_true rfl, Nat.le_of_ble_eq_true rfl⟩ (Or.inl rfl) rfl ?_
  refine aw_ret0 dX6_init_94 rfl ⟨Nat.le_of_ble_eq_true rfl, Nat.le_of_ble_eq_true rfl⟩ ?_
  rw [yR_full (k := k) (o := 44) (fun j => by
    match j with
    | 0 => rfl
    | 1 => rfl
    | 2 => rfl
    | 3 => rfl
    | 4 => rfl
    | 5 => rfl
    | 6 => rfl
    | 7 => rfl
    | 8 => rfl
    | 9 => rfl
    | j + 10 => rfl)]
  refine ⟨rfl, _, rfl, fun a ha hb => by rw [aw_u_ne ha, aw_u_ne ha, f2 a hb, aw_u_ne ha], ?_, ?_, ?_⟩
  · rw [aw_u_nj (by decide), aw_u_nj (by decide), f2 44 (by decide), aw_u_eq]
  · rw [aw_u_nj (by decide), aw_u_eq]
  · rw [aw_u_eq]
theorem k_chart60 (G : aw_G) {n : Nat} {R0 : Nat → Nat → Option Nat} {I : Nat → Nat → Int32} {L : Nat → Nat → Int64} (hI : ∀ a, 60 ≤ a → I a = fun _ => 0) (hL : ∀ a, 60 ≤ a → L a = fun _ => 0) (hR0 : ∀ j, R0 60 j = zR 12 60 j) (h61 : R0 61 = fun _ => none) (h62 : R0 62 = fun _ => none) (h63 : R0 63 = fun _ => none) : aw_Met G mX2_init [.ref 60] (zS n, I, L, va_up (R0) 60 (fun _ => none), 58) (fun v h2 => v = none ∧ ∃ I2, h2 = (zS n, I2, L, R0, 61) ∧ (∀ a, a ≠ 60 → I2 a = I a)) := by
  refine aw_Met.of okX2_init (Nat.le_of_ble_eq_true rfl) ?_
  show aw_W G mX2_init 0 [.ref 60] [] (zS n, I, L, va_up (R0) 60 (fun _ => none), 58) (0, 0) _
  refine aw_aload_n dX2_init_0 rfl ?_
  refine aw_obj dX2_init_1 ob2_3 ob_i ob_c ⟨Nat.le_of_ble_eq_true rfl, Nat.le_of_ble_eq_true rfl⟩ ?_
  refine aw_aload_n dX2_init_4 rfl ?_
  refine aw_bipush (v := 64) dX2_init_5 (by decide) ?_
  refine aw_newIY (o := 61) (N2 := 59) (n2 := 64) dX2_init_7 aw_arrI (by decide) (by decide) (by decide) ⟨Nat.le_of_ble_eq_true rfl, Nat.le_of_ble_eq_true rfl⟩ rfl rfl rfl (by exact hI _ (by decide)) (hL _ (by decide)) ((va_up_nat (by decide)).trans h61) (c2 := 1) rfl (s2 := 64) rfl ?_
  refine aw_putRY dX2_init_9 f2_9 rfl ⟨Nat.le_of_ble_eq_true rfl, Nat.le_of_ble_eq_true rfl⟩ (Or.inr ⟨rfl, rfl⟩) rfl ?_
  refine aw_aload_n dX2_init_12 rfl ?_
  refine aw_bipush (v := 64) dX2_init_13 (by decide) ?_
  refine aw_newIY (o := 62) (N2 := 60) (n2 := 64) dX2_init_15 aw_arrI (by decide) (by decide) (by decide) ⟨Nat.le_of_ble_eq_true rfl, Nat.le_of_ble_eq_true rfl⟩ rfl rfl rfl (by exact hI _ (by decide)) (hL _ (by decide)) ((va_up_nat (by decide)).trans h62) (c2 := 2) rfl (s2 := 128) rfl ?_
  refine aw_putRY dX2_init_17 f2_15 rfl ⟨Nat.le_of_ble_eq_true rfl, Nat.le_of_ble_eq_true rfl⟩ (Or.inr ⟨rfl, rfl⟩) rfl ?_
  refine aw_aload_n dX2_init_20 rfl ?_
  refine aw_bipush (v := 64) dX2_init_21 (by decide) ?_
  refine aw_newIY (o := 63) (N2 := 61) (n2 := 64) dX2_init_23 aw_arrI (by decide) (by decide) (by decide) ⟨Nat.le_of_ble_eq_true rfl, Nat.le_of_ble_eq_true rfl⟩ rfl rfl rfl (by exact hI _ (by decide)) (hL _ (by decide)) ((va_up_nat (by decide)).trans h63) (c2 := 3) rfl (s2 := 192) rfl ?_
  refine aw_putRY dX2_init_25 f2_18 rfl ⟨Nat.le_of_ble_eq_true rfl, Nat.le_of_ble_eq_true rfl⟩ (Or.inr ⟨rfl, rfl⟩) rfl ?_
  refine aw_ret0 dX2_init_28 rfl ⟨Nat.le_of_ble_eq_true rfl, Nat.le_of_ble_eq_true rfl⟩ ?_
  rw [va_up_id (f := R0) (i := 60) (funext (fun j => (hR0 j).trans (by
    match j with
    | 0 => rfl
    | 1 => rfl
    | 2 => rfl
    | j + 3 => rfl)))]
  refine ⟨rfl, _, rfl, fun a ha => rfl⟩
theorem k_plans (G : aw_G) {n k : Nat} {I : Nat → Nat → Int32} {L : Nat → Nat → Int64} (hI : ∀ a, 59 ≤ a → I a = fun _ => 0) (hL : ∀ a, 59 ≤ a → L a = fun _ => 0) : aw_Met G mX5_init [.ref 59, .ref 11, .ref 37, .ref 44] (zS n, I, L, va_up (yR k) 59 (fun _ => none), 57) (fun v h2 => v = none ∧ ∃ I2, h2 = (zS n, I2, L, yR k, 61) ∧ (∀ a, a ≠ 59 → a ≠ 60 → I2 a = I a)) := by
  refine aw_Met.of okX5_init (Nat.le_of_ble_eq_true rfl) ?_
  show aw_W G mX5_init 0 [.ref 59, .ref 11, .ref 37, .ref 44] [] (zS n, I, L, va_up (yR k) 59 (fun _ => none), 57) (0, 0) _
  refine aw_aload_n dX5_init_0 rfl ?_
  refine aw_obj dX5_init_1 ob5_3 ob_i ob_c ⟨Nat.le_of_ble_eq_true rfl, Nat.le_of_ble_eq_true rfl⟩ ?_
  refine aw_aload_n dX5_init_4 rfl ?_
  refine aw_newY (cl := 2) (o := 60) (N2 := 58) dX5_init_5 (by decide) cl5_9 (aw_inst (by decide)) (aw_init (c := 2) (by decide)) ⟨Nat.le_of_ble_eq_true rfl, Nat.le_of_ble_eq_true rfl⟩ rfl rfl rfl (by exact hI _ (by decide)) (hL _ (by decide)) (c2 := 1) rfl (s2 := 3) rfl ?_
  refine aw_dup dX5_init_8 rfl ?_
  refine aw_invIY (As := []) dX5_init_9 k5_11 rfl rfl (Nat.le_of_ble_eq_true rfl) ⟨⟨Nat.le_of_ble_eq_true rfl, Nat.le_of_ble_eq_true rfl⟩, ⟨Nat.le_of_ble_eq_true rfl, Nat.le_of_ble_eq_true rfl⟩⟩ (k_chart60 G (fun a ha => hI a (by omega)) (fun a ha => hL a (by omega)) (fun j => by rw [va_up_nat (by decide)]; rfl) (by rw [va_up_nat (by decide)]; rfl) (by rw [va_up_nat (by decide)]; rfl) (by rw [va_up_nat (by decide)]; rfl)) (c2 := 4) rfl (s2 := 195) rfl (fun v h2 hq => ?_)
  obtain ⟨rfl, I2, rfl, f2⟩ := hq
  refine aw_putRY dX5_init_12 f5_12 rfl ⟨Nat.le_of_ble_eq_true rfl, Nat.le_of_ble_eq_true rfl⟩ (Or.inr ⟨rfl, rfl⟩) rfl ?_
  refine aw_aload_n dX5_init_15 rfl ?_
  refine aw_iconst (v := -1) dX5_init_16 rfl ?_
  refine aw_putI dX5_init_17 f5_18 rfl ⟨Nat.le_of_ble_eq_true rfl, Nat.le_of_ble_eq_true rfl⟩ (Or.inl rfl) rfl ?_
  refine aw_aload_n dX5_init_20 rfl ?_
  refine aw_iconst (v := -1) dX5_init_21 rfl ?_
  refine aw_putI dX5_init_22 f5_22 rfl ⟨Nat.le_of_ble_eq_true rfl, Nat.le_of_ble_eq_true rfl⟩ (Or.inl rfl) rfl ?_
  refine aw_aload_n dX5_init_25 rfl ?_
  refine aw_iconst (v := -1) dX5_init_26 rfl ?_
  refine aw_putI dX5_init_27 f5_25 rfl ⟨Nat.le_of_ble_eq_true rfl, Nat.le_of_ble_eq_true rfl⟩ (Or.inl rfl) rfl ?_
  refine aw_aload_n dX5_init_30 rfl ?_
  refine aw_aload_n dX5_init_31 rfl ?_
  refine aw_putRY dX5_init_32 f5_28 rfl ⟨Nat.le_of_ble_eq_true rfl, Nat.le_of_ble_eq_true rfl⟩ (Or.inr ⟨rfl, rfl⟩) rfl ?_
  refine aw_aload_n dX5_init_35 rfl ?_
  refine aw_aload_n dX5_init_36 rfl ?_
  refine aw_putRY dX5_init_37 f5_32 rfl ⟨Nat.le_of_ble_eq_true rfl, Nat.le_of_ble_eq_true rfl⟩ (Or.inr ⟨rfl, rfl⟩) rfl ?_
  refine aw_aload_n dX5_init_40 rfl ?_
  refine aw_aload_n dX5_init_41 rfl ?_
  refine aw_putRY dX5_init_42 f5_35 rfl ⟨Nat.le_of_ble_eq_true rfl, Nat.le_of_ble_eq_true rfl⟩ (Or.inr ⟨rfl, rfl⟩) rfl ?_
  refine aw_ret0 dX5_init_45 rfl ⟨Nat.le_of_ble_eq_true rfl, Nat.le_of_ble_eq_true rfl⟩ ?_
  rw [yR_full (k := k) (o := 59) (fun j => by
    match j with
    | 0 => rfl
    | 1 => rfl
    | 2 => rfl
    | 3 => rfl
    | j + 4 => rfl)]
  exact ⟨rfl, _, rfl, fun a ha hb => by rw [aw_u_ne ha, aw_u_ne ha, aw_u_ne ha]; exact f2 a hb⟩
theorem k_clues (G : aw_G) {n k : Nat} {I : Nat → Nat → Int32} {L : Nat → Nat → Int64} (hI : ∀ a, 64 ≤ a → I a = fun _ => 0) (hL : ∀ a, 64 ≤ a → L a = fun _ => 0) : aw_Met G mX3_init [.ref 64, .ref 11, .ref 37, .ref 44] (zS n, I, L, va_up (yR k) 64 (fun _ => none), 62) (fun v h2 => v = none ∧ ∃ I2, h2 = (zS n, I2, L, yR k, 67) ∧ (∀ a, a ≠ 64 → I2 a = I a) ∧ I2 64 9 = 0) := by
  refine aw_Met.of okX3_init (Nat.le_of_ble_eq_true rfl) ?_
  show aw_W G mX3_init 0 [.ref 64, .ref 11, .ref 37, .ref 44] [] (zS n, I, L, va_up (yR k) 64 (fun _ => none), 62) (0, 0) _
  refine aw_aload_n dX3_init_0 rfl ?_
  refine aw_obj dX3_init_1 ob3_3 ob_i ob_c ⟨Nat.le_of_ble_eq_true rfl, Nat.le_of_ble_eq_true rfl⟩ ?_
  refine aw_aload_n dX3_init_4 rfl ?_
  refine aw_bipush (v := 8) dX3_init_5 (by decide) ?_
  refine aw_newIY (o := 65) (N2 := 63) (n2 := 8) dX3_init_7 aw_arrI (by decide) (by decide) (by decide) ⟨Nat.le_of_ble_eq_true rfl, Nat.le_of_ble_eq_true rfl⟩ rfl rfl rfl (by exact hI _ (by decide)) (hL _ (by decide)) ((va_up_nat (by decide)).trans rfl) (c2 := 1) rfl (s2 := 8) rfl ?_
  refine aw_putRY dX3_init_9 f3_9 rfl ⟨Nat.le_of_ble_eq_true rfl, Nat.le_of_ble_eq_true rfl⟩ (Or.inr ⟨rfl, rfl⟩) rfl ?_
  refine aw_aload_n dX3_init_12 rfl ?_
  refine aw_bipush (v := 8) dX3_init_13 (by decide) ?_
  refine aw_newIY (o := 66) (N2 := 64) (n2 := 8) dX3_init_15 aw_arrI (by decide) (by decide) (by decide) ⟨Nat.le_of_ble_eq_true rfl, Nat.le_of_ble_eq_true rfl⟩ rfl rfl rfl (by exact hI _ (by decide)) (hL _ (by decide)) ((va_up_nat (by decide)).trans rfl) (c2 := 2) rfl (s2 := 16) rfl ?_
  refine aw_putRY dX3_init_17 f3_15 rfl ⟨Nat.le_of_ble_eq_true rfl, Nat.le_of_ble_eq_true rfl⟩ (Or.inr ⟨rfl, rfl⟩) rfl ?_
  refine aw_aload_n dX3_init_20 rfl ?_
  refine aw_bipush (v := 8) dX3_init_21 (by decide) ?_
  refine aw_newIY (o := 67) (N2 := 65) (n2 := 8) dX3_init_23 aw_arrI (by decide) (by decide) (by decide) ⟨Nat.le_of_ble_eq_true rfl, Nat.le_of_ble_eq_true rfl⟩ rfl rfl rfl (by exact hI _ (by decide)) (hL _ (by decide)) ((va_up_nat (by decide)).trans rfl) (c2 := 3) rfl (s2 := 24) rfl ?_
  refine aw_putRY dX3_init_25 f3_18 rfl ⟨Nat.le_of_ble_eq_true rfl, Nat.le_of_ble_eq_true rfl⟩ (Or.inr ⟨rfl, rfl⟩) rfl ?_
  refine aw_aload_n dX3_init_28 rfl ?_
  refine aw_iconst (v := 3) dX3_init_29 rfl ?_
  refine aw_newIY (o := 68) (N2 := 66) (n2 := 3) dX3_init_30 aw_arrI (by decide) (by decide) (by decide) ⟨Nat.le_of_ble_eq_true rfl, Nat.le_of_ble_eq_true rfl⟩ rfl rfl rfl (by exact hI _ (by decide)) (hL _ (by decide)) ((va_up_nat (by decide)).trans rfl) (c2 := 4) rfl (s2 := 27) rfl ?_
  refine aw_putRY dX3_init_32 f3_21 rfl ⟨Nat.le_of_ble_eq_true rfl, Nat.le_of_ble_eq_true rfl⟩ (Or.inr ⟨rfl, rfl⟩) rfl ?_
  refine aw_aload_n dX3_init_35 rfl ?_
  refine aw_iconst (v := 3) dX3_init_36 rfl ?_
  refine aw_newIY (o := 69) (N2 := 67) (n2 := 3) dX3_init_37 aw_arrI (by decide) (by decide) (by decide) ⟨Nat.le_of_ble_eq_true rfl, Nat.le_of_ble_eq_true rfl⟩ rfl rfl rfl (by exact hI _ (by decide)) (hL _ (by decide)) ((va_up_nat (by decide)).trans rfl) (c2 := 5) rfl (s2 := 30) rfl ?_
  refine aw_putRY dX3_init_39 f3_24 rfl ⟨Nat.le_of_ble_eq_true rfl, Nat.le_of_ble_eq_true rfl⟩ (Or.inr ⟨rfl, rfl⟩) rfl ?_
  refine aw_aload_n dX3_init_42 rfl ?_
  refine aw_iconst (v := 0) dX3_init_43 rfl ?_
  refine aw_putI dX3_init_44 f3_27 rfl ⟨Nat.le_of_ble_eq_true rfl, Nat.le_of_ble_eq_true rfl⟩ (Or.inl rfl) rfl ?_
  refine aw_aload_n dX3_init_47 rfl ?_
  refine aw_iconst (v := 0) dX3_init_48 rfl ?_
  refine aw_putI dX3_init_49 f3_31 rfl ⟨Nat.le_of_ble_eq_true rfl, Nat.le_of_ble_eq_true rfl⟩ (Or.inl rfl) rfl ?_
  refine aw_aload_n dX3_init_52 rfl ?_
  refine aw_iconst (v := 0) dX3_init_53 rfl ?_
  refine aw_putI dX3_init_54 f3_34 rfl ⟨Nat.le_of_ble_eq_true rfl, Nat.le_of_ble_eq_true rfl⟩ (Or.inl rfl) rfl ?_
  refine aw_aload_n dX3_init_57 rfl ?_
  refine aw_iconst (v := -1) dX3_init_58 rfl ?_
  refine aw_putI dX3_init_59 f3_37 rfl ⟨Nat.le_of_ble_eq_true rfl, Nat.le_of_ble_eq_true rfl⟩ (Or.inl rfl) rfl ?_
  refine aw_aload_n dX3_init_62 rfl ?_
  refine aw_iconst (v := -1) dX3_init_63 rfl ?_
  refine aw_putI dX3_init_64 f3_40 rfl ⟨Nat.le_of_ble_eq_true rfl, Nat.le_of_ble_eq_true rfl⟩ (Or.inl rfl) rfl ?_
  refine aw_aload_n dX3_init_67 rfl ?_
  refine aw_aload_n dX3_init_68 rfl ?_
  refine aw_putRY dX3_init_69 f3_43 rfl ⟨Nat.le_of_ble_eq_true rfl, Nat.le_of_ble_eq_true rfl⟩ (Or.inr ⟨rfl, rfl⟩) rfl ?_
  refine aw_aload_n dX3_init_72 rfl ?_
  refine aw_aload_n dX3_init_73 rfl ?_
  refine aw_putRY dX3_init_74 f3_47 rfl ⟨Nat.le_of_ble_eq_true rfl, Nat.le_of_ble_eq_true rfl⟩ (Or.inr ⟨rfl, rfl⟩) rfl ?_
  refine aw_aload_n dX3_init_77 rfl ?_
  refine aw_aload_n dX3_init_78 rfl ?_
  refine aw_putRY dX3_init_79 f3_50 rfl ⟨Nat.le_of_ble_eq_true rfl, Nat.le_of_ble_eq_true rfl⟩ (Or.inr ⟨rfl, rfl⟩) rfl ?_
  refine aw_ret0 dX3_init_82 rfl ⟨Nat.le_of_ble_eq_true rfl, Nat.le_of_ble_eq_true rfl⟩ ?_
  rw [yR_full (k := k) (o := 64) (fun j => by
    match j with
    | 0 => rfl
    | 1 => rfl
    | 2 => rfl
    | 3 => rfl
    | 4 => rfl
    | 5 => rfl
    | 6 => rfl
    | 7 => rfl
    | j + 8 => rfl)]
  refine ⟨rfl, _, rfl, fun a ha => by rw [aw_u_ne ha, aw_u_ne ha, aw_u_ne ha, aw_u_ne ha, aw_u_ne ha], by rw [aw_u_nj (by decide), aw_u_nj (by decide), aw_u_nj (by decide), aw_u_eq]⟩
theorem k_chances (G : aw_G) {n k : Nat} {I : Nat → Nat → Int32} {L : Nat → Nat → Int64} (hI : ∀ a, 70 ≤ a → I a = fun _ => 0) (hL : ∀ a, 70 ≤ a → L a = fun _ => 0) : aw_Met G mX1_init [.ref 70, .ref 11, .ref 37, .ref 44] (zS n, I, L, va_up (yR k) 70 (fun _ => none), 68) (fun v h2 => v = none ∧ ∃ I2 L2, h2 = (zS n, I2, L2, yR k, 69) ∧ (∀ a, a ≠ 70 → I2 a = I a) ∧ (∀ a, a ≠ 70 → L2 a = L a)) := by
  refine aw_Met.of okX1_init (Nat.le_of_ble_eq_true rfl) ?_
  show aw_W G mX1_init 0 [.ref 70, .ref 11, .ref 37, .ref 44] [] (zS n, I, L, va_up (yR k) 70 (fun _ => none), 68) (0, 0) _
  refine aw_aload_n dX1_init_0 rfl ?_
  refine aw_obj dX1_init_1 ob1_3 ob_i ob_c ⟨Nat.le_of_ble_eq_true rfl, Nat.le_of_ble_eq_true rfl⟩ ?_
  refine aw_aload_n dX1_init_4 rfl ?_
  refine aw_bipush (v := 8) dX1_init_5 (by decide) ?_
  refine aw_newLY (o := 71) (N2 := 69) (n2 := 8) dX1_init_7 aw_arrL (by decide) (by decide) (by decide) ⟨Nat.le_of_ble_eq_true rfl, Nat.le_of_ble_eq_true rfl⟩ rfl rfl rfl (by exact hI _ (by decide)) (hL _ (by decide)) ((va_up_nat (by decide)).trans rfl) (c2 := 1) rfl (s2 := 8) rfl ?_
  refine aw_putRY dX1_init_9 f1_9 rfl ⟨Nat.le_of_ble_eq_true rfl, Nat.le_of_ble_eq_true rfl⟩ (Or.inr ⟨rfl, rfl⟩) rfl ?_
  refine aw_aload_n dX1_init_12 rfl ?_
  refine aw_lconst (v := 1) dX1_init_13 rfl ?_
  refine aw_putL dX1_init_14 f1_15 rfl ⟨Nat.le_of_ble_eq_true rfl, Nat.le_of_ble_eq_true rfl⟩ (Or.inl rfl) rfl ?_
  refine aw_aload_n dX1_init_17 rfl ?_
  refine aw_lconst (v := 0) dX1_init_18 rfl ?_
  refine aw_putL dX1_init_19 f1_19 rfl ⟨Nat.le_of_ble_eq_true rfl, Nat.le_of_ble_eq_true rfl⟩ (Or.inl rfl) rfl ?_
  refine aw_aload_n dX1_init_22 rfl ?_
  refine aw_lconst (v := 1) dX1_init_23 rfl ?_
  refine aw_putL dX1_init_24 f1_22 rfl ⟨Nat.le_of_ble_eq_true rfl, Nat.le_of_ble_eq_true rfl⟩ (Or.inl rfl) rfl ?_
  refine aw_aload_n dX1_init_27 rfl ?_
  refine aw_aload_n dX1_init_28 rfl ?_
  refine aw_putRY dX1_init_29 f1_25 rfl ⟨Nat.le_of_ble_eq_true rfl, Nat.le_of_ble_eq_true rfl⟩ (Or.inr ⟨rfl, rfl⟩) rfl ?_
  refine aw_aload_n dX1_init_32 rfl ?_
  refine aw_aload_n dX1_init_33 rfl ?_
  refine aw_putRY dX1_init_34 f1_29 rfl ⟨Nat.le_of_ble_eq_true rfl, Nat.le_of_ble_eq_true rfl⟩ (Or.inr ⟨rfl, rfl⟩) rfl ?_
  refine aw_aload_n dX1_init_37 rfl ?_
  refine aw_aload_n dX1_init_38 rfl ?_
  refine aw_putRY dX1_init_39 f1_32 rfl ⟨Nat.le_of_ble_eq_true rfl, Nat.le_of_ble_eq_true rfl⟩ (Or.inr ⟨rfl, rfl⟩) rfl ?_
  refine aw_ret0 dX1_init_42 rfl ⟨Nat.le_of_ble_eq_true rfl, Nat.le_of_ble_eq_true rfl⟩ ?_
  rw [yR_full (k := k) (o := 70) (fun j => by
    match j with
    | 0 => rfl
    | 1 => rfl
    | 2 => rfl
    | 3 => rfl
    | j + 4 => rfl)]
  refine ⟨rfl, _, _, rfl, fun a ha => rfl, fun a ha => by rw [aw_u_ne ha, aw_u_ne ha, aw_u_ne ha]⟩
theorem k_sheet0 (G : aw_G) {n : Nat} {R0 : Nat → Nat → Option Nat} {I : Nat → Nat → Int32} {L : Nat → Nat → Int64} (hI : ∀ a, 73 ≤ a → I a = fun _ => 0) (hL : ∀ a, 73 ≤ a → L a = fun _ => 0) (hR0 : ∀ j, R0 73 j = zR 12 73 j) (h74 : R0 74 = fun _ => none) : aw_Met G mX8_init [.ref 73] (zS n, I, L, va_up (R0) 73 (fun _ => none), 71) (fun v h2 => v = none ∧ ∃ I2, h2 = (zS n, I2, L, R0, 72) ∧ (∀ a, a ≠ 73 → I2 a = I a) ∧ I2 73 1 = 0 ∧ I2 73 2 = 0 ∧ I2 73 3 = 1) := by
  refine aw_Met.of okX8_init (Nat.le_of_ble_eq_true rfl) ?_
  show aw_W G mX8_init 0 [.ref 73] [] (zS n, I, L, va_up (R0) 73 (fun _ => none), 71) (0, 0) _
  refine aw_aload_n dX8_init_0 rfl ?_
  refine aw_obj dX8_init_1 ob8_3 ob_i ob_c ⟨Nat.le_of_ble_eq_true rfl, Nat.le_of_ble_eq_true rfl⟩ ?_
  refine aw_aload_n dX8_init_4 rfl ?_
  refine aw_bipush (v := 60) dX8_init_5 (by decide) ?_
  refine aw_newIY (o := 74) (N2 := 72) (n2 := 60) dX8_init_7 aw_arrI (by decide) (by decide) (by decide) ⟨Nat.le_of_ble_eq_true rfl, Nat.le_of_ble_eq_true rfl⟩ rfl rfl rfl (by exact hI _ (by decide)) (hL _ (by decide)) ((va_up_nat (by decide)).trans h74) (c2 := 1) rfl (s2 := 60) rfl ?_
  refine aw_putRY dX8_init_9 f8_9 rfl ⟨Nat.le_of_ble_eq_true rfl, Nat.le_of_ble_eq_true rfl⟩ (Or.inr ⟨rfl, rfl⟩) rfl ?_
  refine aw_aload_n dX8_init_12 rfl ?_
  refine aw_iconst (v := 0) dX8_init_13 rfl ?_
  refine aw_putI dX8_init_14 f8_15 rfl ⟨Nat.le_of_ble_eq_true rfl, Nat.le_of_ble_eq_true rfl⟩ (Or.inl rfl) rfl ?_
  refine aw_aload_n dX8_init_17 rfl ?_
  refine aw_iconst (v := 0) dX8_init_18 rfl ?_
  refine aw_putI dX8_init_19 f8_19 rfl ⟨Nat.le_of_ble_eq_true rfl, Nat.le_of_ble_eq_true rfl⟩ (Or.inl rfl) rfl ?_
  refine aw_aload_n dX8_init_22 rfl ?_
  refine aw_iconst (v := 1) dX8_init_23 rfl ?_
  refine aw_putZ dX8_init_24 f8_22 rfl ⟨Nat.le_of_ble_eq_true rfl, Nat.le_of_ble_eq_true rfl⟩ (Or.inl rfl) rfl (by decide) ?_
  refine aw_ret0 dX8_init_27 rfl ⟨Nat.le_of_ble_eq_true rfl, Nat.le_of_ble_eq_true rfl⟩ ?_
  rw [va_up_id (f := R0) (i := 73) (funext (fun j => (hR0 j).trans (by
    match j with
    | 0 => rfl
    | j + 1 => rfl)))]
  refine ⟨rfl, _, rfl, fun a ha => by rw [aw_u_ne ha, aw_u_ne ha, aw_u_ne ha], by rw [aw_u_nj (by decide), aw_u_nj (by decide), aw_u_eq], by rw [aw_u_nj (by decide), aw_u_eq], by rw [aw_u_eq]⟩
theorem k_sheet1 (G : aw_G) {n : Nat} {R0 : Nat → Nat → Option Nat} {I : Nat → Nat → Int32} {L : Nat → Nat → Int64} (hI : ∀ a, 75 ≤ a → I a = fun _ => 0) (hL : ∀ a, 75 ≤ a → L a = fun _ => 0) (hR0 : ∀ j, R0 75 j = zR 12 75 j) (h76 : R0 76 = fun _ => none) : aw_Met G mX8_init [.ref 75] (zS n, I, L, va_up (R0) 75 (fun _ => none), 73) (fun v h2 => v = none ∧ ∃ I2, h2 = (zS n, I2, L, R0, 74) ∧ (∀ a, a ≠ 75 → I2 a = I a) ∧ I2 75 1 = 0 ∧ I2 75 2 = 0 ∧ I2 75 3 = 1) := by
  refine aw_Met.of okX8_init (Nat.le_of_ble_eq_true rfl) ?_
  show aw_W G mX8_init 0 [.ref 75] [] (zS n, I, L, va_up (R0) 75 (fun _ => none), 73) (0, 0) _
  refine aw_aload_n dX8_init_0 rfl ?_
  refine aw_obj dX8_init_1 ob8_3 ob_i ob_c ⟨Nat.le_of_ble_eq_true rfl, Nat.le_of_ble_eq_true rfl⟩ ?_
  refine aw_aload_n dX8_init_4 rfl ?_
  refine aw_bipush (v := 60) dX8_init_5 (by decide) ?_
  refine aw_newIY (o := 76) (N2 := 74) (n2 := 60) dX8_init_7 aw_arrI (by decide) (by decide) (by decide) ⟨Nat.le_of_ble_eq_true rfl, Nat.le_of_ble_eq_true rfl⟩ rfl rfl rfl (by exact hI _ (by decide)) (hL _ (by decide)) ((va_up_nat (by decide)).trans h76) (c2 := 1) rfl (s2 := 60) rfl ?_
  refine aw_putRY dX8_init_9 f8_9 rfl ⟨Nat.le_of_ble_eq_true rfl, Nat.le_of_ble_eq_true rfl⟩ (Or.inr ⟨rfl, rfl⟩) rfl ?_
  refine aw_aload_n dX8_init_12 rfl ?_
  refine aw_iconst (v := 0) dX8_init_13 rfl ?_
  refine aw_putI dX8_init_14 f8_15 rfl ⟨Nat.le_of_ble_eq_true rfl, Nat.le_of_ble_eq_true rfl⟩ (Or.inl rfl) rfl ?_
  refine aw_aload_n dX8_init_17 rfl ?_
  refine aw_iconst (v := 0) dX8_init_18 rfl ?_
  refine aw_putI dX8_init_19 f8_19 rfl ⟨Nat.le_of_ble_eq_true rfl, Nat.le_of_ble_eq_true rfl⟩ (Or.inl rfl) rfl ?_
  refine aw_aload_n dX8_init_22 rfl ?_
  refine aw_iconst (v := 1) dX8_init_23 rfl ?_
  refine aw_putZ dX8_init_24 f8_22 rfl ⟨Nat.le_of_ble_eq_true rfl, Nat.le_of_ble_eq_true rfl⟩ (Or.inl rfl) rfl (by decide) ?_
  refine aw_ret0 dX8_init_27 rfl ⟨Nat.le_of_ble_eq_true rfl, Nat.le_of_ble_eq_true rfl⟩ ?_
  rw [va_up_id (f := R0) (i := 75) (funext (fun j => (hR0 j).trans (by
    match j with
    | 0 => rfl
    | j + 1 => rfl)))]
  refine ⟨rfl, _, rfl, fun a ha => by rw [aw_u_ne ha, aw_u_ne ha, aw_u_ne ha], by rw [aw_u_nj (by decide), aw_u_nj (by decide), aw_u_eq], by rw [aw_u_nj (by decide), aw_u_eq], by rw [aw_u_eq]⟩
theorem k_sheet2 (G : aw_G) {n : Nat} {R0 : Nat → Nat → Option Nat} {I : Nat → Nat → Int32} {L : Nat → Nat → Int64} (hI : ∀ a, 77 ≤ a → I a = fun _ => 0) (hL : ∀ a, 77 ≤ a → L a = fun _ => 0) (hR0 : ∀ j, R0 77 j = zR 12 77 j) (h78 : R0 78 = fun _ => none) : aw_Met G mX8_init [.ref 77] (zS n, I, L, va_up (R0) 77 (fun _ => none), 75) (fun v h2 => v = none ∧ ∃ I2, h2 = (zS n, I2, L, R0, 76) ∧ (∀ a, a ≠ 77 → I2 a = I a) ∧ I2 77 1 = 0 ∧ I2 77 2 = 0 ∧ I2 77 3 = 1) := by
  refine aw_Met.of okX8_init (Nat.le_of_ble_eq_true rfl) ?_
  show aw_W G mX8_init 0 [.ref 77] [] (zS n, I, L, va_up (R0) 77 (fun _ => none), 75) (0, 0) _
  refine aw_aload_n dX8_init_0 rfl ?_
  refine aw_obj dX8_init_1 ob8_3 ob_i ob_c ⟨Nat.le_of_ble_eq_true rfl, Nat.le_of_ble_eq_true rfl⟩ ?_
  refine aw_aload_n dX8_init_4 rfl ?_
  refine aw_bipush (v := 60) dX8_init_5 (by decide) ?_
  refine aw_newIY (o := 78) (N2 := 76) (n2 := 60) dX8_init_7 aw_arrI (by decide) (by decide) (by decide) ⟨Nat.le_of_ble_eq_true rfl, Nat.le_of_ble_eq_true rfl⟩ rfl rfl rfl (by exact hI _ (by decide)) (hL _ (by decide)) ((va_up_nat (by decide)).trans h78) (c2 := 1) rfl (s2 := 60) rfl ?_
  refine aw_putRY dX8_init_9 f8_9 rfl ⟨Nat.le_of_ble_eq_true rfl, Nat.le_of_ble_eq_true rfl⟩ (Or.inr ⟨rfl, rfl⟩) rfl ?_
  refine aw_aload_n dX8_init_12 rfl ?_
  refine aw_iconst (v := 0) dX8_init_13 rfl ?_
  refine aw_putI dX8_init_14 f8_15 rfl ⟨Nat.le_of_ble_eq_true rfl, Nat.le_of_ble_eq_true rfl⟩ (Or.inl rfl) rfl ?_
  refine aw_aload_n dX8_init_17 rfl ?_
  refine aw_iconst (v := 0) dX8_init_18 rfl ?_
  refine aw_putI dX8_init_19 f8_19 rfl ⟨Nat.le_of_ble_eq_true rfl, Nat.le_of_ble_eq_true rfl⟩ (Or.inl rfl) rfl ?_
  refine aw_aload_n dX8_init_22 rfl ?_
  refine aw_iconst (v := 1) dX8_init_23 rfl ?_
  refine aw_putZ dX8_init_24 f8_22 rfl ⟨Nat.le_of_ble_eq_true rfl, Nat.le_of_ble_eq_true rfl⟩ (Or.inl rfl) rfl (by decide) ?_
  refine aw_ret0 dX8_init_27 rfl ⟨Nat.le_of_ble_eq_true rfl, Nat.le_of_ble_eq_true rfl⟩ ?_
  rw [va_up_id (f := R0) (i := 77) (funext (fun j => (hR0 j).trans (by
    match j with
    | 0 => rfl
    | j + 1 => rfl)))]
  refine ⟨rfl, _, rfl, fun a ha => by rw [aw_u_ne ha, aw_u_ne ha, aw_u_ne ha], by rw [aw_u_nj (by decide), aw_u_nj (by decide), aw_u_eq], by rw [aw_u_nj (by decide), aw_u_eq], by rw [aw_u_eq]⟩
theorem k_sheet3 (G : aw_G) {n : Nat} {R0 : Nat → Nat → Option Nat} {I : Nat → Nat → Int32} {L : Nat → Nat → Int64} (hI : ∀ a, 79 ≤ a → I a = fun _ => 0) (hL : ∀ a, 79 ≤ a → L a = fun _ => 0) (hR0 : ∀ j, R0 79 j = zR 12 79 j) (h80 : R0 80 = fun _ => none) : aw_Met G mX8_init [.ref 79] (zS n, I, L, va_up (R0) 79 (fun _ => none), 77) (fun v h2 => v = none ∧ ∃ I2, h2 = (zS n, I2, L, R0, 78) ∧ (∀ a, a ≠ 79 → I2 a = I a) ∧ I2 79 1 = 0 ∧ I2 79 2 = 0 ∧ I2 79 3 = 1) := by
  refine aw_Met.of okX8_init (Nat.le_of_ble_eq_true rfl) ?_
  show aw_W G mX8_init 0 [.ref 79] [] (zS n, I, L, va_up (R0) 79 (fun _ => none), 77) (0, 0) _
  refine aw_aload_n dX8_init_0 rfl ?_
  refine aw_obj dX8_init_1 ob8_3 ob_i ob_c ⟨Nat.le_of_ble_eq_true rfl, Nat.le_of_ble_eq_true rfl⟩ ?_
  refine aw_aload_n dX8_init_4 rfl ?_
  refine aw_bipush (v := 60) dX8_init_5 (by decide) ?_
  refine aw_newIY (o := 80) (N2 := 78) (n2 := 60) dX8_init_7 aw_arrI (by decide) (by decide) (by decide) ⟨Nat.le_of_ble_eq_true rfl, Nat.le_of_ble_eq_true rfl⟩ rfl rfl rfl (by exact hI _ (by decide)) (hL _ (by decide)) ((va_up_nat (by decide)).trans h80) (c2 := 1) rfl (s2 := 60) rfl ?_
  refine aw_putRY dX8_init_9 f8_9 rfl ⟨Nat.le_of_ble_eq_true rfl, Nat.le_of_ble_eq_true rfl⟩ (Or.inr ⟨rfl, rfl⟩) rfl ?_
  refine aw_aload_n dX8_init_12 rfl ?_
  refine aw_iconst (v := 0) dX8_init_13 rfl ?_
  refine aw_putI dX8_init_14 f8_15 rfl ⟨Nat.le_of_ble_eq_true rfl, Nat.le_of_ble_eq_true rfl⟩ (Or.inl rfl) rfl ?_
  refine aw_aload_n dX8_init_17 rfl ?_
  refine aw_iconst (v := 0) dX8_init_18 rfl ?_
  refine aw_putI dX8_init_19 f8_19 rfl ⟨Nat.le_of_ble_eq_true rfl, Nat.le_of_ble_eq_true rfl⟩ (Or.inl rfl) rfl ?_
  refine aw_aload_n dX8_init_22 rfl ?_
  refine aw_iconst (v := 1) dX8_init_23 rfl ?_
  refine aw_putZ dX8_init_24 f8_22 rfl ⟨Nat.le_of_ble_eq_true rfl, Nat.le_of_ble_eq_true rfl⟩ (Or.inl rfl) rfl (by decide) ?_
  refine aw_ret0 dX8_init_27 rfl ⟨Nat.le_of_ble_eq_true rfl, Nat.le_of_ble_eq_true rfl⟩ ?_
  rw [va_up_id (f := R0) (i := 79) (funext (fun j => (hR0 j).trans (by
    match j with
    | 0 => rfl
    | j + 1 => rfl)))]
  refine ⟨rfl, _, rfl, fun a ha => by rw [aw_u_ne ha, aw_u_ne ha, aw_u_ne ha], by rw [aw_u_nj (by decide), aw_u_nj (by decide), aw_u_eq], by rw [aw_u_nj (by decide), aw_u_eq], by rw [aw_u_eq]⟩
