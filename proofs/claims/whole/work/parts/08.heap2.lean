def aw_u {α : Type} (F : Nat → Nat → α) (o j : Nat) (x : α) : Nat → Nat → α := va_up F o (va_up (F o) j x)
section AWH2
variable {G : aw_G} {M : aw_MR} {pc : Nat} {ls st : List Value} {q : Nat × Nat} {Q : Option Value → aw_H → Prop}
variable {S : Nat → Nat × Nat} {I : Nat → Nat → Int32} {L : Nat → Nat → Int64} {R : Nat → Nat → Option Nat} {N : Nat}
theorem aw_u_row {α : Type} {F : Nat → Nat → α} {o j : Nat} {x : α} : aw_u F o j x o = va_up (F o) j x := by simp [aw_u, va_up]
theorem aw_u_ne {α : Type} {F : Nat → Nat → α} {o j a : Nat} {x : α} (h : a ≠ o) : aw_u F o j x a = F a := by simp [aw_u, va_up, h]
theorem aw_u_eq {α : Type} {F : Nat → Nat → α} {o j : Nat} {x : α} : aw_u F o j x o j = x := by simp [aw_u, va_up]
theorem aw_u_nj {α : Type} {F : Nat → Nat → α} {o j b : Nat} {x : α} (h : b ≠ j) : aw_u F o j x o b = F o b := by simp [aw_u, va_up, h]
theorem aw_en_congr {h h2 : aw_H} {k : Nat} (h1 : h2.1 k = h.1 k) (hI : h2.2.1 k = h.2.1 k) (hL : h2.2.2.1 k = h.2.2.1 k) (hR : h2.2.2.2.1 k = h.2.2.2.1 k) : aw_en G h2 k = aw_en G h k := by
  unfold aw_en
  rw [h1, hI, hL, hR]
  split <;> first | rfl | skip
  congr 2
  apply List.map_congr_left
  intro j _
  unfold aw_fv
  rw [hI, hL, hR]
theorem aw_put0 {o cl j idx n : Nat} {x : Int32} (hd : decode (aw_c M) pc = .ok (.putfield idx, 3)) (hf : aw_F (aw_own M) idx cl j) (hs : S o = (cl + 3, n)) (ho : 3 ≤ o ∧ o < N + 3)
    (hfin : (aw_T cl j).2.2.2 = false ∨ (aw_ini M = true ∧ (aw_T cl j).1 = aw_nm (aw_own M))) (ht : aw_ty cl j = .int ∨ (aw_ty cl j = .boolean ∧ (x = 0 ∨ x = 1)))
    (k : aw_W G M (pc + 3) ls st (S, aw_u I o j x, L, R, N) q Q) : aw_W G M pc ls (.int x :: .ref o :: st) (S, I, L, R, N) q Q := by
  refine aw_put (h := (S, I, L, R, N)) (h2 := (S, aw_u I o j x, L, R, N)) (v := .int x) hd hf hs ho hfin ?_ ?_ rfl rfl (fun a ha => aw_u_ne (show a ≠ o by omega)) (fun k hk => aw_en_congr rfl (aw_u_ne hk) rfl rfl) ?_ k
  · intro ad
    rcases ht with ht | ⟨ht, rfl | rfl⟩
    · rw [ht]; rfl
    · rw [ht]; rfl
    · rw [ht]; rfl
  · intro ad
    rcases ht with ht | ⟨ht, rfl | rfl⟩
    · rw [ht]; rfl
    · rw [ht]; rfl
    · rw [ht]; rfl
  · intro ad i hi
    by_cases hij : i = j
    · subst hij
      rw [if_pos rfl]
      rcases ht with ht | ⟨ht, -⟩ <;> rw [ht] <;> simp [aw_fv, aw_u, va_up, aw_cv]
    · rw [if_neg hij]
      cases aw_ty cl i <;> simp [aw_fv, aw_u, va_up, hij]
theorem aw_putI {o cl j idx n : Nat} {x : Int32} (hd : decode (aw_c M) pc = .ok (.putfield idx, 3)) (hf : aw_F (aw_own M) idx cl j) (hs : S o = (cl + 3, n)) (ho : 3 ≤ o ∧ o < N + 3)
    (hfin : (aw_T cl j).2.2.2 = false ∨ (aw_ini M = true ∧ (aw_T cl j).1 = aw_nm (aw_own M))) (ht : aw_ty cl j = .int)
    (k : aw_W G M (pc + 3) ls st (S, aw_u I o j x, L, R, N) q Q) : aw_W G M pc ls (.int x :: .ref o :: st) (S, I, L, R, N) q Q := aw_put0 hd hf hs ho hfin (Or.inl ht) k
theorem aw_putZ {o cl j idx n : Nat} {x : Int32} (hd : decode (aw_c M) pc = .ok (.putfield idx, 3)) (hf : aw_F (aw_own M) idx cl j) (hs : S o = (cl + 3, n)) (ho : 3 ≤ o ∧ o < N + 3)
    (hfin : (aw_T cl j).2.2.2 = false ∨ (aw_ini M = true ∧ (aw_T cl j).1 = aw_nm (aw_own M))) (ht : aw_ty cl j = .boolean) (hx : x = 0 ∨ x = 1)
    (k : aw_W G M (pc + 3) ls st (S, aw_u I o j x, L, R, N) q Q) : aw_W G M pc ls (.int x :: .ref o :: st) (S, I, L, R, N) q Q := aw_put0 hd hf hs ho hfin (Or.inr ⟨ht, hx⟩) k
theorem aw_putL {o cl j idx n : Nat} {x : Int64} (hd : decode (aw_c M) pc = .ok (.putfield idx, 3)) (hf : aw_F (aw_own M) idx cl j) (hs : S o = (cl + 3, n)) (ho : 3 ≤ o ∧ o < N + 3)
    (hfin : (aw_T cl j).2.2.2 = false ∨ (aw_ini M = true ∧ (aw_T cl j).1 = aw_nm (aw_own M))) (ht : aw_ty cl j = .long)
    (k : aw_W G M (pc + 3) ls st (S, I, aw_u L o j x, R, N) q Q) : aw_W G M pc ls (.long x :: .ref o :: st) (S, I, L, R, N) q Q := by
  refine aw_put (h := (S, I, L, R, N)) (h2 := (S, I, aw_u L o j x, R, N)) (v := .long x) hd hf hs ho hfin (fun ad => by rw [ht]; rfl) (fun ad => by rw [ht]; rfl) rfl rfl (fun a ha => rfl) (fun k hk => aw_en_congr rfl rfl (aw_u_ne hk) rfl) ?_ k
  intro ad i hi
  by_cases hij : i = j
  · subst hij
    rw [if_pos rfl, ht]; simp [aw_fv, aw_u, va_up, aw_cv]
  · rw [if_neg hij]
    cases aw_ty cl i <;> simp [aw_fv, aw_u, va_up, hij]
theorem aw_putR {o cl j idx n a : Nat} (hd : decode (aw_c M) pc = .ok (.putfield idx, 3)) (hf : aw_F (aw_own M) idx cl j) (hs : S o = (cl + 3, n)) (ho : 3 ≤ o ∧ o < N + 3)
    (hfin : (aw_T cl j).2.2.2 = false ∨ (aw_ini M = true ∧ (aw_T cl j).1 = aw_nm (aw_own M))) (ht : aw_isR (aw_ty cl j) = true)
    (k : aw_W G M (pc + 3) ls st (S, I, L, aw_u R o j (some a), N) q Q) : aw_W G M pc ls (.ref a :: .ref o :: st) (S, I, L, R, N) q Q := by
  refine aw_put (h := (S, I, L, R, N)) (h2 := (S, I, L, aw_u R o j (some a), N)) (v := .ref a) hd hf hs ho hfin ?_ ?_ rfl rfl (fun a ha => rfl) (fun k hk => aw_en_congr rfl rfl rfl (aw_u_ne hk)) ?_ k
  · intro ad
    cases hty : aw_ty cl j <;> first | rfl | (rw [hty] at ht; cases ht)
  · intro ad
    cases hty : aw_ty cl j <;> first | rfl | (rw [hty] at ht; cases ht)
  · intro ad i hi
    by_cases hij : i = j
    · subst hij
      rw [if_pos rfl]
      cases hty : aw_ty cl i <;> first | (simp [aw_fv, aw_u, va_up, aw_cv, va_rf]; done) | (rw [hty] at ht; cases ht)
    · rw [if_neg hij]
      cases aw_ty cl i <;> simp [aw_fv, aw_u, va_up, hij]
/-- a row of ints is read: an object's, or one of the three that nobody writes -/
theorem aw_iald {o n : Nat} {i : Int32} (hd : decode (aw_c M) pc = .ok (.iaload, 1)) (hs : S o = (0, n)) (ho : o < N + 3) (hi : vp_in i n)
    (k : aw_W G M (pc + 1) ls (.int (I o i.toNatClampNeg) :: st) (S, I, L, R, N) q Q) : aw_W G M pc ls (.int i :: .ref o :: st) (S, I, L, R, N) q Q := by
  intro p e s m args below meth c Z hC hZ H locs lsC hL hR hS
  have hk := k p e s m args below meth c Z hC hZ H locs lsC hL hR hS
  obtain ⟨hx, hb, hml, hown, hts, hin, hFx⟩ := id hC
  by_cases h3 : 3 ≤ o
  · show W p (g_l G) e (aw_rm M) s m args below meth c H locs q.1 q.2 Z (F0 m pc lsC (.int i :: .ref (g_ad G o) :: st.map (aw_cv (g_ad G))))
    rw [aw_ado hFx h3]
    exact va_iald hx hb hFx.1 hR.2.1 (o - 3) 0 ((aw_wo h3 ho).trans (by rw [aw_enI hs])) rfl hi hd hk
  · obtain ⟨r1, r2⟩ := hR.2.2 o (by omega)
    have hn : n = g_rn G o := by
      have z : ((0, n) : Nat × Nat) = (0, g_rn G o) := hs.symm.trans r1
      exact congrArg Prod.snd z
    subst hn
    have r3 : I o = g_ro G o := r2
    exact va_ti hx hb (hFx.2.2.2.1 o (by omega)) hS hi (v := .int (I o i.toNatClampNeg)) (by rw [r3]) hd hk
end AWH2
