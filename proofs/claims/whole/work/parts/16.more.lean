theorem ac_n2 : Cond.native arraycopyName ∈ aw_tbl := aw_in ac_n rfl
section AWM
variable {G : aw_G} {M : aw_MR} {pc : Nat} {ls st : List Value} {h : aw_H} {q : Nat × Nat} {Q : Option Value → aw_H → Prop}
variable {S : Nat → Nat × Nat} {I : Nat → Nat → Int32} {L : Nat → Nat → Int64} {R : Nat → Nat → Option Nat} {N : Nat}
theorem aw_max {x y : Int32} {idx : Nat} (hd : decode (aw_c M) pc = .ok (.invokestatic idx, 3)) (hw : Cond.methodLink (aw_nm (aw_own M)) idx Lib.Math.max.name ∈ aw_tbl) (hf : 1 ≤ aw_fr M ∧ (st.map fun v => v.category).sum + 13 ≤ aw_lo M) (hq : q.1 ≤ aw_mc M ∧ q.2 ≤ aw_ms M)
    (k : aw_W G M (pc + 3) ls (.int (if x < y then y else x) :: st) h q Q) : aw_W G M pc ls (.int y :: .int x :: st) h q Q := by
  intro p e s m args below meth c Z hC hZ H locs lsC hL hR hS
  have hk := k p e s m args below meth c Z hC hZ H locs lsC hL hR hS
  obtain ⟨hx, hb, hml, hown, hts, hin, hFx⟩ := id hC
  exact va_mmax hx hb (hml.trans hL.1.symm) hown (hts _ hw) (hts _ mm_max_s) (hts _ (aw_init (c := 13) (by decide))) (hts _ mm_max_c) hf.1 (by rw [aw_cat_sum]; exact hf.2) hq.1 hq.2 hd hk
theorem aw_min {x y : Int32} {idx : Nat} (hd : decode (aw_c M) pc = .ok (.invokestatic idx, 3)) (hw : Cond.methodLink (aw_nm (aw_own M)) idx Lib.Math.min.name ∈ aw_tbl) (hf : 1 ≤ aw_fr M ∧ (st.map fun v => v.category).sum + 13 ≤ aw_lo M) (hq : q.1 ≤ aw_mc M ∧ q.2 ≤ aw_ms M)
    (k : aw_W G M (pc + 3) ls (.int (if y < x then y else x) :: st) h q Q) : aw_W G M pc ls (.int y :: .int x :: st) h q Q := by
  intro p e s m args below meth c Z hC hZ H locs lsC hL hR hS
  have hk := k p e s m args below meth c Z hC hZ H locs lsC hL hR hS
  obtain ⟨hx, hb, hml, hown, hts, hin, hFx⟩ := id hC
  exact va_mmin hx hb (hml.trans hL.1.symm) hown (hts _ hw) (hts _ mm_min_s) (hts _ (aw_init (c := 13) (by decide))) (hts _ mm_min_c) hf.1 (by rw [aw_cat_sum]; exact hf.2) hq.1 hq.2 hd hk
theorem aw_nn (z : Int32) (hz : ¬ z < 0) : z.toInt = (z.toNatClampNeg : Int) := by
  have hz0 : (0 : Int) ≤ z.toInt := by
    have := Int32.not_lt.mp hz
    simpa using Int32.le_iff_toInt_le.mp this
  show z.toInt = ((z.toInt.toNat : Nat) : Int)
  omega
/-- System.arraycopy between rows of ints -/
theorem aw_copy {o1 o2 n1 n2 idx : Nat} {sp dp n : Int32} (hd : decode (aw_c M) pc = .ok (.invokestatic idx, 3)) (hw : Cond.methodLink (aw_nm (aw_own M)) idx arraycopyName ∈ aw_tbl) (hs1 : S o1 = (0, n1)) (hs2 : S o2 = (0, n2)) (ho1 : 3 ≤ o1 ∧ o1 < N + 3) (ho2 : 3 ≤ o2 ∧ o2 < N + 3)
    (h1 : ¬ sp < 0) (h2 : ¬ dp < 0) (h3 : ¬ n < 0) (h4 : sp.toNatClampNeg + n.toNatClampNeg ≤ n1) (h5 : dp.toNatClampNeg + n.toNatClampNeg ≤ n2) (hf : 1 ≤ aw_fr M ∧ (st.map fun v => v.category).sum + 18 ≤ aw_lo M)
    (k : aw_W G M (pc + 3) ls st (S, va_up I o2 (va_cpy (I o1) (I o2) sp.toNatClampNeg dp.toNatClampNeg n.toNatClampNeg), L, R, N) q Q) : aw_W G M pc ls (.int n :: .int dp :: .ref o2 :: .int sp :: .ref o1 :: st) (S, I, L, R, N) q Q := by
  intro p e s m args below meth c Z hC hZ H locs lsC hL hR hS
  obtain ⟨hx, hb, hml, hown, hts, hin, hFx⟩ := id hC
  show W p (g_l G) e (aw_rm M) s m args below meth c H locs q.1 q.2 Z (F0 m pc lsC (.int n :: .int dp :: .ref (g_ad G o2) :: .int sp :: .ref (g_ad G o1) :: st.map (aw_cv (g_ad G))))
  rw [aw_ado hFx ho1.1, aw_ado hFx ho2.1]
  have he0 : (aw_wl G (S, I, L, R, N))[o1 - 3]? = some (g_b G + (o1 - 3), .inl (g_I G, n1, .inl (I o1))) := (aw_wo ho1.1 ho1.2).trans (by rw [aw_enI hs1])
  have he1 : (aw_wl G (S, I, L, R, N))[o2 - 3]? = some (g_b G + (o2 - 3), .inl (g_I G, n2, .inl (I o2))) := (aw_wo ho2.1 ho2.2).trans (by rw [aw_enI hs2])
  have hc0 : H[g_b G + (o1 - 3)]? = some (vp_cell (g_I G) (n1, .inl (I o1))) := hR.2.1 _ _ he0
  have hc1 : H[g_b G + (o2 - 3)]? = some (vp_cell (g_I G) (n2, .inl (I o2))) := hR.2.1 _ _ he1
  obtain ⟨-, k0, hk0, cm0, hkk0⟩ := (hFx.1.2 0 _ rfl).1 n1 (fun j => .int (I o1 j))
  intro T hT X
  obtain ⟨vm', X', step⟩ := X.arraycopy hx hown (hts _ hw) (hts _ ac_n2) (hts _ ac_s) (hts _ ac_i) (src := g_b G + (o1 - 3)) (dst := g_b G + (o2 - 3)) (cs := vp_cell (g_I G) (n1, .inl (I o1))) (cd := vp_cell (g_I G) (n2, .inl (I o2))) (srcPos := sp) (destPos := dp) (n := n) (by rw [hT]; exact hc0) (by rw [hT]; exact hc1)
    (fun _ h => by cases h) (fun _ h => by cases h) (fun h => by cases h) (fun h => by cases h) hk0 hk0 hkk0 hkk0 (by simp [refKind]) h1 h2 h3
    (by rw [aw_nn sp h1, aw_nn n h3]; show ¬ _ > ((arrV (g_I G) n1 (fun j => .int (I o1 j))).slots.size : Int); rw [arrV_size]; omega)
    (by rw [aw_nn dp h2, aw_nn n h3]; show ¬ _ > ((arrV (g_I G) n2 (fun j => .int (I o2 j))).slots.size : Int); rw [arrV_size]; omega)
    (fun vm₁ _ i hi => by
      have e : (vp_cell (g_I G) (n1, .inl (I o1))).slots.getD (sp.toNatClampNeg + i) .null = .int (I o1 (sp.toNatClampNeg + i)) := by
        show (arrV (g_I G) n1 (fun j => .int (I o1 j))).slots.getD _ _ = _
        rw [Array.getD_eq_getD_getElem?, arrV_read _ _ (by omega)]
        rfl
      refine ⟨?_, ?_⟩
      · rw [e]; rfl
      · rw [e]; exact trivial)
    (g := F0 m pc lsC (.int n :: .int dp :: .ref (g_b G + (o2 - 3)) :: .int sp :: .ref (g_b G + (o1 - 3)) :: st.map (aw_cv (g_ad G)))) rfl (by rw [hml]; exact hL.1) (rest := st.map (aw_cv (g_ad G))) rfl (by rw [hb]; exact hd) hf.1 (by show 2 * 0 + _ + 18 ≤ aw_lo M; rw [aw_cat_sum]; omega)
  have e1 : copied (vp_cell (g_I G) (n1, .inl (I o1))) (vp_cell (g_I G) (n2, .inl (I o2))) sp dp n = vp_cell (g_I G) (n2, .inl (va_cpy (I o1) (I o2) sp.toNatClampNeg dp.toNatClampNeg n.toNatClampNeg)) := va_copied (fun z => .int z) (g_I G) (g_I G) (I o1) (I o2) h4
  rw [e1] at X' step
  have hl : g_b G + (o2 - 3) < H.size := (Array.getElem?_eq_some_iff.mp hc1).1
  have hheap : ((T.setVm vm').setCell (g_b G + (o2 - 3)) (vp_cell (g_I G) (n2, .inl (va_cpy (I o1) (I o2) sp.toNatClampNeg dp.toNatClampNeg n.toNatClampNeg)))).heap = H.setIfInBounds (g_b G + (o2 - 3)) (vp_cell (g_I G) (n2, .inl (va_cpy (I o1) (I o2) sp.toNatClampNeg dp.toNatClampNeg n.toNatClampNeg))) := by rw [← hT]; rfl
  have oq : ∀ a : Nat, a ≠ g_b G + (o2 - 3) → (H.setIfInBounds (g_b G + (o2 - 3)) (vp_cell (g_I G) (n2, .inl (va_cpy (I o1) (I o2) sp.toNatClampNeg dp.toNatClampNeg n.toNatClampNeg))))[a]? = H[a]? := fun a ha => by simp [Array.getElem?_setIfInBounds, Ne.symm ha]
  have hS' := fun locs2 (hl2 : ∀ z ∈ locs2, z.base = g_b G + (o2 - 3)) => (show va_S (aw_A G) s.heap (H.setIfInBounds (g_b G + (o2 - 3)) (vp_cell (g_I G) (n2, .inl (va_cpy (I o1) (I o2) sp.toNatClampNeg dp.toNatClampNeg n.toNatClampNeg)))) (locs ++ locs2) from ⟨by simp; exact hS.1, fun a g1 g2 => by
      rw [oq a (fun e => g2 (by rw [e]; exact Nat.le_add_right _ _))]
      exact hS.2.1 a g1 g2, fun z hz => by
      rcases List.mem_append.mp hz with h | h
      · exact hS.2.2 z h
      · rw [hl2 z h]; exact Nat.le_add_right _ _⟩)
  have hRep2 : aw_Rep G (S, va_up I o2 (va_cpy (I o1) (I o2) sp.toNatClampNeg dp.toNatClampNeg n.toNatClampNeg), L, R, N) (H.setIfInBounds (g_b G + (o2 - 3)) (vp_cell (g_I G) (n2, .inl (va_cpy (I o1) (I o2) sp.toNatClampNeg dp.toNatClampNeg n.toNatClampNeg)))) := by
    refine hR.wr (h2 := (S, va_up I o2 (va_cpy (I o1) (I o2) sp.toNatClampNeg dp.toNatClampNeg n.toNatClampNeg), L, R, N)) (o := o2) ho2 rfl rfl (fun a ha => va_up_ne _ _ (show a ≠ o2 by omega)) (fun k hk => aw_en_congr rfl (va_up_ne _ _ hk) rfl rfl) ?_ (by simp) oq
    rw [aw_enI (h := (S, va_up I o2 (va_cpy (I o1) (I o2) sp.toNatClampNeg dp.toNatClampNeg n.toNatClampNeg), L, R, N)) hs2]
    show (H.setIfInBounds _ _)[_]? = some (vp_cell _ (n2, .inl (va_up I o2 _ o2)))
    simp [Array.getElem?_setIfInBounds, hl, va_up]
  obtain ⟨t, a1, b1⟩ := k p e s m args below meth c Z hC hZ _ _ lsC hL hRep2 (hS' _ (fun z hz => by
      obtain ⟨y, -, hy⟩ := List.mem_map.mp hz
      rw [← hy])) _ hheap X'
  exact ⟨t, step t a1, b1⟩
-- variants with numbers
theorem aw_iald_n {o n j : Nat} (hd : decode (aw_c M) pc = .ok (.iaload, 1)) (hs : S o = (0, n)) (ho : o < N + 3) (hn : n < 100000) (hj : j < n)
    (k : aw_W G M (pc + 1) ls (.int (I o j) :: st) (S, I, L, R, N) q Q) : aw_W G M pc ls (.int (nI j) :: .ref o :: st) (S, I, L, R, N) q Q := by
  refine aw_iald hd hs ho (vp_in_nI hj (by omega)) ?_
  rw [nI_clamp (by omega)]
  exact k
theorem aw_iast_n {o n j : Nat} {x : Int32} (hd : decode (aw_c M) pc = .ok (.iastore, 1)) (hs : S o = (0, n)) (ho : 3 ≤ o ∧ o < N + 3) (hn : n < 100000) (hj : j < n)
    (k : aw_W G M (pc + 1) ls st (S, aw_u I o j x, L, R, N) q Q) : aw_W G M pc ls (.int x :: .int (nI j) :: .ref o :: st) (S, I, L, R, N) q Q := by
  refine aw_iast hd hs ho (vp_in_nI hj (by omega)) ?_
  rw [nI_clamp (by omega)]
  exact k
theorem aw_lald_n {o n j : Nat} (hd : decode (aw_c M) pc = .ok (.laload, 1)) (hs : S o = (1, n)) (ho : 3 ≤ o ∧ o < N + 3) (hn : n < 100000) (hj : j < n)
    (k : aw_W G M (pc + 1) ls (.long (L o j) :: st) (S, I, L, R, N) q Q) : aw_W G M pc ls (.int (nI j) :: .ref o :: st) (S, I, L, R, N) q Q := by
  refine aw_lald hd hs ho (vp_in_nI hj (by omega)) ?_
  rw [nI_clamp (by omega)]
  exact k
theorem aw_last_n {o n j : Nat} {x : Int64} (hd : decode (aw_c M) pc = .ok (.lastore, 1)) (hs : S o = (1, n)) (ho : 3 ≤ o ∧ o < N + 3) (hn : n < 100000) (hj : j < n)
    (k : aw_W G M (pc + 1) ls st (S, I, aw_u L o j x, R, N) q Q) : aw_W G M pc ls (.long x :: .int (nI j) :: .ref o :: st) (S, I, L, R, N) q Q := by
  refine aw_last hd hs ho (vp_in_nI hj (by omega)) ?_
  rw [nI_clamp (by omega)]
  exact k
/-- a stack's top, and a local, by another name -/
theorem aw_top {x y : Int32} (e : x = y) (k : aw_W G M pc ls (.int y :: st) h q Q) : aw_W G M pc ls (.int x :: st) h q Q := e ▸ k
theorem aw_topl {x y : Int64} (e : x = y) (k : aw_W G M pc ls (.long y :: st) h q Q) : aw_W G M pc ls (.long x :: st) h q Q := e ▸ k
theorem aw_iinc_n {j i : Nat} {ls2 : List Value} (hd : decode (aw_c M) pc = .ok (.iinc j 1, 3)) (hx : ls[j]? = some (.int (nI i))) (hn : j < aw_nL M) (hp : aw_pok ls j = true) (hl : ls.set j (.int (nI (i + 1))) = ls2) (k : aw_W G M (pc + 3) ls2 st h q Q) : aw_W G M pc ls st h q Q := by
  refine aw_iinc hd hx hn hp ?_ k
  rw [← hl, ← nI_1 i]
  rfl
-- calls that make no object
theorem aw_S0c {M2 : aw_MR} {As rest : List Value} {idx n : Nat} {Q2 : Option Value → aw_H → Prop} (hd : decode (aw_c M) pc = .ok (.invokestatic idx, 3)) (hk : aw_KS (aw_own M) idx M2 n) (hn : As.length = n) (hst : st = As.reverse ++ rest) (hr : (rest.map fun v => v.category).sum ≤ 8) (hf : aw_fit M M2 q) (hz : aw_mc M2 = 0 ∧ aw_ms M2 = 0)
    (hM : aw_Met G M2 As h Q2) (k : ∀ v h2, Q2 v h2 → aw_W G M (pc + 3) ls (v.toList ++ rest) h2 q Q) : aw_W G M pc ls st h q Q :=
  aw_invS hd hk hn hst hr hf hM (fun v h2 hq => by rw [hz.1, hz.2]; exact k v h2 hq)
theorem aw_V0c {M2 : aw_MR} {b n2 : Nat} {As rest : List Value} {idx n : Nat} {Q2 : Option Value → aw_H → Prop} (hd : decode (aw_c M) pc = .ok (.invokevirtual idx, 3)) (hk : aw_KV (aw_own M) idx M2 n) (hn : As.length = n) (hst : st = As.reverse ++ .ref b :: rest) (hs : h.1 b = (aw_own M2 + 3, n2)) (hb3 : 3 ≤ b ∧ b < h.2.2.2.2 + 3) (hr : (rest.map fun v => v.category).sum ≤ 8) (hf : aw_fit M M2 q) (hz : aw_mc M2 = 0 ∧ aw_ms M2 = 0)
    (hM : aw_Met G M2 (.ref b :: As) h Q2) (k : ∀ v h2, Q2 v h2 → aw_W G M (pc + 3) ls (v.toList ++ rest) h2 q Q) : aw_W G M pc ls st h q Q :=
  aw_invV hd hk hn hst hs hb3 hr hf hM (fun v h2 hq => by rw [hz.1, hz.2]; exact k v h2 hq)
/-- counting up: from the end back -/
theorem aw_up {X : Nat → Prop} {a e : Nat} (hae : a ≤ e) (he : X e) (hs : ∀ i, a ≤ i → i < e → X (i + 1) → X i) : X a := by
  have key : ∀ d, ∀ i, a ≤ i → i + d = e → X i := by
    intro d
    induction d with
    | zero => intro i _ h; rw [show i = e by omega]; exact he
    | succ d ih => intro i h1 h2; exact hs i h1 (by omega) (ih (i + 1) (by omega) (by omega))
  exact key (e - a) a (Nat.le_refl a) (by omega)
end AWM
