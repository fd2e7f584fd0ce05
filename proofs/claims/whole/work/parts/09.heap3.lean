section AWH3
variable {G : aw_G} {M : aw_MR} {pc : Nat} {ls st : List Value} {q : Nat × Nat} {Q : Option Value → aw_H → Prop}
variable {S : Nat → Nat × Nat} {I : Nat → Nat → Int32} {L : Nat → Nat → Int64} {R : Nat → Nat → Option Nat} {N : Nat}
/-- one cell is written -/
theorem aw_Rep.wr {h h2 : aw_H} {H H1 : Heap} {o : Nat} (hR : aw_Rep G h H) (ho : 3 ≤ o ∧ o < h.2.2.2.2 + 3) (hN2 : h2.2.2.2.2 = h.2.2.2.2) (hsh : h2.1 = h.1) (hro : ∀ a, a < 3 → h2.2.1 a = h.2.1 a) (hoth : ∀ k, k ≠ o → aw_en G h2 k = aw_en G h k)
    (he : va_at (g_D G) vwCl (g_b G + (o - 3), aw_en G h2 o) H1) (hz : H1.size = H.size) (oq : ∀ a : Nat, a ≠ g_b G + (o - 3) → H1[a]? = H[a]?) : aw_Rep G h2 H1 := by
  refine ⟨by rw [hz, hN2]; exact hR.1, ?_, fun a ha => ⟨by rw [hsh]; exact (hR.2.2 a ha).1, by rw [hro a ha]; exact (hR.2.2 a ha).2⟩⟩
  have h1 := aw_wl_set (G := G) (h := h) (h2 := h2) (i := o - 3) hN2 (fun k hk => hoth k (by omega))
  rw [show o - 3 + 3 = o by omega] at h1
  rw [← h1]
  exact hR.2.1.set aw_wl_D (aw_wo ho.1 ho.2) he oq
theorem aw_iast {o n : Nat} {i x : Int32} (hd : decode (aw_c M) pc = .ok (.iastore, 1)) (hs : S o = (0, n)) (ho : 3 ≤ o ∧ o < N + 3) (hi : vp_in i n)
    (k : aw_W G M (pc + 1) ls st (S, aw_u I o i.toNatClampNeg x, L, R, N) q Q) : aw_W G M pc ls (.int x :: .int i :: .ref o :: st) (S, I, L, R, N) q Q := by
  intro p e s m args below meth c Z hC hZ H locs lsC hL hR hS
  obtain ⟨hx, hb, hml, hown, hts, hin, hFx⟩ := id hC
  show W p (g_l G) e (aw_rm M) s m args below meth c H locs q.1 q.2 Z (F0 m pc lsC (.int x :: .int i :: .ref (g_ad G o) :: st.map (aw_cv (g_ad G))))
  rw [aw_ado hFx ho.1]
  have he : (aw_wl G (S, I, L, R, N))[o - 3]? = some (g_b G + (o - 3), .inl (g_I G, n, .inl (I o))) := (aw_wo ho.1 ho.2).trans (by rw [aw_enI hs])
  refine W.iast hx hb (hR.2.1 _ _ he) ((hFx.1.2 0 _ rfl).1 n (fun j => .int (I o j))) (fun z => by cases z) (by show ¬ (i < 0 ∨ (arrV _ _ _).slots.size ≤ _); rw [arrV_size]; exact hi) rfl rfl hd fun H1 e1 z1 oq => ?_
  refine k p e s m args below meth c Z hC hZ H1 _ lsC hL (hR.wr (h2 := (S, aw_u I o i.toNatClampNeg x, L, R, N)) ho rfl rfl (fun a ha => aw_u_ne (show a ≠ o by omega)) (fun k hk => aw_en_congr rfl (aw_u_ne hk) rfl rfl) ?_ z1 oq) (hS.put z1 oq (Nat.le_add_right _ _))
  rw [aw_enI (h := (S, aw_u I o i.toNatClampNeg x, L, R, N)) hs]
  show H1[_]? = some (vp_cell _ _)
  rw [e1, vp_cell_i, vp_cell_i, arrV_store]
  congr 2
  funext j
  by_cases hj : j = i.toNatClampNeg
  · subst hj; simp [updV, aw_u, va_up]
  · simp [updV, aw_u, va_up, hj]
theorem aw_lald {o n : Nat} {i : Int32} (hd : decode (aw_c M) pc = .ok (.laload, 1)) (hs : S o = (1, n)) (ho : 3 ≤ o ∧ o < N + 3) (hi : vp_in i n)
    (k : aw_W G M (pc + 1) ls (.long (L o i.toNatClampNeg) :: st) (S, I, L, R, N) q Q) : aw_W G M pc ls (.int i :: .ref o :: st) (S, I, L, R, N) q Q := by
  intro p e s m args below meth c Z hC hZ H locs lsC hL hR hS
  have hk := k p e s m args below meth c Z hC hZ H locs lsC hL hR hS
  obtain ⟨hx, hb, hml, hown, hts, hin, hFx⟩ := id hC
  show W p (g_l G) e (aw_rm M) s m args below meth c H locs q.1 q.2 Z (F0 m pc lsC (.int i :: .ref (g_ad G o) :: st.map (aw_cv (g_ad G))))
  rw [aw_ado hFx ho.1]
  exact va_lald hx hb hFx.1 hR.2.1 (o - 3) 1 ((aw_wo ho.1 ho.2).trans (by rw [aw_enL hs])) rfl hi hd hk
theorem aw_last {o n : Nat} {i : Int32} {x : Int64} (hd : decode (aw_c M) pc = .ok (.lastore, 1)) (hs : S o = (1, n)) (ho : 3 ≤ o ∧ o < N + 3) (hi : vp_in i n)
    (k : aw_W G M (pc + 1) ls st (S, I, aw_u L o i.toNatClampNeg x, R, N) q Q) : aw_W G M pc ls (.long x :: .int i :: .ref o :: st) (S, I, L, R, N) q Q := by
  intro p e s m args below meth c Z hC hZ H locs lsC hL hR hS
  obtain ⟨hx, hb, hml, hown, hts, hin, hFx⟩ := id hC
  show W p (g_l G) e (aw_rm M) s m args below meth c H locs q.1 q.2 Z (F0 m pc lsC (.long x :: .int i :: .ref (g_ad G o) :: st.map (aw_cv (g_ad G))))
  rw [aw_ado hFx ho.1]
  have he : (aw_wl G (S, I, L, R, N))[o - 3]? = some (g_b G + (o - 3), .inl (g_L G, n, .inr (.inl (L o)))) := (aw_wo ho.1 ho.2).trans (by rw [aw_enL hs])
  refine W.last hx hb (hR.2.1 _ _ he) ((hFx.1.2 1 _ rfl).1 n (fun j => .long (L o j))) (fun z => by cases z) (by show ¬ (i < 0 ∨ (arrV _ _ _).slots.size ≤ _); rw [arrV_size]; exact hi) rfl rfl hd fun H1 e1 z1 oq => ?_
  refine k p e s m args below meth c Z hC hZ H1 _ lsC hL (hR.wr (h2 := (S, I, aw_u L o i.toNatClampNeg x, R, N)) ho rfl rfl (fun a ha => rfl) (fun k hk => aw_en_congr rfl rfl (aw_u_ne hk) rfl) ?_ z1 oq) (hS.put z1 oq (Nat.le_add_right _ _))
  rw [aw_enL (h := (S, I, aw_u L o i.toNatClampNeg x, R, N)) hs]
  show H1[_]? = some (vp_cell _ _)
  rw [e1, vp_cell_l, vp_cell_l, arrV_store]
  congr 2
  funext j
  by_cases hj : j = i.toNatClampNeg
  · subst hj; simp [updV, aw_u, va_up]
  · simp [updV, aw_u, va_up, hj]
theorem aw_aald {o n a : Nat} {i : Int32} (hd : decode (aw_c M) pc = .ok (.aaload, 1)) (hs : S o = (2, n)) (ho : 3 ≤ o ∧ o < N + 3) (hi : vp_in i n) (ha : R o i.toNatClampNeg = some a)
    (k : aw_W G M (pc + 1) ls (.ref a :: st) (S, I, L, R, N) q Q) : aw_W G M pc ls (.int i :: .ref o :: st) (S, I, L, R, N) q Q := by
  intro p e s m args below meth c Z hC hZ H locs lsC hL hR hS
  have hk := k p e s m args below meth c Z hC hZ H locs lsC hL hR hS
  obtain ⟨hx, hb, hml, hown, hts, hin, hFx⟩ := id hC
  show W p (g_l G) e (aw_rm M) s m args below meth c H locs q.1 q.2 Z (F0 m pc lsC (.int i :: .ref (g_ad G o) :: st.map (aw_cv (g_ad G))))
  rw [aw_ado hFx ho.1]
  refine va_aldq hx hb hFx.1 hR.2.1 (o - 3) 2 ((aw_wo ho.1 ho.2).trans (by rw [aw_enR hs])) rfl hi hd ?_
  show W p (g_l G) e (aw_rm M) s m args below meth c H locs q.1 q.2 Z (F0 m (pc + 1) lsC (va_rf ((R o i.toNatClampNeg).map (g_ad G)) :: _))
  rw [ha]
  exact hk
theorem aw_aast {o n a n2 : Nat} {i : Int32} (hd : decode (aw_c M) pc = .ok (.aastore, 1)) (hs : S o = (2, n)) (ho : 3 ≤ o ∧ o < N + 3) (hi : vp_in i n) (hsa : S a = (8 + 3, n2)) (hoa : 3 ≤ a ∧ a < N + 3)
    (k : aw_W G M (pc + 1) ls st (S, I, L, aw_u R o i.toNatClampNeg (some a), N) q Q) : aw_W G M pc ls (.ref a :: .int i :: .ref o :: st) (S, I, L, R, N) q Q := by
  intro p e s m args below meth c Z hC hZ H locs lsC hL hR hS
  obtain ⟨hx, hb, hml, hown, hts, hin, hFx⟩ := id hC
  show W p (g_l G) e (aw_rm M) s m args below meth c H locs q.1 q.2 Z (F0 m pc lsC (.ref (g_ad G a) :: .int i :: .ref (g_ad G o) :: st.map (aw_cv (g_ad G))))
  have hada := aw_ado hFx hoa.1
  rw [aw_ado hFx ho.1, hada]
  have he : (aw_wl G (S, I, L, R, N))[o - 3]? = some (g_b G + (o - 3), .inl (g_R G, n, .inr (.inr (.inr (.inr (fun j => (R o j).map (g_ad G))))))) := (aw_wo ho.1 ho.2).trans (by rw [aw_enR hs])
  have hv : (aw_wl G (S, I, L, R, N))[a - 3]? = some (g_b G + (a - 3), .inr (8, (List.range (aw_N 8)).map (fun j => aw_fv (g_ad G) (S, I, L, R, N) a (aw_ty 8 j) j))) := (aw_wo hoa.1 hoa.2).trans (by rw [aw_enO hsa])
  have hlt : i.toNatClampNeg < n := Nat.not_le.mp fun z => hi (Or.inr z)
  have h0 : ¬ i < 0 := fun z => hi (Or.inl z)
  obtain ⟨r', hr', cellV, g1, g2, g3, -⟩ := hR.2.1 _ _ hv
  have hcls := (hFx.1.1 8 (RX8, TX8, 4) rfl).2
  obtain ⟨kA, comp, k1, k2, k3, -⟩ := (hFx.1.2 2 _ rfl).2
  have hcomp : comp = (g_D G).1 8 := Option.some.inj (k3.symm.trans hcls.1)
  subst hcomp
  obtain ⟨kC, hkC, -⟩ := hcls.2
  refine W.aast hx hb (hR.2.1 _ _ he) (fun z h => by cases h) (fun h => by cases h) k1 k2 rfl hkC ⟨h0, by show _ < (arrV _ _ _).slots.size; rw [arrV_size]; exact hlt⟩ g1 (fun z h => by rw [g3] at h; cases h) (by rw [g2]; exact hkC) (by rw [g2]; exact va_assign hcls) rfl rfl hd fun H1 e1 z1 oq => ?_
  refine k p e s m args below meth c Z hC hZ H1 _ lsC hL (hR.wr (h2 := (S, I, L, aw_u R o i.toNatClampNeg (some a), N)) ho rfl rfl (fun a ha => rfl) (fun k hk => aw_en_congr rfl rfl rfl (aw_u_ne hk)) ?_ z1 oq) (hS.put z1 oq (Nat.le_add_right _ _))
  rw [aw_enR (h := (S, I, L, aw_u R o i.toNatClampNeg (some a), N)) hs]
  show H1[_]? = some (vp_cell _ _)
  rw [e1, vp_cell_q, vp_cell_q, arrV_store]
  congr 2
  funext j
  by_cases hj : j = i.toNatClampNeg
  · subst hj; simp [updV, aw_u, va_up, va_rf, hada]
  · simp [updV, aw_u, va_up, hj]
theorem aw_alen {o n : Nat} (hd : decode (aw_c M) pc = .ok (.arraylength, 1)) (hs : S o = (0, n)) (ho : o < N + 3)
    (k : aw_W G M (pc + 1) ls (.int (Int32.ofNat n) :: st) (S, I, L, R, N) q Q) : aw_W G M pc ls (.ref o :: st) (S, I, L, R, N) q Q := by
  intro p e s m args below meth c Z hC hZ H locs lsC hL hR hS
  have hk := k p e s m args below meth c Z hC hZ H locs lsC hL hR hS
  obtain ⟨hx, hb, hml, hown, hts, hin, hFx⟩ := id hC
  by_cases h3 : 3 ≤ o
  · show W p (g_l G) e (aw_rm M) s m args below meth c H locs q.1 q.2 Z (F0 m pc lsC (.ref (g_ad G o) :: st.map (aw_cv (g_ad G))))
    rw [aw_ado hFx h3]
    exact va_alen hx hb hFx.1 hR.2.1 (o - 3) 0 (x := (n, .inl (I o))) ((aw_wo h3 ho).trans (by rw [aw_enI hs])) rfl rfl hd hk
  · obtain ⟨r1, r2⟩ := hR.2.2 o (by omega)
    have hn : n = g_rn G o := by
      have z : ((0, n) : Nat × Nat) = (0, g_rn G o) := hs.symm.trans r1
      exact congrArg Prod.snd z
    subst hn
    exact va_tlen hx hb (hFx.2.2.2.1 o (by omega)) hS rfl hd hk
def aw_tok : FieldType → Bool
  | .int => true
  | .boolean => true
  | .long => true
  | .object _ => true
  | .array _ => true
  | _ => false
theorem aw_toks {cl : Nat} (hc : cl < 12) : ∀ j, j < aw_N cl → aw_tok (aw_ty cl j) = true := by
  match cl, hc with
  | 0, _ => decide
  | 1, _ => decide
  | 2, _ => decide
  | 3, _ => decide
  | 4, _ => decide
  | 5, _ => decide
  | 6, _ => decide
  | 7, _ => decide
  | 8, _ => decide
  | 9, _ => decide
  | 10, _ => decide
  | 11, _ => decide
  | c + 12, h => omega
/-- a heap with one object more, all of it empty -/
abbrev aw_nw (S : Nat → Nat × Nat) (I : Nat → Nat → Int32) (L : Nat → Nat → Int64) (R : Nat → Nat → Option Nat) (N : Nat) (x : Nat × Nat) : aw_H := (va_up S (N + 3) x, va_up I (N + 3) (fun _ => 0), va_up L (N + 3) (fun _ => 0), va_up R (N + 3) (fun _ => none), N + 1)
theorem aw_Rep.push {H H1 : Heap} {x : Nat × Nat} (hR : aw_Rep G (S, I, L, R, N) H) (hz : H1.size = H.size + 1) (oq : ∀ a : Nat, a < H.size → H1[a]? = H[a]?) (he : va_at (g_D G) vwCl (g_b G + N, aw_en G (aw_nw S I L R N x) (N + 3)) H1) : aw_Rep G (aw_nw S I L R N x) H1 := by
  obtain ⟨h1, h2, h3⟩ := hR
  refine ⟨by rw [hz, h1]; rfl, ?_, fun o ho => ?_⟩
  · intro k y hk
    by_cases hkN : k < N
    · have hy : (aw_wl G (S, I, L, R, N))[k]? = some y := by
        rw [aw_wl_get (show k < N + 1 by omega)] at hk
        rw [aw_wl_get (h := (S, I, L, R, N)) hkN, ← hk, aw_en_congr (h := (S, I, L, R, N)) (h2 := aw_nw S I L R N x) (k := k + 3)]
        · simp [va_up]; omega
        · simp [va_up]; omega
        · simp [va_up]; omega
        · simp [va_up]; omega
      have hv := h2 k y hy
      exact hv.kept (oq y.1 hv.lt)
    · have hkN1 : k = N := by
        have hz1 := (List.getElem?_eq_some_iff.mp hk).1
        simp [aw_wl] at hz1
        omega
      subst hkN1
      rw [aw_wl_get (show k < k + 1 by omega)] at hk
      cases hk
      exact he
  · obtain ⟨r1, r2⟩ := h3 o ho
    exact ⟨by show va_up S (N + 3) x o = _; rw [← r1]; simp [va_up]; omega, by show va_up I (N + 3) _ o = _; rw [← r2]; simp [va_up]; omega⟩
theorem aw_S_push {A : Nat → Prop} {H0 H H1 : Heap} {locs : List Loc} (hS : va_S A H0 H locs) (hz : H1.size = H.size + 1) (oq : ∀ a : Nat, a < H.size → H1[a]? = H[a]?) : va_S A H0 H1 locs :=
  ⟨by rw [hz]; exact Nat.le_succ_of_le hS.1, fun x h1 h2 => (oq x (Nat.lt_of_lt_of_le h1 hS.1)).trans (hS.2.1 x h1 h2), hS.2.2⟩
theorem aw_new {cl idx : Nat} (hd : decode (aw_c M) pc = .ok (.new idx, 3)) (hc : cl < 12) (hw1 : Cond.classLink (aw_nm (aw_own M)) idx (aw_nm cl) ∈ aw_tbl) (hw2 : Cond.instantiable (aw_nm cl) (aw_N cl) ∈ aw_tbl) (hw3 : Cond.initialized (aw_nm cl) ∈ aw_tbl)
    (hq : q.1 + 1 ≤ aw_mc M ∧ q.2 + aw_N cl ≤ aw_ms M) (k : aw_W G M (pc + 3) ls (.ref (N + 3) :: st) (aw_nw S I L R N (cl + 3, 0)) (q.1 + 1, q.2 + aw_N cl) Q) : aw_W G M pc ls st (S, I, L, R, N) q Q := by
  intro p e s m args below meth c Z hC hZ H locs lsC hL hR hS
  obtain ⟨hx, hb, hml, hown, hts, hin, hFx⟩ := id hC
  have hKn := hFx.1.1 cl _ (aw_cls hc)
  refine W.newcK hx hb hown (hts _ hw1) (hts _ hw2) (hts _ hw3) rfl hd hq.1 hq.2 hKn.2.1 rfl fun H1 kC hkC e1 z1 o1 => ?_
  have hkk := k p e s m args below meth c Z hC hZ H1 locs lsC hL (hR.push z1 o1 ?_) (aw_S_push hS z1 o1)
  · have ha : g_ad G (N + 3) = H.size := by rw [aw_ado hFx (by omega), show N + 3 - 3 = N by omega]; exact hR.1.symm
    have hkk2 : W p (g_l G) e (aw_rm M) s m args below meth c H1 locs (q.1 + 1) (q.2 + aw_N cl) Z (F0 m (pc + 3) lsC (.ref (g_ad G (N + 3)) :: st.map (aw_cv (g_ad G)))) := hkk
    rw [ha] at hkk2
    exact hkk2
  · rw [aw_enO (h := aw_nw S I L R N (cl + 3, 0)) (cl := cl) (n := 0) (by show va_up S (N + 3) _ (N + 3) = _; simp [va_up])]
    have hsz : H.size = g_b G + N := hR.1
    rw [hsz] at e1
    refine ⟨_, aw_cls hc, (u_born (aw_ty cl) hts (aw_uws hc) hKn hkC e1 (aw_tyk hc)).to ?_⟩
    intro j hj
    have ht := aw_toks hc j hj
    unfold vp_V
    rw [List.getD_eq_getElem?_getD, List.getElem?_map, List.getElem?_range hj]
    show _ = aw_fv (g_ad G) (aw_nw S I L R N (cl + 3, 0)) (N + 3) (aw_ty cl j) j
    cases hty : aw_ty cl j <;> rw [hty] at ht <;> first | (simp [aw_fv, va_up, defaultValue, va_rf]; done) | cases ht
theorem aw_newI {n : Int32} {n2 : Nat} (hd : decode (aw_c M) pc = .ok (.newarray .int, 2)) (hw : Cond.arrayClass .int ∈ aw_tbl) (h0 : ¬ n < 0) (hn : n.toNatClampNeg = n2) (hb2 : n2 ≤ 100000)
    (hq : q.1 + 1 ≤ aw_mc M ∧ q.2 + n2 ≤ aw_ms M) (k : aw_W G M (pc + 2) ls (.ref (N + 3) :: st) (aw_nw S I L R N (0, n2)) (q.1 + 1, q.2 + n2) Q) : aw_W G M pc ls (.int n :: st) (S, I, L, R, N) q Q := by
  intro p e s m args below meth c Z hC hZ H locs lsC hL hR hS
  obtain ⟨hx, hb, hml, hown, hts, hin, hFx⟩ := id hC
  refine va_newaK (atype := .int) hx hb (hts _ hw) rfl hd rfl h0 hn (by show n2 * 4 ≤ 536870912; omega) hq.1 hq.2 rfl fun H1 cA e1 z1 o1 hAr hNm => ?_
  have hcA : cA = g_I G := by
    have r := (hFx.1.2 0 _ rfl).2
    exact Option.some.inj (hNm.symm.trans r)
  subst hcA
  have hkk := k p e s m args below meth c Z hC hZ H1 locs lsC hL (hR.push z1 o1 ?_) (aw_S_push hS z1 o1)
  · have ha : g_ad G (N + 3) = H.size := by rw [aw_ado hFx (by omega), show N + 3 - 3 = N by omega]; exact hR.1.symm
    have hkk2 : W p (g_l G) e (aw_rm M) s m args below meth c H1 locs (q.1 + 1) (q.2 + n2) Z (F0 m (pc + 2) lsC (.ref (g_ad G (N + 3)) :: st.map (aw_cv (g_ad G)))) := hkk
    rw [ha] at hkk2
    exact hkk2
  · rw [aw_enI (h := aw_nw S I L R N (0, n2)) (n := n2) (by show va_up S (N + 3) _ (N + 3) = _; simp [va_up])]
    have hsz : H.size = g_b G + N := hR.1
    rw [hsz] at e1
    show H1[_]? = some (vp_cell _ _)
    rw [e1, vp_cell_i]
    congr 2
    funext j
    simp [va_up]; rfl
theorem aw_newL {n : Int32} {n2 : Nat} (hd : decode (aw_c M) pc = .ok (.newarray .long, 2)) (hw : Cond.arrayClass .long ∈ aw_tbl) (h0 : ¬ n < 0) (hn : n.toNatClampNeg = n2) (hb2 : n2 ≤ 100000)
    (hq : q.1 + 1 ≤ aw_mc M ∧ q.2 + n2 ≤ aw_ms M) (k : aw_W G M (pc + 2) ls (.ref (N + 3) :: st) (aw_nw S I L R N (1, n2)) (q.1 + 1, q.2 + n2) Q) : aw_W G M pc ls (.int n :: st) (S, I, L, R, N) q Q := by
  intro p e s m args below meth c Z hC hZ H locs lsC hL hR hS
  obtain ⟨hx, hb, hml, hown, hts, hin, hFx⟩ := id hC
  refine va_newaK (atype := .long) hx hb (hts _ hw) rfl hd rfl h0 hn (by show n2 * 8 ≤ 536870912; omega) hq.1 hq.2 rfl fun H1 cA e1 z1 o1 hAr hNm => ?_
  have hcA : cA = g_L G := by
    have r := (hFx.1.2 1 _ rfl).2
    exact Option.some.inj (hNm.symm.trans r)
  subst hcA
  have hkk := k p e s m args below meth c Z hC hZ H1 locs lsC hL (hR.push z1 o1 ?_) (aw_S_push hS z1 o1)
  · have ha : g_ad G (N + 3) = H.size := by rw [aw_ado hFx (by omega), show N + 3 - 3 = N by omega]; exact hR.1.symm
    have hkk2 : W p (g_l G) e (aw_rm M) s m args below meth c H1 locs (q.1 + 1) (q.2 + n2) Z (F0 m (pc + 2) lsC (.ref (g_ad G (N + 3)) :: st.map (aw_cv (g_ad G)))) := hkk
    rw [ha] at hkk2
    exact hkk2
  · rw [aw_enL (h := aw_nw S I L R N (1, n2)) (n := n2) (by show va_up S (N + 3) _ (N + 3) = _; simp [va_up])]
    have hsz : H.size = g_b G + N := hR.1
    rw [hsz] at e1
    show H1[_]? = some (vp_cell _ _)
    rw [e1, vp_cell_l]
    congr 2
    funext j
    simp [va_up]; rfl
theorem aw_newR {n : Int32} {n2 idx : Nat} (hd : decode (aw_c M) pc = .ok (.anewarray idx, 3)) (hw : Cond.classLink (aw_nm (aw_own M)) idx RX8 ∈ aw_tbl) (h0 : ¬ n < 0) (hn : n.toNatClampNeg = n2) (hb2 : n2 ≤ 100000)
    (hq : q.1 + 1 ≤ aw_mc M ∧ q.2 + n2 ≤ aw_ms M) (k : aw_W G M (pc + 3) ls (.ref (N + 3) :: st) (aw_nw S I L R N (2, n2)) (q.1 + 1, q.2 + n2) Q) : aw_W G M pc ls (.int n :: st) (S, I, L, R, N) q Q := by
  intro p e s m args below meth c Z hC hZ H locs lsC hL hR hS
  obtain ⟨hx, hb, hml, hown, hts, hin, hFx⟩ := id hC
  subst hn
  refine W.anew hx hb hown (hts _ hw) (va_AO.use hFx.2.2.1) rfl hd rfl h0 (by omega) hq.1 hq.2 fun cA kA comp f1 f2 f3 f4 => ?_
  have hcA : cA = g_R G := by
    obtain ⟨_, _, _, _, _, r⟩ := (hFx.1.2 2 _ rfl).2
    exact Option.some.inj (f1.symm.trans r)
  subst hcA
  generalize hH1 : H.push ({ cls := g_R G, slots := Array.replicate n.toNatClampNeg .null, vm := .none } : Cell) = H1
  have z1 : H1.size = H.size + 1 := by rw [← hH1, Array.size_push]
  have e1 : H1[H.size]? = some (arrV (g_R G) n.toNatClampNeg (fun _ => .null)) := by rw [← hH1, Array.getElem?_push_size, ← arrV_new]
  have o1 : ∀ a : Nat, a < H.size → H1[a]? = H[a]? := fun a ha => by rw [← hH1, Array.getElem?_push, if_neg (Nat.ne_of_lt ha)]
  have hkk := k p e s m args below meth c Z hC hZ H1 locs lsC hL (hR.push z1 o1 ?_) (aw_S_push hS z1 o1)
  · have ha : g_ad G (N + 3) = H.size := by rw [aw_ado hFx (by omega), show N + 3 - 3 = N by omega]; exact hR.1.symm
    have hkk2 : W p (g_l G) e (aw_rm M) s m args below meth c H1 locs (q.1 + 1) (q.2 + n.toNatClampNeg) Z (F0 m (pc + 3) lsC (.ref (g_ad G (N + 3)) :: st.map (aw_cv (g_ad G)))) := hkk
    rw [ha] at hkk2
    exact hkk2
  · rw [aw_enR (h := aw_nw S I L R N (2, n.toNatClampNeg)) (n := n.toNatClampNeg) (by show va_up S (N + 3) _ (N + 3) = _; simp [va_up])]
    have hsz : H.size = g_b G + N := hR.1
    rw [hsz] at e1
    show H1[_]? = some (vp_cell _ _)
    rw [e1, vp_cell_q]
    congr 2
    funext j
    simp [va_up, va_rf]
end AWH3
