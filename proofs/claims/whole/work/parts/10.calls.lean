theorem aw_nst_warm {w : Cond} (hw : w ∈ aw_nst) {s U : State} (hW : s.WarmedH U.vm) (hZ : va_Nw w s) : va_Nw w U := by
  have h2 := (List.mem_filter.mp hw).2
  cases w <;> first | exact va_Nw.warmM hW hZ | exact va_Nw.warmF hW hZ | (exfalso; revert h2; simp [aw_isN])
theorem aw_nst_on {w : Cond} (hw : w ∈ aw_nst) : w.onTables = true := by
  have h2 := (List.mem_filter.mp hw).2
  cases w <;> first | rfl | (exfalso; revert h2; simp [aw_isN])
theorem aw_Fx.at {G : aw_G} {s U : State} {H : Heap} {locs : List Loc} (h : aw_Fx G s) (hS : va_S (aw_A G) s.heap H locs) (hU : U.heap = H) (hW : s.WarmedH U.vm) : aw_Fx G U := by
  obtain ⟨h1, h2, h3, h4, h5, h6, h7, h8⟩ := h
  refine ⟨va_K.moved hW.alike h1, fun w hw => aw_nst_warm hw hW (h2 w hw), va_AO.moved hW.alike h3, fun o ho => ?_, ?_, ?_, h7, ?_⟩
  · rw [hU]; exact ((h4 o ho).moved hW.alike).kept (fun a h1 h2 => hS.2.1 a h1 h2)
  · rw [hU]; exact (h5.moved hW.alike).kept (fun a h1 h2 => hS.2.1 a h1 h2)
  · rw [hU]; exact (h6.moved hW.alike).kept (fun a h1 h2 => hS.2.1 a h1 h2)
  · rw [hU]; exact Nat.le_trans h8 hS.1
theorem aw_blind {G : aw_G} {av : List Value} {h : aw_H} : FrameBlind (va_Pc av (fun U => aw_Rep G h U.heap ∧ aw_Fx G U)) := by
  intro a U g mk hq
  obtain ⟨e1, hR, h1, h2, h3, h4, h5, h6, h7, h8⟩ := hq
  refine ⟨e1, hR, va_K.moved (u := U) (U := U.calling g mk a) (Vm.Alike.refl U.vm) h1, fun w hw => va_Nw.same (u := U) (U := U.calling g mk a) (aw_nst_on hw) rfl (h2 w hw), va_AO.moved (u := U) (U := U.calling g mk a) (Vm.Alike.refl U.vm) h3, fun o ho => ?_, ?_, ?_, h7, h8⟩
  · exact (h4 o ho).moved (U := U.calling g mk a) (Vm.Alike.refl U.vm)
  · exact h5.moved (U := U.calling g mk a) (Vm.Alike.refl U.vm)
  · exact h6.moved (U := U.calling g mk a) (Vm.Alike.refl U.vm)
/-- a method that can be called: its code stands in the tables -/
def aw_ok (M : aw_MR) : Prop := plainName (aw_y M).cls = true ∧ (aw_y M).cls = aw_nm (aw_own M) ∧ (aw_ini M = true → (aw_y M).name = "<init>") ∧ Cond.code (aw_y M) (aw_c M) (aw_nL M) (aw_ret M) ∈ aw_tbl ∧ Cond.initialized (aw_y M).cls ∈ aw_tbl ∧ ((aw_y M).cls ≠ "java/lang/invoke/MethodHandle" ∧ (aw_y M).cls ≠ "java/lang/invoke/VarHandle")
section AWC
variable {G : aw_G} {M : aw_MR} {pc : Nat} {ls st : List Value} {h : aw_H} {q : Nat × Nat} {Q : Option Value → aw_H → Prop}
theorem aw_sl_len (ad : Nat → Nat) (avs : List Value) : (lg_sl (avs.map (aw_cv ad))).length = (aw_sl avs).length := by
  induction avs with
  | nil => rfl
  | cons v vs ih =>
    simp only [lg_sl, aw_sl, List.map_cons, List.flatMap_cons, List.length_append] at ih ⊢
    rw [ih, aw_cv_cat]
    split <;> rfl
theorem aw_ent_L (ad : Nat → Nat) (avs : List Value) (n : Nat) (hn : (aw_sl avs).length ≤ n) : aw_L ad ((lg_sl (avs.map (aw_cv ad)) ++ List.replicate (n - (lg_sl (avs.map (aw_cv ad))).length) Slot.unset).toArray) n (aw_ent avs n) := by
  have h0 := lv_entry (avs.map (aw_cv ad)) (n := n) (by rw [aw_sl_len]; exact hn)
  refine ⟨h0.1, h0.2.1, ?_⟩
  intro i v hi hv
  have hi2 : (aw_sl avs)[i]? = some v := by
    unfold aw_ent at hi
    by_cases hl : i < (aw_sl avs).length
    · rw [List.getElem?_append_left hl] at hi; exact hi
    · rw [List.getElem?_append_right (by omega)] at hi
      exact absurd (List.eq_of_mem_replicate (List.mem_of_getElem? hi)) hv
  have key : ∀ (avs : List Value) (i : Nat), (aw_sl avs)[i]? = some v → (lg_sl (avs.map (aw_cv ad)))[i]? = some (.val (aw_cv ad v)) := by
    intro avs
    induction avs with
    | nil => intro i hi; cases hi
    | cons w ws ih =>
      intro i hi
      simp only [lg_sl, aw_sl, List.map_cons, List.flatMap_cons] at ih hi ⊢
      rw [aw_cv_cat]
      by_cases hc : w.category = 2
      · rw [if_pos hc] at hi ⊢
        match i, hi with
        | 0, hi => cases hi; rfl
        | 1, hi => cases hi; exact absurd rfl hv
        | i + 2, hi => exact ih i hi
      · rw [if_neg hc] at hi ⊢
        match i, hi with
        | 0, hi => cases hi; rfl
        | i + 1, hi => exact ih i hi
  have h1 := key avs i hi2
  rw [List.getElem?_toArray, List.getElem?_append_left (List.getElem?_eq_some_iff.mp h1).1]
  exact h1
/-- a contract out of a walk -/
theorem aw_Met.of {avs : List Value} (hok : aw_ok M) (hlen : (aw_sl avs).length ≤ aw_nL M) (k : aw_W G M 0 (aw_ent avs (aw_nL M)) [] h (0, 0) Q) : aw_Met G M avs h Q := by
  refine Met.ofW (cc := aw_c M) (maxL := aw_nL M) (ret := aw_ret M) hok.1 rfl ?_
  intro p e s m args below meth c s₁ B hml hv
  obtain ⟨rfl, hR, hFx⟩ := hv
  have hts := atoms_spec (ws := aw_ws M) B.pre
  have hown : s.vm.findClass (aw_y M).cls = some m.cls := findClass_of_methodNamed B.named
  have hlocks := B.notSynchronized
  have hnm := (name_of_methodNamed B.named B.method).1
  rw [lg_entry_eq]
  refine k p e s m _ below meth c _ ⟨B.exec, B.bytes, hml, by rw [← hok.2.1]; exact hown, fun w hw => hts w (List.mem_cons_of_mem _ hw), fun hi => hnm.trans (hok.2.2.1 hi), hFx⟩ ?_ s.heap [] _ (aw_ent_L (g_ad G) avs (aw_nL M) hlen) hR va_S.rf
  intro pc2 ls2 v h2 H2 locs2 q2 hQ hR2 hS2 hq2 hrt
  refine W.widen hq2.1 hq2.2 ?_
  have hr := B.returns
  rcases hrt with ⟨rfl, hd, hre⟩ | ⟨x, ty, rfl, hd, hre, hn⟩ | ⟨x, rfl, hd, hre⟩ | ⟨a, n, rfl, hd, hre⟩
  · exact W.vret B.exec B.bytes (hr.trans hre) (fun t ht hW => ⟨none, h2, rfl, hQ, by rw [ht]; exact hR2, hS2.F ht⟩) (fun z hz => hS2.2.2 z hz) hd
  · exact W.zret B.exec B.bytes (hr.trans hre) hn (fun t ht hW => ⟨some (.int x), h2, rfl, hQ, by rw [ht]; exact hR2, hS2.F ht⟩) (fun z hz => hS2.2.2 z hz) hd
  · exact W.lret B.exec B.bytes (hr.trans hre) (fun t ht hW => ⟨some (.long x), h2, rfl, hQ, by rw [ht]; exact hR2, hS2.F ht⟩) (fun z hz => hS2.2.2 z hz) hd
  · exact W.aret B.exec B.bytes (hr.trans hre) (Or.inl ⟨_, rfl⟩) (Or.inr ⟨_, rfl⟩) (fun t ht hW => ⟨some (.ref a), h2, rfl, hQ, by rw [ht]; exact hR2, hS2.F ht⟩) (fun z hz => hS2.2.2 z hz) hd
theorem aw_Met.mono {avs : List Value} {Q2 : Option Value → aw_H → Prop} (hq : ∀ v h2, Q2 v h2 → Q v h2) (k : aw_Met G M avs h Q2) : aw_Met G M avs h Q := by
  intro p e ha hc hk s m args below hf hpre hP hcl
  obtain ⟨t, o, h1, h2, h3, ⟨v, hh, g1, g2, g3, g4⟩, h4⟩ := k p e ha hc hk s m args below hf hpre hP hcl
  exact ⟨t, o, h1, h2, h3, ⟨v, hh, g1, hq _ _ g2, g3, g4⟩, h4⟩
/-- behind a call -/
theorem aw_run {p : Program} {e : Env} {s : State} {m : MethodId} {args a : Array Value} {below : List Frame} {meth : Method} {c : Code} {Z : State → Prop} {H : Heap} {locs : List Loc} {lsC : Array Slot} {st0 rest : List Value} {mc ms : Nat} {Q2 : Option Value → aw_H → Prop}
    (hC : aw_Cx G M p s m args meth c)
    (hZ : ∀ (pc2 : Nat) (ls2 : Array Slot) (v : Option Value) (h2 : aw_H) (H2 : Heap) (locs2 : List Loc) (q2 : Nat × Nat), Q v h2 → aw_Rep G h2 H2 → va_S (aw_A G) s.heap H2 locs2 → (q2.1 ≤ aw_mc M ∧ q2.2 ≤ aw_ms M) → aw_Rt M pc2 v → W p (g_l G) e (aw_rm M) s m args below meth c H2 locs2 q2.1 q2.2 Z (F0 m pc2 ls2 (v.toList.map (aw_cv (g_ad G)))))
    (hL : aw_L (g_ad G) lsC (aw_nL M) ls) (hS : va_S (aw_A G) s.heap H locs)
    (hr : va_Run p (g_l G) e (aw_rm M) s m args below meth c H locs q.1 q.2 mc ms (F0 m pc lsC st0) (rest.map (aw_cv (g_ad G))) (aw_Qc G Q2 a) (aw_A G))
    (k : ∀ v h2, Q2 v h2 → aw_W G M (pc + 3) ls (v.toList ++ rest) h2 (q.1 + mc, q.2 + ms) Q) : W p (g_l G) e (aw_rm M) s m args below meth c H locs q.1 q.2 Z (F0 m pc lsC st0) := by
  intro T hT X
  obtain ⟨v, st₀, t, T', LL, h0, X', hLL, e1, e2, ⟨v2, h2, hv, hQ, hR2, hz, hkp⟩, stp⟩ := hr T hT X
  injection hv with hv
  subst hv
  rw [h0] at hz hkp
  have hS' : va_S (aw_A G) s.heap T'.heap (locs ++ LL) := ⟨Nat.le_trans hS.1 (by rw [e1]; exact hz), fun a h1 h2 => by rw [e1, hkp a (Nat.lt_of_lt_of_le h1 hS.1) h2]; exact hS.2.1 a h1 h2, fun z hz => by
    rcases List.mem_append.mp hz with h | h
    · exact hS.2.2 z h
    · exact hLL z h⟩
  have hkk := k v2 h2 hQ p e s m args below meth c Z hC hZ T'.heap (locs ++ LL) lsC hL (by rw [e1]; exact hR2) hS'
  obtain ⟨t2, a1, b1⟩ := hkk T' rfl X'
  refine ⟨t2, stp t2 ?_, b1⟩
  have hst : (v2.map (aw_cv (g_ad G))).toList ++ rest.map (aw_cv (g_ad G)) = (v2.toList ++ rest).map (aw_cv (g_ad G)) := by
    cases v2 <;> simp
  show Steps p.tables e below (T'.setTop (F0 m (pc + 3) lsC ((v2.map (aw_cv (g_ad G))).toList ++ rest.map (aw_cv (g_ad G))))) t2
  rw [hst]
  exact a1
theorem aw_cat_sum (ad : Nat → Nat) (l : List Value) : ((l.map (aw_cv ad)).map fun v => v.category).sum = (l.map fun v => v.category).sum := by
  rw [List.map_map]
  congr 1
  apply List.map_congr_left
  intro v _
  exact aw_cv_cat ad v
/-- the room of a callee fits the caller's -/
def aw_fit (M M2 : aw_MR) (q : Nat × Nat) : Prop := (aw_fr M2 + 1 ≤ aw_fr M ∧ 8 + (aw_nL M2 + 11) + aw_lo M2 ≤ aw_lo M) ∧ (q.1 + aw_mc M2 ≤ aw_mc M ∧ q.2 + aw_ms M2 ≤ aw_ms M)
theorem aw_preS {avs : List Value} {s : State} {H : Heap} {locs : List Loc} (hFx : aw_Fx G s) (hR : aw_Rep G h H) (hS : va_S (aw_A G) s.heap H locs) : PreS s H (va_Pc (avs.map (aw_cv (g_ad G))) (fun U => aw_Rep G h U.heap ∧ aw_Fx G U)) (avs.map (aw_cv (g_ad G))) :=
  ⟨aw_blind, fun U hU hW => ⟨rfl, by rw [hU]; exact hR, hFx.at hS hU hW⟩⟩
/-- invokestatic -/
def aw_KS (own idx : Nat) (M2 : aw_MR) (n : Nat) : Prop := aw_ok M2 ∧ Cond.methodLink (aw_nm own) idx (aw_y M2) ∈ aw_tbl ∧ Cond.static (aw_y M2) ∈ aw_tbl ∧ (parseMethodDescriptor (aw_y M2).desc).map (fun d => d.parameters.length) = some n
theorem aw_invS {M2 : aw_MR} {As rest : List Value} {idx n : Nat} {Q2 : Option Value → aw_H → Prop} (hd : decode (aw_c M) pc = .ok (.invokestatic idx, 3)) (hk : aw_KS (aw_own M) idx M2 n) (hn : As.length = n) (hst : st = As.reverse ++ rest) (hr : (rest.map fun v => v.category).sum ≤ 8) (hf : aw_fit M M2 q)
    (hM : aw_Met G M2 As h Q2) (k : ∀ v h2, Q2 v h2 → aw_W G M (pc + 3) ls (v.toList ++ rest) h2 (q.1 + aw_mc M2, q.2 + aw_ms M2) Q) : aw_W G M pc ls st h q Q := by
  intro p e s m args below meth c Z hC hZ H locs lsC hL hR hS
  obtain ⟨hx, hb, hml, hown, hts, hin, hFx⟩ := id hC
  obtain ⟨hok, hw1, hw2, hnp⟩ := hk
  refine aw_run hC hZ hL hS (va_runS (As := As.map (aw_cv (g_ad G))) ⟨hx, hb, hml, hown, hts⟩ hM ⟨callB_of n hts (aw_GW hok.2.2.2.1) rfl rfl rfl (hts _ hok.2.2.2.2.1) (hts _ hw1) ⟨hok.2.2.2.2.2.1, hok.2.2.2.2.2.2, hnp⟩ hf.1, hts _ hw2⟩ (aw_preS hFx hR hS) rfl (by rw [List.length_map]; exact hn) hL.1 (by show st.map _ = _; rw [hst, List.map_append, List.map_reverse]) (by show 2 * 0 + _ ≤ 8; rw [aw_cat_sum]; omega) hd hf.2) k
/-- invokevirtual of a method of the receiver's own kind -/
def aw_KV (own idx : Nat) (M2 : aw_MR) (n : Nat) : Prop := aw_ok M2 ∧ Cond.methodLink (aw_nm own) idx (aw_y M2) ∈ aw_tbl ∧ Cond.instanceMethod (aw_y M2) ∈ aw_tbl ∧ Cond.selects (aw_y M2).cls (aw_y M2) (aw_y M2) ∈ aw_tbl ∧ aw_own M2 < 12 ∧ (parseMethodDescriptor (aw_y M2).desc).map (fun d => d.parameters.length) = some n
theorem aw_invV {M2 : aw_MR} {b n2 : Nat} {As rest : List Value} {idx n : Nat} {Q2 : Option Value → aw_H → Prop} (hd : decode (aw_c M) pc = .ok (.invokevirtual idx, 3)) (hk : aw_KV (aw_own M) idx M2 n) (hn : As.length = n) (hst : st = As.reverse ++ .ref b :: rest) (hs : h.1 b = (aw_own M2 + 3, n2)) (hb3 : 3 ≤ b ∧ b < h.2.2.2.2 + 3) (hr : (rest.map fun v => v.category).sum ≤ 8) (hf : aw_fit M M2 q)
    (hM : aw_Met G M2 (.ref b :: As) h Q2) (k : ∀ v h2, Q2 v h2 → aw_W G M (pc + 3) ls (v.toList ++ rest) h2 (q.1 + aw_mc M2, q.2 + aw_ms M2) Q) : aw_W G M pc ls st h q Q := by
  intro p e s m args below meth c Z hC hZ H locs lsC hL hR hS
  obtain ⟨hx, hb, hml, hown, hts, hin, hFx⟩ := id hC
  obtain ⟨hok, hw1, hw2, hw3, hcl, hnp⟩ := hk
  have hpre := aw_preS (avs := .ref b :: As) hFx hR hS
  have hrec : ∃ cell : Cell, H[g_ad G b]? = some cell ∧ cell.vm.isStatics = false ∧ s.vm.findClass (aw_y M2).cls = some cell.cls := by
    have h1 := va_recv hFx.1 hR.2.1 (aw_cls hcl) (q0 := b - 3) ((aw_wo hb3.1 hb3.2).trans (by rw [aw_enO hs]))
    rw [aw_ado hFx hb3.1, hok.2.1]
    exact h1
  refine aw_run hC hZ hL hS (va_runV (C := (aw_y M2).cls) (b := g_ad G b) (As := As.map (aw_cv (g_ad G))) ⟨hx, hb, hml, hown, hts⟩ hM ⟨callB_of n hts (aw_GW hok.2.2.2.1) rfl rfl rfl (hts _ hok.2.2.2.2.1) (hts _ hw1) ⟨hok.2.2.2.2.2.1, hok.2.2.2.2.2.2, hnp⟩ hf.1, hts _ hw2, hts _ hw3⟩ ⟨hpre.1, hrec, hpre.2⟩ rfl (by rw [List.length_map]; exact hn) hL.1 (by show st.map _ = _; rw [hst, List.map_append, List.map_reverse]; rfl) (by show 2 * 0 + _ ≤ 8; rw [aw_cat_sum]; omega) hd hf.2) k
/-- invokespecial of a constructor -/
def aw_KI (own idx : Nat) (M2 : aw_MR) (n : Nat) : Prop := aw_ok M2 ∧ aw_ret M2 = none ∧ (aw_y M2).name = "<init>" ∧ (Cond.methodLink (aw_nm own) idx (aw_y M2) ∈ aw_tbl ∨ Cond.methodLinkNest (aw_nm own) idx (aw_y M2) RX10 ∈ aw_nst) ∧ Cond.instanceMethod (aw_y M2) ∈ aw_tbl ∧ (parseMethodDescriptor (aw_y M2).desc).map (fun d => d.parameters.length) = some n
theorem aw_invI {M2 : aw_MR} {b : Nat} {As rest : List Value} {idx n : Nat} {Q2 : Option Value → aw_H → Prop} (hd : decode (aw_c M) pc = .ok (.invokespecial idx, 3)) (hk : aw_KI (aw_own M) idx M2 n) (hn : As.length = n) (hst : st = As.reverse ++ .ref b :: rest) (hr : (rest.map fun v => v.category).sum ≤ 8) (hf : aw_fit M M2 q)
    (hM : aw_Met G M2 (.ref b :: As) h Q2) (k : ∀ v h2, Q2 v h2 → aw_W G M (pc + 3) ls (v.toList ++ rest) h2 (q.1 + aw_mc M2, q.2 + aw_ms M2) Q) : aw_W G M pc ls st h q Q := by
  intro p e s m args below meth c Z hC hZ H locs lsC hL hR hS
  obtain ⟨hx, hb, hml, hown, hts, hin, hFx⟩ := id hC
  obtain ⟨hok, hret, hnm, hw1, hw2, hnp⟩ := hk
  have hws : aw_ws M2 = Cond.code (aw_y M2) (aw_c M2) (aw_nL M2) none :: aw_tbl := by
    show Cond.code (aw_y M2) (aw_c M2) (aw_nL M2) (aw_ret M2) :: aw_tbl = _
    rw [hret]
  rcases hw1 with hw1 | hw1
  · refine aw_run hC hZ hL hS (va_runI (b := g_ad G b) (As := As.map (aw_cv (g_ad G))) ⟨hx, hb, hml, hown, hts⟩ hM (cwI n hts (aw_GW hok.2.2.2.1) hws rfl rfl (hts _ hok.2.2.2.2.1) (hts _ hw1) (hts _ hw2) hnm ⟨hok.2.2.2.2.2.1, hok.2.2.2.2.2.2, hnp⟩ hf.1) (aw_preS (avs := .ref b :: As) hFx hR hS) rfl (by rw [List.length_map]; exact hn) hL.1 (by show st.map _ = _; rw [hst, List.map_append, List.map_reverse]; rfl) (by show 2 * 0 + _ ≤ 8; rw [aw_cat_sum]; omega) hd hf.2) k
  · refine aw_run hC hZ hL hS (va_runIN (b := g_ad G b) (As := As.map (aw_cv (g_ad G))) ⟨hx, hb, hml, hown, hts⟩ hM ⟨va_cnB n hts (aw_GW hok.2.2.2.1) hws rfl rfl (hFx.2.1 _ hw1) (hts _ hok.2.2.2.2.1) ⟨hok.2.2.2.2.2.1, hok.2.2.2.2.2.2, hnp⟩ hf.1, hnm, hts _ hw2⟩ (aw_preS (avs := .ref b :: As) hFx hR hS) rfl (by rw [List.length_map]; exact hn) hL.1 (by show st.map _ = _; rw [hst, List.map_append, List.map_reverse]; rfl) (by show 2 * 0 + _ ≤ 8; rw [aw_cat_sum]; omega) hd hf.2) k
theorem aw_obj {b idx : Nat} (hd : decode (aw_c M) pc = .ok (.invokespecial idx, 3)) (hw1 : Cond.methodLink (aw_nm (aw_own M)) idx Lib.objectInit ∈ aw_tbl) (hw2 : Cond.instanceMethod Lib.objectInit ∈ aw_tbl) (hw3 : Cond.code Lib.objectInit ⟨#[0xb1]⟩ 1 none ∈ aw_tbl) (hf : 1 ≤ aw_fr M ∧ (st.map fun v => v.category).sum + 12 ≤ aw_lo M)
    (k : aw_W G M (pc + 3) ls st h q Q) : aw_W G M pc ls (.ref b :: st) h q Q := by
  intro p e s m args below meth c Z hC hZ H locs lsC hL hR hS
  have hk := k p e s m args below meth c Z hC hZ H locs lsC hL hR hS
  obtain ⟨hx, hb, hml, hown, hts, hin, hFx⟩ := id hC
  exact W.objInit hx hb hown (hts _ hw1) (hts _ hw2) (hts _ hw3) rfl (hL.1.trans hml.symm) (a := g_ad G b) (rest := st.map (aw_cv (g_ad G))) rfl hd hf.1 (by show 2 * 0 + _ + 12 ≤ aw_lo M; rw [aw_cat_sum]; omega) hk
theorem aw_getWAY {idx : Nat} (hd : decode (aw_c M) pc = .ok (.getstatic idx, 3)) (hw : Cond.fieldLinkNest (aw_nm (aw_own M)) idx RX9 "WAY" "[I" RX10 ∈ aw_nst) (k : aw_W G M (pc + 3) ls (.ref 1 :: st) h q Q) : aw_W G M pc ls st h q Q := by
  intro p e s m args below meth c Z hC hZ H locs lsC hL hR hS
  have hk := k p e s m args below meth c Z hC hZ H locs lsC hL hR hS
  obtain ⟨hx, hb, hml, hown, hts, hin, hFx⟩ := id hC
  exact va_getsN hx hb hFx.2.2.2.2.1 hS hown (va_Nw.use rfl (hFx.2.1 _ hw)) (fun x z => z) hd hk
theorem aw_getCAR {idx : Nat} (hd : decode (aw_c M) pc = .ok (.getstatic idx, 3)) (hw : Cond.fieldLinkNest (aw_nm (aw_own M)) idx RX9 "CARTER" "[I" RX10 ∈ aw_nst) (k : aw_W G M (pc + 3) ls (.ref 2 :: st) h q Q) : aw_W G M pc ls st h q Q := by
  intro p e s m args below meth c Z hC hZ H locs lsC hL hR hS
  have hk := k p e s m args below meth c Z hC hZ H locs lsC hL hR hS
  obtain ⟨hx, hb, hml, hown, hts, hin, hFx⟩ := id hC
  exact va_getsN hx hb hFx.2.2.2.2.2.1 hS hown (va_Nw.use rfl (hFx.2.1 _ hw)) (fun x z => z) hd hk
end AWC
