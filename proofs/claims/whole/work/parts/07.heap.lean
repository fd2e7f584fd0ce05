section AWH
variable {G : aw_G} {M : aw_MR} {pc : Nat} {ls st : List Value} {q : Nat × Nat} {Q : Option Value → aw_H → Prop}
variable {S : Nat → Nat × Nat} {I : Nat → Nat → Int32} {L : Nat → Nat → Int64} {R : Nat → Nat → Option Nat} {N : Nat}
/-- field j of the objects of number cl, by the entry idx of the class file of the owner -/
def aw_F (own idx cl j : Nat) : Prop := cl < 12 ∧ j < aw_N cl ∧ Cond.fieldLink (aw_nm own) idx (aw_T cl j).1 (aw_T cl j).2.1 (aw_T cl j).2.2.1 ∈ aw_tbl
theorem aw_enO {h : aw_H} {o cl n : Nat} (hs : h.1 o = (cl + 3, n)) : aw_en G h o = .inr (cl, (List.range (aw_N cl)).map (fun j => aw_fv (g_ad G) h o (aw_ty cl j) j)) := by
  unfold aw_en; rw [hs]
theorem aw_enI {h : aw_H} {o n : Nat} (hs : h.1 o = (0, n)) : aw_en G h o = .inl (g_I G, n, .inl (h.2.1 o)) := by
  unfold aw_en; rw [hs]
theorem aw_enL {h : aw_H} {o n : Nat} (hs : h.1 o = (1, n)) : aw_en G h o = .inl (g_L G, n, .inr (.inl (h.2.2.1 o))) := by
  unfold aw_en; rw [hs]
theorem aw_enR {h : aw_H} {o n : Nat} (hs : h.1 o = (2, n)) : aw_en G h o = .inl (g_R G, n, .inr (.inr (.inr (.inr (fun j => (h.2.2.2.1 o j).map (g_ad G)))))) := by
  unfold aw_en; rw [hs]
theorem aw_wo {h : aw_H} {o : Nat} (h3 : 3 ≤ o) (hN : o < h.2.2.2.2 + 3) : (aw_wl G h)[o - 3]? = some (g_b G + (o - 3), aw_en G h o) := by
  rw [aw_wl_get (by omega), show o - 3 + 3 = o by omega]
theorem aw_ado {U : State} (hF : aw_Fx G U) {o : Nat} (h3 : 3 ≤ o) : g_ad G o = g_b G + (o - 3) := by
  have h1 := hF.2.2.2.2.2.2.1 (o - 3)
  rw [show o - 3 + 3 = o by omega] at h1
  exact h1
theorem aw_get {h : aw_H} {o cl j idx n : Nat} {v : Value} (hd : decode (aw_c M) pc = .ok (.getfield idx, 3)) (hf : aw_F (aw_own M) idx cl j) (hs : h.1 o = (cl + 3, n)) (ho : 3 ≤ o ∧ o < h.2.2.2.2 + 3) (hv : ∀ ad, aw_fv ad h o (aw_ty cl j) j = aw_cv ad v)
    (k : aw_W G M (pc + 3) ls (v :: st) h q Q) : aw_W G M pc ls (.ref o :: st) h q Q := by
  intro p e s m args below meth c Z hC hZ H locs lsC hL hR hS
  have hk := k p e s m args below meth c Z hC hZ H locs lsC hL hR hS
  obtain ⟨hx, hb, hml, hown, hts, hin, hFx⟩ := id hC
  show W p (g_l G) e (aw_rm M) s m args below meth c H locs q.1 q.2 Z (F0 m pc lsC (.ref (g_ad G o) :: st.map (aw_cv (g_ad G))))
  rw [aw_ado hFx ho.1]
  refine va_get (D := g_D G) (cl := vwCl) (tys := aw_tys G) (ws := aw_wl G h) (ci := cl) (C := aw_nm cl) (T := aw_T cl) (N := aw_N cl) hx hb hts (aw_uws hf.1) hown hFx.1 hR.2.1 (o - 3) ((aw_wo ho.1 ho.2).trans (by rw [aw_enO hs])) (aw_cls hf.1) j hf.2.1 (hts _ hf.2.2) (fun x z => z) (v := aw_cv (g_ad G) v) ?_ hd hk
  rw [List.getElem?_map, List.getElem?_range hf.2.1]
  show some (aw_fv (g_ad G) h o (aw_ty cl j) j) = _
  rw [hv]
theorem aw_getI {o cl j idx n : Nat} (hd : decode (aw_c M) pc = .ok (.getfield idx, 3)) (hf : aw_F (aw_own M) idx cl j) (hs : S o = (cl + 3, n)) (ho : 3 ≤ o ∧ o < N + 3) (ht : aw_ty cl j = .int)
    (k : aw_W G M (pc + 3) ls (.int (I o j) :: st) (S, I, L, R, N) q Q) : aw_W G M pc ls (.ref o :: st) (S, I, L, R, N) q Q :=
  aw_get hd hf hs ho (fun ad => by rw [ht]; rfl) k
theorem aw_getZ {o cl j idx n : Nat} (hd : decode (aw_c M) pc = .ok (.getfield idx, 3)) (hf : aw_F (aw_own M) idx cl j) (hs : S o = (cl + 3, n)) (ho : 3 ≤ o ∧ o < N + 3) (ht : aw_ty cl j = .boolean)
    (k : aw_W G M (pc + 3) ls (.int (I o j) :: st) (S, I, L, R, N) q Q) : aw_W G M pc ls (.ref o :: st) (S, I, L, R, N) q Q :=
  aw_get hd hf hs ho (fun ad => by rw [ht]; rfl) k
theorem aw_getL {o cl j idx n : Nat} (hd : decode (aw_c M) pc = .ok (.getfield idx, 3)) (hf : aw_F (aw_own M) idx cl j) (hs : S o = (cl + 3, n)) (ho : 3 ≤ o ∧ o < N + 3) (ht : aw_ty cl j = .long)
    (k : aw_W G M (pc + 3) ls (.long (L o j) :: st) (S, I, L, R, N) q Q) : aw_W G M pc ls (.ref o :: st) (S, I, L, R, N) q Q :=
  aw_get hd hf hs ho (fun ad => by rw [ht]; rfl) k
/-- is it a type of references -/
def aw_isR : FieldType → Bool
  | .object _ => true
  | .array _ => true
  | _ => false
theorem aw_getR {o cl j idx n a : Nat} (hd : decode (aw_c M) pc = .ok (.getfield idx, 3)) (hf : aw_F (aw_own M) idx cl j) (hs : S o = (cl + 3, n)) (ho : 3 ≤ o ∧ o < N + 3) (ht : aw_isR (aw_ty cl j) = true) (ha : R o j = some a)
    (k : aw_W G M (pc + 3) ls (.ref a :: st) (S, I, L, R, N) q Q) : aw_W G M pc ls (.ref o :: st) (S, I, L, R, N) q Q :=
  aw_get hd hf hs ho (fun ad => by
    cases hty : aw_ty cl j with
    | object z => show va_rf ((R o j).map ad) = _; rw [ha]; rfl
    | array z => show va_rf ((R o j).map ad) = _; rw [ha]; rfl
    | _ => rw [hty] at ht; cases ht) k
theorem aw_Rep_of {h2 : aw_H} {H : Heap} (hN : H.size = g_b G + h2.2.2.2.2) (hP : va_P (g_D G) vwCl (aw_wl G h2) H) (hr : ∀ o, o < 3 → h2.1 o = (0, g_rn G o) ∧ h2.2.1 o = g_ro G o) : aw_Rep G h2 H := ⟨hN, hP, hr⟩
/-- one object holds something else -/
theorem aw_put {h h2 : aw_H} {o cl j idx n : Nat} {v : Value} (hd : decode (aw_c M) pc = .ok (.putfield idx, 3)) (hf : aw_F (aw_own M) idx cl j) (hs : h.1 o = (cl + 3, n)) (ho : 3 ≤ o ∧ o < h.2.2.2.2 + 3)
    (hfin : (aw_T cl j).2.2.2 = false ∨ (aw_ini M = true ∧ (aw_T cl j).1 = aw_nm (aw_own M))) (hn : ∀ ad, narrow (aw_ty cl j) (aw_cv ad v) = aw_cv ad v) (hfit : ∀ ad, fits (aw_ty cl j) (aw_cv ad v) = true)
    (hN2 : h2.2.2.2.2 = h.2.2.2.2) (hsh : h2.1 = h.1) (hro : ∀ a, a < 3 → h2.2.1 a = h.2.1 a) (hoth : ∀ k, k ≠ o → aw_en G h2 k = aw_en G h k) (hj : ∀ ad i, i < aw_N cl → aw_fv ad h2 o (aw_ty cl i) i = if i = j then aw_cv ad v else aw_fv ad h o (aw_ty cl i) i)
    (k : aw_W G M (pc + 3) ls st h2 q Q) : aw_W G M pc ls (v :: .ref o :: st) h q Q := by
  intro p e s m args below meth c Z hC hZ H locs lsC hL hR hS
  obtain ⟨hx, hb, hml, hown, hts, hin, hFx⟩ := id hC
  show W p (g_l G) e (aw_rm M) s m args below meth c H locs q.1 q.2 Z (F0 m pc lsC (aw_cv (g_ad G) v :: .ref (g_ad G o) :: st.map (aw_cv (g_ad G))))
  rw [aw_ado hFx ho.1]
  have hs2 : h2.1 o = (cl + 3, n) := by rw [hsh]; exact hs
  have he : (aw_wl G h)[o - 3]? = some (g_b G + (o - 3), .inr (cl, (List.range (aw_N cl)).map (fun j => aw_fv (g_ad G) h o (aw_ty cl j) j))) := (aw_wo ho.1 ho.2).trans (by rw [aw_enO hs])
  have hset : (aw_wl G h).set (o - 3) (g_b G + (o - 3), .inr (cl, ((List.range (aw_N cl)).map (fun j => aw_fv (g_ad G) h o (aw_ty cl j) j)).set j (aw_cv (g_ad G) v))) = aw_wl G h2 := by
    have h1 := aw_wl_set (G := G) (h := h) (h2 := h2) (i := o - 3) hN2 (fun k hk => hoth k (by omega))
    rw [show o - 3 + 3 = o by omega, aw_enO hs2] at h1
    rw [← h1]
    congr 4
    apply List.ext_getElem?
    intro i
    rw [List.getElem?_set, List.getElem?_map, List.getElem?_map]
    by_cases hi : i < aw_N cl
    · rw [List.getElem?_range hi]
      by_cases hij : j = i
      · subst hij
        rw [if_pos rfl, if_pos (by simpa using hi)]
        show _ = some (aw_fv (g_ad G) h2 o (aw_ty cl j) j)
        rw [hj _ _ hi, if_pos rfl]
      · rw [if_neg hij]
        show some _ = some (aw_fv (g_ad G) h2 o (aw_ty cl i) i)
        rw [hj _ _ hi, if_neg (fun z => hij z.symm)]
    · rw [List.getElem?_eq_none (by simpa using hi)]
      by_cases hij : j = i
      · subst hij
        rw [if_pos rfl, if_neg (by simpa using hi)]; rfl
      · rw [if_neg hij]; rfl
  have hD : va_D (aw_A G) (aw_wl G h) := aw_wl_D
  obtain ⟨r, z1, cell, c1, c2, c3, c4⟩ := hR.2.1 _ _ he
  have hr : r = (aw_nm cl, aw_T cl, aw_N cl) := Option.some.inj (z1.symm.trans (aw_cls hf.1))
  subst hr
  obtain ⟨hSl, hfc, kC, hkC, hkind⟩ := hFx.1.1 cl _ (aw_cls hf.1)
  obtain ⟨cf, kf, fi, f, hi, hsl⟩ := hSl j hf.2.1
  have hap := va_apart (own := aw_nm (aw_own M)) hts (aw_uws hf.1) (aw_ty cl) (aw_tyk hf.1) (aw_nmk hf.1) hFx.1 (aw_cls hf.1)
  have hst := (u_facts hfc hkC (u_lays hts (aw_uws hf.1) hf.2.1) hi).1
  have hlay := hts _ (aw_uws hf.1 _ (u_in_lay hf.2.1))
  have hk : ∀ H1 : Heap, H1[g_b G + (o - 3)]? = some (cell.setSlot f.slot (aw_cv (g_ad G) v)) → H1.size = H.size → (∀ a : Nat, a ≠ g_b G + (o - 3) → H1[a]? = H[a]?) → W p (g_l G) e (aw_rm M) s m args below meth c H1 (locs ++ [⟨g_b G + (o - 3), f.slot⟩]) q.1 q.2 Z (F0 m (pc + 3) lsC (st.map (aw_cv (g_ad G)))) := by
    intro H1 e1 e2 e3
    rw [hsl] at e1
    have hP1 := hR.2.1.set hD he (H1 := H1) (e := .inr (cl, ((List.range (aw_N cl)).map (fun j => aw_fv (g_ad G) h o (aw_ty cl j) j)).set j (aw_cv (g_ad G) v))) ⟨_, aw_cls hf.1, t_OB.to (V := updV (vp_V ((List.range (aw_N cl)).map (fun j => aw_fv (g_ad G) h o (aw_ty cl j) j))) j (aw_cv (g_ad G) v)) ⟨_, e1, c2, c3, t_set c4 hap hf.2.1 _⟩ (fun i _ => vp_updV_set (by simpa using hf.2.1) _ i)⟩ e3
    rw [hset] at hP1
    exact k p e s m args below meth c Z hC hZ H1 _ lsC hL ⟨by rw [e2, hN2]; exact hR.1, hP1, fun a ha => ⟨by rw [hsh]; exact (hR.2.2 a ha).1, by rw [hro a ha]; exact (hR.2.2 a ha).2⟩⟩ (hS.put e2 e3 (Nat.le_add_right _ _))
  rcases hfin with hfin | ⟨hini, hdecl⟩
  · unfold u_lay at hlay
    rw [if_neg (by rw [hfin]; decide)] at hlay
    have h6 := u_store hfc hkC hkind hlay hi (aw_tyk hf.1 j hf.2.1) (hn (g_ad G)) (hfit (g_ad G))
    exact W.putK hx hb (f := f) ⟨hown, hts _ hf.2.2, ⟨_, _, _, hi⟩, hst⟩ (by rw [c2]; exact h6) c1 c3 (by rw [hsl]; exact k2_hasslot (c4 j hf.2.1)) rfl rfl hd hk
  · cases hfn : (aw_T cl j).2.2.2 with
    | false =>
      unfold u_lay at hlay
      rw [if_neg (by rw [hfn]; decide)] at hlay
      have h6 := u_store hfc hkC hkind hlay hi (aw_tyk hf.1 j hf.2.1) (hn (g_ad G)) (hfit (g_ad G))
      exact W.putK hx hb (f := f) ⟨hown, hts _ hf.2.2, ⟨_, _, _, hi⟩, hst⟩ (by rw [c2]; exact h6) c1 c3 (by rw [hsl]; exact k2_hasslot (c4 j hf.2.1)) rfl rfl hd hk
    | true =>
      unfold u_lay at hlay
      rw [if_pos hfn] at hlay
      have hcf : m.cls = cf := by
        obtain ⟨_, _, c', _, _, _, -, -, hf', -, -, -, hown2, -⟩ := Cond.laysFinal_spec hlay
        have e1 : c' = cf := by have := hi.symm.trans hf'; simp at this; exact this.1.symm
        rw [hdecl] at hown2
        rw [← e1]; exact Option.some.inj (hown.symm.trans hown2)
      have h6 := u_fits hfc hkC hkind (Or.inr hlay) hi (aw_tyk hf.1 j hf.2.1) (hn (g_ad G)) (hfit (g_ad G))
      exact W.putFinK hx hb hown (hts _ hf.2.2) hi hst hcf (hin hini) (by rw [c2]; exact h6) c1 c3 (by rw [hsl]; exact k2_hasslot (c4 j hf.2.1)) rfl rfl hd hk
end AWH
