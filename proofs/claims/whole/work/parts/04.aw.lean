/-! THE LIGHT LAYER. A heap is a tuple (S, I, L, R, N): of each object its shape, its ints, its longs, its references; N objects.
References are numbers: 0 the script, 1 and 2 the two static rows, 3 and on the objects in the order in which they were made. -/
abbrev aw_H : Type := (Nat → Nat × Nat) × (Nat → Nat → Int32) × (Nat → Nat → Int64) × (Nat → Nat → Option Nat) × Nat
/-- a method: name, code, locals, answer's type, number of its owner, frames, words of locals, cells, slots, is it a constructor -/
abbrev aw_MR : Type := MethodName × ByteArray × Nat × Option FieldType × Nat × Nat × Nat × Nat × Nat × Bool
abbrev aw_y (M : aw_MR) : MethodName := M.1
abbrev aw_c (M : aw_MR) : ByteArray := M.2.1
abbrev aw_nL (M : aw_MR) : Nat := M.2.2.1
abbrev aw_ret (M : aw_MR) : Option FieldType := M.2.2.2.1
abbrev aw_own (M : aw_MR) : Nat := M.2.2.2.2.1
abbrev aw_fr (M : aw_MR) : Nat := M.2.2.2.2.2.1
abbrev aw_lo (M : aw_MR) : Nat := M.2.2.2.2.2.2.1
abbrev aw_mc (M : aw_MR) : Nat := M.2.2.2.2.2.2.2.1
abbrev aw_ms (M : aw_MR) : Nat := M.2.2.2.2.2.2.2.2.1
abbrev aw_ini (M : aw_MR) : Bool := M.2.2.2.2.2.2.2.2.2
abbrev aw_rm (M : aw_MR) : Room := { frames := aw_fr M, cells := aw_mc M, slots := aw_ms M, locals := aw_lo M }
def aw_tbl : List Cond := lw_tbl.filter goodWord
def aw_isN : Cond → Bool
  | .methodLinkNest .. => true
  | .fieldLinkNest .. => true
  | _ => false
def aw_nst : List Cond := lw_tbl.filter aw_isN
def aw_nm : Nat → String := fun k => match k with
  | 0 => RX0 | 1 => RX1 | 2 => RX2 | 3 => RX3 | 4 => RX4 | 5 => RX5 | 6 => RX6 | 7 => RX7 | 8 => RX8 | 9 => RX9 | 10 => RX10 | 11 => RX11 | 12 => R_law | 13 => RJ9 | _ => RJ6
def aw_T : Nat → u_T := fun k => match k with
  | 0 => TX0 | 1 => TX1 | 2 => TX2 | 3 => TX3 | 4 => TX4 | 5 => TX5 | 6 => TX6 | 7 => TX7 | 8 => TX8 | 9 => TX9 | 10 => TX10 | _ => TX11
def aw_ty : Nat → Nat → FieldType := fun k => match k with
  | 0 => tyX0 | 1 => tyX1 | 2 => tyX2 | 3 => tyX3 | 4 => tyX4 | 5 => tyX5 | 6 => tyX6 | 7 => tyX7 | 8 => tyX8 | 9 => tyX9 | 10 => tyX10 | _ => tyX11
def aw_N : Nat → Nat := fun k => match k with
  | 0 => 3 | 1 => 7 | 2 => 3 | 3 => 13 | 4 => 5 | 5 => 7 | 6 => 12 | 7 => 10 | 8 => 4 | 9 => 6 | 10 => 10 | _ => 32
/-- what is fixed for a whole run: launch, class numbers and slots, the array classes, where a reference lies, where the objects begin, the read-only rows -/
abbrev aw_G : Type := Launch × va_G × (ClassId × ClassId × ClassId) × (Nat → Nat) × Nat × (Nat → Nat) × (Nat → Nat → Int32)
abbrev g_l (G : aw_G) : Launch := G.1
abbrev g_D (G : aw_G) : va_G := G.2.1
abbrev g_I (G : aw_G) : ClassId := G.2.2.1.1
abbrev g_L (G : aw_G) : ClassId := G.2.2.1.2.1
abbrev g_R (G : aw_G) : ClassId := G.2.2.1.2.2
abbrev g_ad (G : aw_G) : Nat → Nat := G.2.2.2.1
abbrev g_b (G : aw_G) : Nat := G.2.2.2.2.1
abbrev g_rn (G : aw_G) : Nat → Nat := G.2.2.2.2.2.1
abbrev g_ro (G : aw_G) : Nat → Nat → Int32 := G.2.2.2.2.2.2
def aw_cv (ad : Nat → Nat) : Value → Value
  | .ref a => .ref (ad a)
  | v => v
def aw_fv (ad : Nat → Nat) (h : aw_H) (o : Nat) (ty : FieldType) (j : Nat) : Value := match ty with
  | .int => .int (h.2.1 o j)
  | .boolean => .int (h.2.1 o j)
  | .long => .long (h.2.2.1 o j)
  | _ => va_rf ((h.2.2.2.1 o j).map ad)
def aw_en (G : aw_G) (h : aw_H) (o : Nat) : va_E := match h.1 o with
  | (0, n) => .inl (g_I G, n, .inl (h.2.1 o))
  | (1, n) => .inl (g_L G, n, .inr (.inl (h.2.2.1 o)))
  | (2, n) => .inl (g_R G, n, .inr (.inr (.inr (.inr (fun j => (h.2.2.2.1 o j).map (g_ad G))))))
  | (c + 3, _) => .inr (c, (List.range (aw_N c)).map (fun j => aw_fv (g_ad G) h o (aw_ty c j) j))
def aw_wl (G : aw_G) (h : aw_H) : va_W := (List.range h.2.2.2.2).map (fun i => (g_b G + i, aw_en G h (i + 3)))
def aw_Rep (G : aw_G) (h : aw_H) (H : Heap) : Prop := H.size = g_b G + h.2.2.2.2 ∧ va_P (g_D G) vwCl (aw_wl G h) H ∧ ∀ o, o < 3 → h.1 o = (0, g_rn G o) ∧ h.2.1 o = g_ro G o
abbrev aw_tys (G : aw_G) : List (ClassId × FieldType) := [(g_I G, .int), (g_L G, .long), (g_R G, .object RX8)]
def aw_A (G : aw_G) : Nat → Prop := fun q => g_b G ≤ q
def aw_Fx (G : aw_G) (U : State) : Prop := va_K (g_D G) vwCl (aw_tys G) U ∧ (∀ w ∈ aw_nst, va_Nw w U) ∧ va_AO RX8 U ∧ (∀ o, o < 3 → va_T .int (g_ad G o) (g_rn G o) (fun j => .int (g_ro G o j)) (aw_A G) U U.heap) ∧ va_Z RX9 "WAY" "[I" (.ref (g_ad G 1)) (aw_A G) U U.heap ∧ va_Z RX9 "CARTER" "[I" (.ref (g_ad G 2)) (aw_A G) U U.heap ∧ (∀ i, g_ad G (i + 3) = g_b G + i) ∧ g_b G ≤ U.heap.size
/-- the locals; a place of which nothing is known holds retAddr 0 -/
abbrev aw_x : Value := .retAddr 0
def aw_L (ad : Nat → Nat) (lsC : Array Slot) (nL : Nat) (ls : List Value) : Prop := lsC.size = nL ∧ lv_wf lsC ∧ ∀ (i : Nat) (v : Value), ls[i]? = some v → v ≠ aw_x → lsC[i]? = some (.val (aw_cv ad v))
def aw_Cx (G : aw_G) (M : aw_MR) (p : Program) (s : State) (m : MethodId) (args : Array Value) (meth : Method) (c : Code) : Prop :=
  p.tables.exec = Jvm.exec ∧ c.code = aw_c M ∧ c.maxLocals = aw_nL M ∧ s.vm.findClass (aw_nm (aw_own M)) = some m.cls ∧ (∀ w ∈ aw_tbl, w.before args s = true) ∧ (aw_ini M = true → meth.name = "<init>") ∧ aw_Fx G s
def aw_Rt (M : aw_MR) (pc : Nat) (v : Option Value) : Prop :=
  (v = none ∧ decode (aw_c M) pc = .ok (.return_, 1) ∧ aw_ret M = none) ∨
  (∃ x ty, v = some (.int x) ∧ decode (aw_c M) pc = .ok (.ireturn, 1) ∧ aw_ret M = some ty ∧ narrow ty (.int x) = .int x) ∨
  (∃ x, v = some (.long x) ∧ decode (aw_c M) pc = .ok (.lreturn, 1) ∧ aw_ret M = some .long) ∨
  (∃ a n, v = some (.ref a) ∧ decode (aw_c M) pc = .ok (.areturn, 1) ∧ aw_ret M = some (.object n))
/-- from the abstract state at pc the machine comes to an end with Q -/
def aw_W (G : aw_G) (M : aw_MR) (pc : Nat) (ls st : List Value) (h : aw_H) (q : Nat × Nat) (Q : Option Value → aw_H → Prop) : Prop :=
  ∀ (p : Program) (e : Env) (s : State) (m : MethodId) (args : Array Value) (below : List Frame) (meth : Method) (c : Code) (Z : State → Prop),
    aw_Cx G M p s m args meth c →
    (∀ (pc2 : Nat) (ls2 : Array Slot) (v : Option Value) (h2 : aw_H) (H2 : Heap) (locs2 : List Loc) (q2 : Nat × Nat), Q v h2 → aw_Rep G h2 H2 → va_S (aw_A G) s.heap H2 locs2 → (q2.1 ≤ aw_mc M ∧ q2.2 ≤ aw_ms M) → aw_Rt M pc2 v →
      W p (g_l G) e (aw_rm M) s m args below meth c H2 locs2 q2.1 q2.2 Z (F0 m pc2 ls2 (v.toList.map (aw_cv (g_ad G))))) →
    ∀ (H : Heap) (locs : List Loc) (lsC : Array Slot), aw_L (g_ad G) lsC (aw_nL M) ls → aw_Rep G h H → va_S (aw_A G) s.heap H locs →
      W p (g_l G) e (aw_rm M) s m args below meth c H locs q.1 q.2 Z (F0 m pc lsC (st.map (aw_cv (g_ad G))))
abbrev aw_ws (M : aw_MR) : List Cond := .code (aw_y M) (aw_c M) (aw_nL M) (aw_ret M) :: aw_tbl
def aw_Qc (G : aw_G) (Q : Option Value → aw_H → Prop) : Array Value → State → Outcome → State → Prop := fun _ st oc t => ∃ (v : Option Value) (h2 : aw_H), oc = .returned (v.map (aw_cv (g_ad G))) ∧ Q v h2 ∧ aw_Rep G h2 t.heap ∧ va_F (aw_A G) st t
def aw_Met (G : aw_G) (M : aw_MR) (avs : List Value) (h : aw_H) (Q : Option Value → aw_H → Prop) : Prop :=
  Met (g_l G) (aw_y M) (aw_ws M) (aw_rm M) (va_Pc (avs.map (aw_cv (g_ad G))) (fun U => aw_Rep G h U.heap ∧ aw_Fx G U)) (aw_Qc G Q) (aw_mc M) (aw_ms M) (aw_A G)
def aw_sl (avs : List Value) : List Value := avs.flatMap fun v => if v.category = 2 then [v, aw_x] else [v]
def aw_ent (avs : List Value) (n : Nat) : List Value := aw_sl avs ++ List.replicate (n - (aw_sl avs).length) aw_x
/-- a storing of one slot hurts no long ahead of it -/
def aw_pok (ls : List Value) (i : Nat) : Bool := match i with
  | 0 => true
  | j + 1 => match ls[j]? with
    | some v => v.category == 1
    | none => true
theorem aw_cv_cat (ad : Nat → Nat) (v : Value) : (aw_cv ad v).category = v.category := by cases v <;> rfl
theorem aw_good : ∀ w ∈ aw_tbl, goodWord w = true := fun _ h => (List.mem_filter.mp h).2
theorem aw_in {w : Cond} (h1 : w ∈ lw_tbl) (h2 : goodWord w = true) : w ∈ aw_tbl := List.mem_filter.mpr ⟨h1, h2⟩
theorem aw_GI {ws : List Cond} (h : ∀ w ∈ ws, w ∈ aw_tbl) : GoodIn aw_tbl ws := fun w hw => ⟨h w hw, good_of_word (aw_good w (h w hw))⟩
theorem aw_GW {M : aw_MR} (h : Cond.code (aw_y M) (aw_c M) (aw_nL M) (aw_ret M) ∈ aw_tbl) : GoodIn aw_tbl (aw_ws M) := aw_GI (fun w hw => by
  rcases List.mem_cons.mp hw with rfl | hw
  · exact h
  · exact hw)
theorem aw_wl_get {G : aw_G} {h : aw_H} {i : Nat} (hi : i < h.2.2.2.2) : (aw_wl G h)[i]? = some (g_b G + i, aw_en G h (i + 3)) := by
  unfold aw_wl
  rw [List.getElem?_map, List.getElem?_range hi]
  rfl
theorem aw_wl_set {G : aw_G} {h h2 : aw_H} {i : Nat} (hN : h2.2.2.2.2 = h.2.2.2.2) (hk : ∀ k, k ≠ i + 3 → aw_en G h2 k = aw_en G h k) : (aw_wl G h).set i (g_b G + i, aw_en G h2 (i + 3)) = aw_wl G h2 := by
  apply List.ext_getElem?
  intro j
  rw [List.getElem?_set]
  unfold aw_wl
  rw [hN]
  by_cases hj : i = j
  · subst hj
    rw [if_pos rfl]
    by_cases hl : i < h.2.2.2.2
    · rw [if_pos (by simpa using hl), List.getElem?_map, List.getElem?_range hl]
      rfl
    · rw [if_neg (by simpa using hl), List.getElem?_map, List.getElem?_eq_none (by simpa using hl)]
      rfl
  · rw [if_neg hj, List.getElem?_map, List.getElem?_map]
    by_cases hl : j < h.2.2.2.2
    · rw [List.getElem?_range hl]
      show some (g_b G + j, _) = some (g_b G + j, _)
      rw [hk (j + 3) (by omega)]
    · rw [List.getElem?_eq_none (by simpa using hl)]
      rfl
theorem aw_wl_D {G : aw_G} {h : aw_H} : va_D (aw_A G) (aw_wl G h) := by
  have key : ∀ (i : Nat) (x : Nat × va_E), (aw_wl G h)[i]? = some x → x.1 = g_b G + i := by
    intro i x hx
    unfold aw_wl at hx
    rw [List.getElem?_map] at hx
    by_cases hl : i < h.2.2.2.2
    · rw [List.getElem?_range hl] at hx
      cases hx
      rfl
    · rw [List.getElem?_eq_none (by simpa using hl)] at hx
      cases hx
  refine ⟨fun i j x y hx hy hxy => ?_, fun k x hx => ?_⟩
  · have h1 := key i x hx
    have h2 := key j y hy
    omega
  · show g_b G ≤ x.1
    rw [key k x hx]
    omega
theorem aw_cls {c : Nat} (hc : c < 12) : vwCl[c]? = some (aw_nm c, aw_T c, aw_N c) := by
  match c, hc with
  | 0, _ => rfl
  | 1, _ => rfl
  | 2, _ => rfl
  | 3, _ => rfl
  | 4, _ => rfl
  | 5, _ => rfl
  | 6, _ => rfl
  | 7, _ => rfl
  | 8, _ => rfl
  | 9, _ => rfl
  | 10, _ => rfl
  | 11, _ => rfl
  | c + 12, h => omega
theorem aw_nmk {c : Nat} (hc : c < 12) : ∀ a, a < aw_N c → ∀ b, b < aw_N c → a ≠ b → (aw_T c a).2.1 ≠ (aw_T c b).2.1 := by
  match c, hc with
  | 0, _ => exact nmX0
  | 1, _ => exact nmX1
  | 2, _ => exact nmX2
  | 3, _ => exact nmX3
  | 4, _ => exact nmX4
  | 5, _ => exact nmX5
  | 6, _ => exact nmX6
  | 7, _ => exact nmX7
  | 8, _ => exact nmX8
  | 9, _ => exact nmX9
  | 10, _ => exact nmX10
  | 11, _ => exact nmX11
  | c + 12, h => omega
theorem aw_tyk {c : Nat} (hc : c < 12) : ∀ k, k < aw_N c → parseFieldDescriptor (aw_T c k).2.2.1 = some (aw_ty c k) := by
  match c, hc with
  | 0, _ => exact tyX0_ok
  | 1, _ => exact tyX1_ok
  | 2, _ => exact tyX2_ok
  | 3, _ => exact tyX3_ok
  | 4, _ => exact tyX4_ok
  | 5, _ => exact tyX5_ok
  | 6, _ => exact tyX6_ok
  | 7, _ => exact tyX7_ok
  | 8, _ => exact tyX8_ok
  | 9, _ => exact tyX9_ok
  | 10, _ => exact tyX10_ok
  | 11, _ => exact tyX11_ok
  | c + 12, h => omega
