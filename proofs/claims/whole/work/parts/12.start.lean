/-- the law as a method of the light layer -/
abbrev mL_law : aw_MR := (yL_law, cL_law, 4, some .boolean, 12, 12, 478, 600000, 7302250, false)
def aw_way : Nat → Int32 := fun j => match j with
  | 0 => 0 | 1 => 1 | 2 => 2 | 3 => 4 | _ => 6
def aw_car : Nat → Int32 := fun j => match j with
  | 0 => 0 | 1 => 0 | 2 => 5 | 3 => 3 | 4 => 3 | 5 => 3 | _ => 6
/-- the heap with which the law begins: the script, the two static rows, no object -/
def aw_S0 (L : Nat) : Nat → Nat × Nat := fun o => match o with
  | 0 => (0, L) | 1 => (0, 5) | 2 => (0, 7) | _ => (0, 0)
def aw_I0 (xs : Nat → Int32) : Nat → Nat → Int32 := fun o => match o with
  | 0 => xs | 1 => aw_way | 2 => aw_car | _ => fun _ => 0
def aw_rn0 (L : Nat) : Nat → Nat := fun o => (aw_S0 L o).2
set_option maxHeartbeats 4000000 in
theorem aw_start {p : Program} {e : Env} {s : State} {m : MethodId} {below : List Frame} {meth : Method} {c : Code} (l : Launch) {b L : Nat} {xs : Nat → Int32} (hL : L ≤ 3072) (C0 : lw_At p s m meth c b L xs)
    (k : ∀ G : aw_G, aw_W G mL_law 0 [.ref 0, aw_x, aw_x, aw_x] [] (aw_S0 L, aw_I0 xs, fun _ _ => 0, fun _ _ => none, 0) (0, 0) (fun v _ => v = some (.int 1))) :
    W p l e room_1 s m #[Value.ref b] below meth c s.heap [] 0 0 (lw_Z below #[Value.ref b] s) (entryFrame m ([Value.ref b] : List Value).toArray 4) := by
  obtain ⟨hx, hb, hr, hml, hown, hts0, hX, hbl, hlocks, hgv⟩ := id C0
  have hts : ∀ w ∈ aw_tbl, w.before #[Value.ref b] s = true := fun w hw => hts0 w (List.mem_filter.mp hw).1
  have hfl := flat_of_before _ hgv
  have hA : ∀ a : Nat, a < s.heap.size → ¬ (fun z : Nat => s.heap.size ≤ z) a := fun a ha => Nat.not_le.mpr ha
  have hKn : ∀ k : Nat, ∃ x : ClassId × (Nat → Nat), k < 12 → u_Kn s (aw_nm k) (aw_T k) (aw_N k) x.1 x.2 := by
    intro k
    by_cases hk : k < 12
    · obtain ⟨cC, iS, h⟩ := u_known (C := aw_nm k) (T := aw_T k) (N := aw_N k) (n := aw_N k) hts (aw_uws hk) (hts _ (aw_inst hk))
      exact ⟨(cC, iS), fun _ => h⟩
    · exact ⟨(0, fun _ => 0), fun h => absurd h hk⟩
  obtain ⟨cI, kI, compI, i1, i2, i3⟩ := Cond.arrayClass_spec (hts _ aw_arrI)
  obtain ⟨cJ, kJ, compJ, j1, j2, j3⟩ := Cond.arrayClass_spec (hts _ aw_arrL)
  have hAO : (Cond.arrayOver (.object RX8)).before #[Value.ref b] s = true := hts0 _ (by decide +kernel)
  obtain ⟨compR, cR, kR, r1, -, r2, r3, r4⟩ := Cond.arrayOver_spec hAO
  obtain ⟨t1, v1, T1⟩ := va_Tof (tm := .static RX9 "WAY" "[I") (ty := .int) (N := 5) (f := fun j => .int (aw_way j)) (A := fun z : Nat => s.heap.size ≤ z) (by decide) (hfl _ (by decide +kernel)) (va_eqt (hfl _ (by decide +kernel))) (fun j hj => by
    match j, hj with
    | 0, _ => exact va_eqt (hfl _ (by decide +kernel))
    | 1, _ => exact va_eqt (hfl _ (by decide +kernel))
    | 2, _ => exact va_eqt (hfl _ (by decide +kernel))
    | 3, _ => exact va_eqt (hfl _ (by decide +kernel))
    | 4, _ => exact va_eqt (hfl _ (by decide +kernel))
    | j + 5, h => omega) hA
  obtain ⟨t2, v2, T2⟩ := va_Tof (tm := .static RX9 "CARTER" "[I") (ty := .int) (N := 7) (f := fun j => .int (aw_car j)) (A := fun z : Nat => s.heap.size ≤ z) (by decide) (hfl _ (by decide +kernel)) (va_eqt (hfl _ (by decide +kernel))) (fun j hj => by
    match j, hj with
    | 0, _ => exact va_eqt (hfl _ (by decide +kernel))
    | 1, _ => exact va_eqt (hfl _ (by decide +kernel))
    | 2, _ => exact va_eqt (hfl _ (by decide +kernel))
    | 3, _ => exact va_eqt (hfl _ (by decide +kernel))
    | 4, _ => exact va_eqt (hfl _ (by decide +kernel))
    | 5, _ => exact va_eqt (hfl _ (by decide +kernel))
    | 6, _ => exact va_eqt (hfl _ (by decide +kernel))
    | j + 7, h => omega) hA
  have Z1 := va_Zof (A := fun z : Nat => s.heap.size ≤ z) (hts0 (.laysStatic RX9 "WAY" "[I") (by decide +kernel)) (hts _ (aw_init (c := 9) (by decide))) v1 hA
  have Z2 := va_Zof (A := fun z : Nat => s.heap.size ≤ z) (hts0 (.laysStatic RX9 "CARTER" "[I") (by decide +kernel)) (hts _ (aw_init (c := 9) (by decide))) v2 hA
  let ad : Nat → Nat := fun i => match i with
    | 0 => b | 1 => t1 | 2 => t2 | i + 3 => s.heap.size + i
  let G : aw_G := (l, (fun k => (Classical.choose (hKn k)).1, fun k => (Classical.choose (hKn k)).2), (cI, cJ, cR), ad, s.heap.size, aw_rn0 L, aw_I0 xs)
  have hFx : aw_Fx G s := by
    refine ⟨⟨fun k q hq => ?_, fun k q hq => ?_⟩, fun w hw => va_Nw.of (aw_nst_on hw) (hts0 w (List.mem_filter.mp hw).1), va_AO.of hAO, fun o ho => ?_, Z1, Z2, fun i => rfl, Nat.le_refl _⟩
    · have hk : k < 12 := (List.getElem?_eq_some_iff.mp hq).1
      have hq2 : q = (aw_nm k, aw_T k, aw_N k) := Option.some.inj (hq.symm.trans (aw_cls hk))
      subst hq2
      exact Classical.choose_spec (hKn k) hk
    · match k, hq with
      | 0, hq => cases hq; exact ⟨fun n z => ⟨fun k h => (by cases h), kI, i2, compI, i3⟩, i1⟩
      | 1, hq => cases hq; exact ⟨fun n z => ⟨fun k h => (by cases h), kJ, j2, compJ, j3⟩, j1⟩
      | 2, hq => cases hq; exact ⟨fun n z => ⟨fun k h => (by cases h), kR, r2, compR, r3⟩, kR, compR, r2, r3, r1, r4⟩
      | k + 3, hq => cases hq
    · match o, ho with
      | 0, _ =>
        obtain ⟨scr, s1, s2, s3, s4, s5⟩ := hX
        exact ⟨scr, s1, s2, s3, Nat.le_of_eq s4.symm, by rw [s4]; rfl, s5, hA b hbl⟩
      | 1, _ => exact T1
      | 2, _ => exact T2
      | o + 3, h => omega
  have hRep : aw_Rep G (aw_S0 L, aw_I0 xs, fun _ _ => 0, fun _ _ => none, 0) s.heap := by
    refine ⟨rfl, fun k q hq => by simp [aw_wl] at hq, fun o ho => ?_⟩
    match o, ho with
    | 0, _ => exact ⟨rfl, rfl⟩
    | 1, _ => exact ⟨rfl, rfl⟩
    | 2, _ => exact ⟨rfl, rfl⟩
    | o + 3, h => omega
  rw [lg_entry_eq]
  refine k G p e s m #[Value.ref b] below meth c (lw_Z below #[Value.ref b] s) ⟨hx, hb, hml, hown, hts, (fun h => by cases h), hFx⟩ ?_ s.heap [] _ (aw_ent_L (g_ad G) [.ref 0] 4 (by decide)) hRep va_S.rf
  intro pc2 ls2 v h2 H2 locs2 q2 hQ hR2 hS2 hq2 hrt
  subst hQ
  refine va_forget (fun z hz => hS2.2.2 z hz) ?_
  refine W.widen (k := 600000) (n := 7302250) hq2.1 hq2.2 ?_
  rcases hrt with ⟨h, -, -⟩ | ⟨x, ty, h, hd, -, -⟩ | ⟨x, h, -, -⟩ | ⟨a, n, h, -, -⟩
  · cases h
  · cases h; exact lw_ret hx hb hr hlocks hd
  · cases h
  · cases h
