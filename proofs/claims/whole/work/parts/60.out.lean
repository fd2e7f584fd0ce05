/-! WHAT A RUN TELLS, by its setting alone -/
def z0 : Nat → Nat → Nat := fun _ _ => 0
def zOk (s : Nat → Nat → Nat) : Prop := zOld s 8 ∧ ∀ i, s 14 i ≤ 8
def zMo (m : Nat → Nat → Nat) : Prop := (∀ p, 8 ≤ p → m 8 p ≤ 100) ∧ ∀ j, 8 ≤ j → m 0 j ≤ 5
theorem z0_old : zOld z0 8 := ⟨fun c _ => ⟨by show 0 < 5000; omega, by show 0 < 1000; omega, by show 0 < 8; omega, Nat.zero_le _⟩, fun _ _ => Nat.zero_le _⟩
theorem z0_ok : zOk z0 := ⟨z0_old, fun _ => Nat.zero_le _⟩
theorem z0_mo : zMo z0 := ⟨fun _ _ => Nat.zero_le _, fun _ _ => Nat.zero_le _⟩
theorem p_note_14 {s : Nat → Nat → Nat} {c h p l w : Nat} (h0 : ∀ i, s 14 i ≤ 8) (hw : w ≤ 8) : ∀ i, p_note s c h p l w 14 i ≤ 8 := by
  intro i
  unfold p_note
  split
  · exact h0 i
  · rw [aw_u_ne (by decide)]
    by_cases hi : i = c * 8 + s 10 c
    · subst hi; rw [aw_u_eq]; exact hw
    · rw [aw_u_nj hi, aw_u_ne (by decide), aw_u_ne (by decide), aw_u_ne (by decide)]; exact h0 i
theorem p_settle_14 {s t u x : Nat → Nat → Nat} {c h : Nat} (h0 : ∀ i, s 14 i ≤ 8) (hx : x 2 (s 5 c * 8 + t 1 c) ≤ 8) : ∀ i, p_settle s t u x c h 14 i ≤ 8 := by
  intro i
  unfold p_settle p_fin
  repeat' split
  all_goals (refine p_note_14 (fun i => ?_) (by omega) i; simp only [aw_u_ne (show 14 ≠ 1 by decide), aw_u_ne (show 14 ≠ 7 by decide), aw_u_ne (show 14 ≠ 6 by decide), aw_u_ne (show 14 ≠ 4 by decide), aw_u_ne (show 14 ≠ 8 by decide), aw_u_ne (show 14 ≠ 2 by decide), aw_u_ne (show 14 ≠ 5 by decide)]; exact h0 i)
theorem p_sw_14 {s t u x : Nat → Nat → Nat} {h i B : Nat} (hW : zWf s t B) (hX : zXok x) (hT : zTok t) (hh : h < 900) (hi : i ≤ t 6 0) (h0 : ∀ i, s 14 i ≤ 8) : ∀ j, p_sw s t u x h i 14 j ≤ 8 := by
  induction i with
  | zero => exact h0
  | succ i ih =>
    have hw := hW.sw (u := u) hX hT hh (i := i) (by omega)
    have h8 : i < 8 := by have := hT.1; omega
    intro j
    rw [p_sw]
    split
    · refine p_settle_14 (ih (by omega)) ?_ j
      have h1 := (hw.2.2.2.1 i h8).2.2.1
      have h2 := (hT.2.2 i h8).2.1
      exact (hX _ (by omega)).2
    · exact ih (by omega) j
theorem p_b2_14 {s t : Nat → Nat → Nat} {i : Nat} : p_b2 s t i 14 = s 14 := by
  induction i with
  | zero => rfl
  | succ i ih => rw [p_b2, aw_u_ne (by decide), aw_u_ne (by decide), aw_u_ne (by decide), aw_u_ne (by decide), aw_u_ne (by decide), aw_u_ne (by decide), aw_u_ne (by decide), ih]
theorem zc_none {f : Nat → Bool} {i : Nat} (h : ∀ j, j < i → f j = false) : zc f i = 0 := by
  induction i with
  | zero => rfl
  | succ i ih => rw [zc, ih (fun j hj => h j (by omega)), h i (by omega)]; rfl
theorem p_play_ok {s m t u x y : Nat → Nat → Nat} (hT : zTok t) (hX : zXY x y) (hXo : zXok x) (hYo : zYok y) (hO : zOk s) : zOk (p_play s t u x) := by
  have h := (zSim (u := u) (m := z0) hT hX hXo hYo hO.1 z0_mo.1 (fun a _ _ => (∀ p, 8 ≤ p → a 4 p ≤ 8) ∧ ∀ i, a 14 i ≤ 8) ?_ ?_ ?_).2
  · have hw := (zWf.begin hT hO.1).ev (u := u) hXo hT (i := 40)
    exact ⟨⟨hw.2.2.2.1, h.1⟩, h.2⟩
  · refine ⟨fun p hp => ?_, fun i => ?_⟩
    · rw [p_begin, p_b2_row (by decide), p_b1_ge hp]
      simp only [aw_u_ne (show 4 ≠ 0 by decide)]
      exact hO.1.2 p hp
    · rw [p_begin, p_b2_14, p_b1_row (by decide)]
      simp only [aw_u_ne (show 14 ≠ 0 by decide)]
      exact hO.2 i
  · intro a b h hh hR hW hM he hP
    refine ⟨fun p hp => ?_, ?_⟩
    · rw [p_hour, p_sw_4, p_gather_row (by decide) (by decide), zc_none]
      · exact hP.1 p hp
      · intro j hj
        have h8 : j < 8 := by have := hT.1; have := hW.1; omega
        rw [p_gather_row (by decide) (by decide), Bool.and_eq_false_iff]
        right
        rw [p_gather_row (by decide) (by decide)]
        have := (hW.2.2.2.1 j h8).2.2.1
        exact decide_eq_false (by omega)
    · rw [p_hour]
      exact p_sw_14 (hW.gather (by omega)) hXo hT (by omega) (by rw [hW.1]; exact Nat.le_refl _) (fun i => by rw [p_gather_row (by decide) (by decide)]; exact hP.2 i)
  · intro a b h hh hR hW hM he hP
    exact hP
theorem m_lives_ok {s m t u x y : Nat → Nat → Nat} (hT : zTok t) (hX : zXY x y) (hXo : zXok x) (hYo : zYok y) (hm : zMo m) : zMo (m_lives m t u y) := by
  have h := (zSim (u := u) (s := z0) hT hX hXo hYo z0_old hm.1 (fun _ b _ => ∀ p, 8 ≤ p → b 8 p ≤ 100) ?_ ?_ ?_).2
  · refine ⟨h, fun j _ => ?_⟩
    rw [m_lives]
    refine m_ev_0 (fun j => ?_) j
    rw [m_l0, aw_u_ne (by decide), aw_u_ne (by decide), m_l2_row (by decide) (by decide) (by decide)]
    by_cases hj : j < 8
    · rw [(m_l1_lt hj).1]; omega
    · rw [m_l1_ge (by omega)]; exact hm.2 j (by omega)
  · intro p hp
    rw [m_l0, aw_u_ne (by decide), aw_u_ne (by decide), m_l2_row (by decide) (by decide) (by decide), m_l1_ge hp]
    exact hm.1 p hp
  · intro a b h hh hR hW hM he hP p hp
    rw [m_hour, m_kp_row (by decide), m_sw_row (by decide), m_gathers, m_g3_row (by decide), m_g2_8c, m_g1_row (by decide), m_g1_row (by decide), m_g1_row (by decide), zc_none]
    · exact hP p hp
    · intro j hj
      have := (hM.1 j hj).2.1
      rw [Bool.and_eq_false_iff]; right
      exact decide_eq_false (by omega)
    · intro j hj e
      rw [m_g1_row (by decide)] at e ⊢
      exact (hM.1 j hj).2.2.1 (by omega)
  · intro a b h hh hR hW hM he hP p hp
    rw [m_hour, m_kp_row (by decide), m_sw_row (by decide), m_gathers, m_g3_row (by decide), m_g2_8c, m_g1_row (by decide), m_g1_row (by decide), m_g1_row (by decide), zc_none]
    · exact hP p hp
    · intro j hj
      have := (hM.1 j hj).2.1
      rw [Bool.and_eq_false_iff]; right
      exact decide_eq_false (by omega)
    · intro j hj e
      rw [m_g1_row (by decide)] at e ⊢
      exact (hM.1 j hj).2.2.1 (by omega)
/-- both runs tell the same of a carter: state, end, what is behind an hour -/
theorem zOut {s m t u x y : Nat → Nat → Nat} (hT : zTok t) (hX : zXY x y) (hXo : zXok x) (hYo : zYok y) (hO : zOld s 8) (hB : ∀ p, 8 ≤ p → m 8 p ≤ 100) (h40 : ∀ k, k < t 6 0 → t 5 k < 40) :
    (∀ k, k < t 6 0 → m_lives m t u y 0 k = p_play s t u x 6 k ∧ m_lives m t u y 5 k = p_play s t u x 7 k ∧ (∀ g j, g < 40 → j < 4 → m_lives m t u y 6 (32 * g + 4 * k + j) = zOb (p_play s t u x) t k g j) ∧
      ∀ g, g < 40 → m_lives m t u y 6 (32 * g + 4 * k + 1) = if p_play s t u x 7 k ≠ 0 ∧ p_play s t u x 7 k ≤ g + 1 then p_play s t u x 5 k + 1 else 0) ∧
    (∀ p, p < 8 → p_play s t u x 4 p = m_lives m t u y 8 p) ∧ p_play s t u x 0 10 = m_lives m t u y 9 0 ∧ p_play s t u x 0 11 = m_lives m t u y 9 1 := by
  obtain ⟨hR, hD⟩ := zRuns (u := u) hT hX hXo hYo hO hB
  have hS := (zSim (u := u) hT hX hXo hYo hO hB (fun a b h => ∀ k, k < t 6 0 → ∀ g, g < h → b 6 (32 * g + 4 * k + 1) = if a 7 k ≠ 0 ∧ a 7 k ≤ g + 1 then a 5 k + 1 else 0) (fun k hk g hg => by omega) ?_ ?_).2
  · refine ⟨fun k hk => ⟨?_, ?_, fun g j hg hj => (hD k hk).2 g j hg hj, fun g hg => hS k hk g hg⟩, hR.2.1, hR.2.2.1, hR.2.2.2.1⟩
    · rcases hR.1 k hk with ⟨-, -, -, -, e, -⟩ | ⟨-, -, -, -, -, -, -, e1, e2, -⟩
      · exact e
      · rw [e2, e1, if_pos (h40 k hk)]
    · rcases hR.1 k hk with ⟨-, -, e, -⟩ | ⟨e1, -, -, e2, -⟩
      · exact e
      · rw [e1, e2]
  · intro a b h hh hR hW hM he hP k hk g hg
    have hk8 : k < 8 := by have := hT.1; omega
    have hR2 := (hR.hour (u := u) hT hX hW hM (by omega)).1 k hk
    by_cases hgh : g = h
    · subst hgh
      rw [m_hour_now hk (by decide)]
      show m_hour b t u y g 1 k = _
      rcases hR2 with ⟨e1, -, -, e4, -, -, -, -, e9⟩ | ⟨e1, -, -, -, e5, -⟩
      · rw [if_pos ⟨e1, e9⟩, e4]
      · rw [if_neg (fun z => z.1 e1), e5]
    · rw [m_hour_old (by omega), hP k hk g (by omega), p_hour, p_sw_col (a := 7) (by decide), p_sw_col (a := 5) (by decide), p_gather_row (by decide) (by decide), p_gather_row (a := 7) (by decide) (by decide), p_gather_row (a := 5) (by decide) (by decide)]
      by_cases h1 : k < a 0 0 ∧ a 1 k = h
      · rw [if_pos h1, if_pos h1]
        have h7 : a 7 k = 0 := by
          rcases hR.1 k hk with ⟨-, e2, -⟩ | ⟨e1, -⟩
          · omega
          · exact e1
        have hg7 : p_gather a h 7 k = 0 := by rw [p_gather_row (by decide) (by decide)]; exact h7
        rw [if_neg (by omega)]
        rcases p_settle_c (s := p_gather a h) (t := t) (u := u) (x := x) (c := k) (h := h) with ⟨-, e2, -⟩ | ⟨-, -, e2, -⟩
        · rw [e2, if_neg (by omega)]
        · rw [e2, hg7, if_neg (by omega)]
      · rw [if_neg h1, if_neg h1]
  · intro a b h hh hR hW hM he hP k hk g hg
    have hR2 := (hR.idle (u := u) (y := y) hT hW.1 he (by omega)).1 k hk
    have hk8 : k < 8 := by have := hT.1; omega
    by_cases hgh : g = h
    · subst hgh
      rw [m_hour_now hk (by decide)]
      show m_hour b t u y g 1 k = _
      rcases hR2 with ⟨e1, -, -, e4, -, -, -, -, e9⟩ | ⟨e1, -, -, -, e5, -⟩
      · rw [if_pos ⟨e1, e9⟩, e4]
      · rw [if_neg (fun z => z.1 e1), e5]
    · rw [m_hour_old (by omega), hP k hk g (by omega)]
/-- the bounds of a run's numbers -/
theorem zBd {s m t u x y : Nat → Nat → Nat} (hT : zTok t) (hX : zXY x y) (hXo : zXok x) (hYo : zYok y) (hO : zOld s 8) : zWf (p_play s t u x) t 400 ∧ (∀ k, k < t 6 0 → p_play s t u x 6 k ≤ 5 ∧ ∀ i, i < p_play s t u x 10 k → p_play s t u x 11 (k * 8 + i) < 40) := by
  have hw := (zWf.begin hT hO).ev (u := u) hXo hT (i := 40)
  obtain ⟨hR, hD⟩ := zRuns (u := u) (m := z0) hT hX hXo hYo hO z0_mo.1
  refine ⟨⟨hw.1, hw.2.1, hw.2.2.1, hw.2.2.2.1, fun p => Nat.le_trans (hw.2.2.2.2 p) (by omega)⟩, fun k hk => ⟨?_, fun i hi => ((hD k hk).1.2.2.1 i hi).1⟩⟩
  have h0 : ∀ j, m_lives z0 t u y 0 j ≤ 5 := fun j => by
    rw [m_lives]
    refine m_ev_0 (fun j => ?_) j
    rw [m_l0, aw_u_ne (by decide), aw_u_ne (by decide), m_l2_row (by decide) (by decide) (by decide)]
    by_cases hj : j < 8
    · rw [(m_l1_lt hj).1]; omega
    · rw [m_l1_ge (by omega)]; exact Nat.zero_le _
  rcases hR.1 k hk with ⟨-, -, -, -, e, -⟩ | ⟨-, -, -, -, -, -, -, e1, -⟩
  · rw [← e]; exact h0 k
  · rw [e1]; decide
/-- the run of a setting depends on the carters that there are alone -/
theorem p_settle_teq {s t t2 u x : Nat → Nat → Nat} {c h : Nat} (h1 : t2 6 1 = t 6 1) (hj : ∀ j, j < 6 → t2 j c = t j c) : p_settle s t2 u x c h = p_settle s t u x c h := by
  have ht : ∀ p, p_told s t2 u c h p = p_told s t u c h p := fun p => by
    have : p_tells t2 u h p = p_tells t u h p := by
      unfold p_tells
      congr 1
      funext a
      unfold p_hit
      rw [h1]
    unfold p_told
    rw [this, hj 2 (by decide)]
  unfold p_settle
  rw [ht, hj 1 (by decide), hj 3 (by decide), hj 4 (by decide)]
theorem p_sw_teq {s t t2 u x : Nat → Nat → Nat} {h i : Nat} (h1 : t2 6 1 = t 6 1) (hj : ∀ c, c < i → ∀ j, j < 6 → t2 j c = t j c) : p_sw s t2 u x h i = p_sw s t u x h i := by
  induction i with
  | zero => rfl
  | succ i ih => rw [p_sw, p_sw, ih (fun c hc => hj c (by omega)), p_settle_teq h1 (hj i (by omega))]
theorem p_b2_teq {s t t2 : Nat → Nat → Nat} {i : Nat} (hj : ∀ c, c < i → ∀ j, j < 6 → t2 j c = t j c) : p_b2 s t2 i = p_b2 s t i := by
  induction i with
  | zero => rfl
  | succ i ih => rw [p_b2, p_b2, ih (fun c hc => hj c (by omega)), hj i (by omega) 5 (by decide), hj i (by omega) 0 (by decide), hj i (by omega) 3 (by decide)]
theorem p_ev_00 {s t u x : Nat → Nat → Nat} {i : Nat} : p_ev s t u x i 0 0 = s 0 0 := by
  induction i with
  | zero => rfl
  | succ i ih =>
    rw [p_ev]
    split
    · rw [p_hour, p_sw_0, p_gather, p_g3_00, p_g2_row (by decide), p_g1_row (by decide)]; exact ih
    · exact ih
theorem p_play_teq {s t t2 u x : Nat → Nat → Nat} (h : zTeq t t2) : p_play s t2 u x = p_play s t u x := by
  obtain ⟨h0, h1, hj⟩ := h
  have hb : p_begin s t2 = p_begin s t := by
    unfold p_begin
    rw [h0]
    exact p_b2_teq (fun c hc j hj2 => hj j c hj2 hc)
  have hb0 : p_begin s t 0 0 = t 6 0 := by
    rw [p_begin, p_b2_0, p_b1_row (by decide), aw_u_nj (by decide), aw_u_nj (by decide), aw_u_eq]
  have key : ∀ i, p_ev (p_begin s t) t2 u x i = p_ev (p_begin s t) t u x i := by
    intro i
    induction i with
    | zero => rfl
    | succ i ih =>
      rw [p_ev, p_ev, ih]
      split
      · rw [p_hour, p_hour]
        exact p_sw_teq h1 (fun c hc j hj2 => hj j c hj2 (by rw [p_ev_00, hb0] at hc; exact hc))
      · rfl
  unfold p_play
  rw [hb, key]
theorem zTeq.u {t t2 : Nat → Nat → Nat} {i j v : Nat} (h : zTeq t t2) (hi : i < 6) : zTeq (aw_u t i j v) (aw_u t2 i j v) := by
  refine ⟨by rw [aw_u_ne (show 6 ≠ i by omega), aw_u_ne (show 6 ≠ i by omega)]; exact h.1, by rw [aw_u_ne (show 6 ≠ i by omega), aw_u_ne (show 6 ≠ i by omega)]; exact h.2.1, fun a k ha hk => ?_⟩
  rw [aw_u_ne (show 6 ≠ i by omega)] at hk
  by_cases hai : a = i
  · subst hai
    by_cases hkj : k = j
    · subst hkj; rw [aw_u_eq, aw_u_eq]
    · rw [aw_u_nj hkj, aw_u_nj hkj]; exact h.2.2 a k ha hk
  · rw [aw_u_ne hai, aw_u_ne hai]; exact h.2.2 a k ha hk
theorem zTeq.w {t t2 : Nat → Nat → Nat} {v : Nat} (h : zTeq t t2) : zTeq (aw_u t 6 1 v) (aw_u t2 6 1 v) := by
  refine ⟨by rw [aw_u_nj (by decide), aw_u_nj (by decide)]; exact h.1, by rw [aw_u_eq, aw_u_eq], fun a k ha hk => ?_⟩
  rw [aw_u_nj (by decide)] at hk
  rw [aw_u_ne (show a ≠ 6 by omega), aw_u_ne (show a ≠ 6 by omega)]; exact h.2.2 a k ha hk
theorem zTeq.rfl (t : Nat → Nat → Nat) : zTeq t t := ⟨Eq.refl _, Eq.refl _, fun _ _ _ _ => Eq.refl _⟩
theorem zTeq.swap {t t2 : Nat → Nat → Nat} {a b : Nat} (h : zTeq t t2) (ha : a < t 6 0) (hb : b < t 6 0) : zTeq (t_swap t a b) (t_swap t2 a b) := by
  unfold t_swap
  rw [h.2.2 2 a (by decide) ha, h.2.2 2 b (by decide) hb, h.2.2 3 a (by decide) ha, h.2.2 3 b (by decide) hb]
  exact (((h.u (by decide)).u (by decide)).u (by decide)).u (by decide)
