theorem p_min_ge {f : Nat → Nat} {i h : Nat} (hh : h ≤ 1000) (ha : ∀ k, k < i → h ≤ f k) : h ≤ p_min f i := by
  induction i with
  | zero => exact hh
  | succ i ih =>
    rw [p_min]
    have h1 := ih (fun k hk => ha k (by omega))
    have h2 := ha i (by omega)
    split <;> omega
theorem p_min_at {f : Nat → Nat} {i k : Nat} (hk : k < i) : p_min f i ≤ f k := by
  induction i with
  | zero => omega
  | succ i ih =>
    rw [p_min]
    by_cases hki : k = i
    · subst hki; split <;> omega
    · have h1 := ih (by omega)
      split <;> omega
theorem zRel.start {s m t : Nat → Nat → Nat} (hT : zTok t) : zRel (p_begin s t) (m_l0 m t) t 0 := by
  have r : ∀ a, a ≠ 9 → m_l0 m t a = m_l2 (m_l1 m 8) t (t 6 0) a := fun a ha => by rw [m_l0, aw_u_ne ha, aw_u_ne ha]
  have z7 : ∀ k, k < t 6 0 → p_begin s t 7 k = 0 := fun k hk => (p_b2_lt hk).2.2.2.2.1
  refine ⟨fun k hk => ?_, fun p hp => ?_, ?_, ?_, ?_, ?_⟩
  · right
    have hk8 : k < 8 := by have := hT.1; omega
    obtain ⟨e1, e2, e3, e4, e5, e6, e7⟩ := p_b2_lt (s := p_b1 (aw_u (aw_u (aw_u s 0 0 (t 6 0)) 0 10 0) 0 11 0) 8) (t := t) hk
    obtain ⟨f2, f3, f4⟩ := m_l2_lt (m := m_l1 m 8) (t := t) hk
    obtain ⟨g0, g1, g5, g8⟩ := m_l1_lt (m := m) hk8
    unfold p_begin
    rw [r 4 (by decide), r 5 (by decide), r 1 (by decide), r 3 (by decide), r 2 (by decide), r 0 (by decide), f2, f3, f4, m_l2_row (a := 5) (by decide) (by decide) (by decide), m_l2_row (a := 1) (by decide) (by decide) (by decide), m_l2_row (a := 0) (by decide) (by decide) (by decide), g0, g1, g5, e1, e2, e3, e4, e5]
    exact ⟨rfl, rfl, by omega, rfl, rfl, rfl, rfl, rfl, by rw [if_neg (by omega)], Or.inr rfl⟩
  · rw [r 8 (by decide), m_l2_row (by decide) (by decide) (by decide), (m_l1_lt hp).2.2.2, p_begin, p_b2_row (by decide), p_b1_lt hp]
  · rw [p_begin, p_b2_0, p_b1_row (by decide), aw_u_nj (by decide), aw_u_eq, m_l0, aw_u_nj (by decide), aw_u_eq]
  · rw [p_begin, p_b2_0, p_b1_row (by decide), aw_u_eq, m_l0, aw_u_eq]
  · rw [m_l0, aw_u_nj (by decide), aw_u_eq]; exact Nat.le_refl _
  · intro _ p hp
    have : zEnd (p_begin s t) (t 6 0) p = zc (fun _ => false) (t 6 0) := zc_congr (fun j hj => by simp [z7 j hj])
    rw [this]
    have z0 : ∀ n, zc (fun _ => false) n = 0 := fun n => by
      induction n with
      | zero => rfl
      | succ n ih => rw [zc, ih]; rfl
    rw [z0]; omega
/-- both runs hour by hour: what holds at the start, and through an hour of both, or an idle hour of the reference, holds at the end -/
theorem zSim {s m t u x y : Nat → Nat → Nat} (hT : zTok t) (hX : zXY x y) (hXo : zXok x) (hYo : zYok y) (hO : zOld s 8) (hB : ∀ p, 8 ≤ p → m 8 p ≤ 100) (Pr : (Nat → Nat → Nat) → (Nat → Nat → Nat) → Nat → Prop) (h0 : Pr (p_begin s t) (m_l0 m t) 0)
    (hh : ∀ a b h, h < 40 → zRel a b t h → zWf a t 5000 → zMw b t h 5000 → (∃ k, k < t 6 0 ∧ a 1 k = h) → Pr a b h → Pr (p_hour a t u x h) (m_hour b t u y h) (h + 1))
    (hi : ∀ a b h, h < 40 → zRel a b t h → zWf a t 5000 → zMw b t h 5000 → (∀ k, k < t 6 0 → a 1 k ≠ h) → Pr a b h → Pr a (m_hour b t u y h) (h + 1)) :
    zRel (p_play s t u x) (m_lives m t u y) t 40 ∧ Pr (p_play s t u x) (m_lives m t u y) 40 := by
  have hz : zWf (p_begin s t) t 8 := zWf.begin hT hO
  have hm : zMw (m_l0 m t) t 0 100 := zMw.l0 hT hB
  have key : ∀ h, h ≤ 40 → ∃ i, i ≤ h ∧ zRel (p_ev (p_begin s t) t u x i) (m_ev (m_l0 m t) t u y h) t h ∧ Pr (p_ev (p_begin s t) t u x i) (m_ev (m_l0 m t) t u y h) h := by
    intro h
    induction h with
    | zero => intro _; exact ⟨0, Nat.le_refl _, zRel.start hT, h0⟩
    | succ h ih =>
      intro h40
      obtain ⟨i, hi1, hR, hP⟩ := ih (by omega)
      have w1 := hz.ev (u := u) hXo hT (i := i)
      have hW : zWf (p_ev (p_begin s t) t u x i) t 5000 := ⟨w1.1, w1.2.1, w1.2.2.1, w1.2.2.2.1, fun p => Nat.le_trans (w1.2.2.2.2 p) (by omega)⟩
      have w2 := hm.ev (u := u) hT hYo (h := h) (by omega)
      have hM : zMw (m_ev (m_l0 m t) t u y h) t h 5000 := ⟨w2.1, fun p => Nat.le_trans (w2.2.1 p) (by omega), w2.2.2⟩
      by_cases he : ∃ k, k < t 6 0 ∧ p_ev (p_begin s t) t u x i 1 k = h
      · refine ⟨i + 1, by omega, ?_⟩
        obtain ⟨k, hk, hk1⟩ := he
        have hmin : p_min (p_ev (p_begin s t) t u x i 1) (p_begin s t 0 0) = h := by
          rw [hz.1]
          have a1 := p_min_at (f := p_ev (p_begin s t) t u x i 1) hk
          have a2 : h ≤ p_min (p_ev (p_begin s t) t u x i 1) (t 6 0) := p_min_ge (by omega) (fun j hj => by
            rcases hR.1 j hj with ⟨b1, b2, -⟩ | ⟨b1, b2, b3, -⟩ <;> omega)
          omega
        rw [p_ev, hmin, if_pos (by omega), m_ev]
        exact ⟨hR.hour hT hX hW hM (by omega), hh _ _ h (by omega) hR hW hM ⟨k, hk, hk1⟩ hP⟩
      · refine ⟨i, by omega, ?_⟩
        have hno : ∀ k, k < t 6 0 → p_ev (p_begin s t) t u x i 1 k ≠ h := fun k hk e => he ⟨k, hk, e⟩
        rw [m_ev]
        exact ⟨hR.idle hT hW.1 hno (by omega), hi _ _ h (by omega) hR hW hM hno hP⟩
  obtain ⟨i, hi1, hR, hP⟩ := key 40 (Nat.le_refl _)
  have hmin : ¬ p_min (p_ev (p_begin s t) t u x i 1) (p_begin s t 0 0) < 40 := by
    rw [hz.1]
    have a2 : 40 ≤ p_min (p_ev (p_begin s t) t u x i 1) (t 6 0) := p_min_ge (by omega) (fun j hj => by
      rcases hR.1 j hj with ⟨b1, b2, -⟩ | ⟨b1, b2, b3, -⟩ <;> omega)
    omega
  have e := p_ev_stop hmin (40 - i)
  rw [show i + (40 - i) = 40 by omega] at e
  rw [p_play, e, m_lives]
  exact ⟨hR, hP⟩
