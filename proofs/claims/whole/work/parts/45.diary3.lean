theorem m_hour_old {m t u y : Nat → Nat → Nat} {h j : Nat} (hj : j < 32 * h) : m_hour m t u y h 6 j = m 6 j := by
  rw [m_hour, m_kp_old hj, m_sw_row (by decide), m_gathers, m_g3_row (by decide), m_g2_row (by decide) (by decide) (by decide), m_g1_row (by decide)]
theorem m_hour_now {m t u y : Nat → Nat → Nat} {h k j : Nat} (hk : k < t 6 0) (hj : j < 4) : m_hour m t u y h 6 (32 * h + 4 * k + j) = m_ob (m_hour m t u y h) k j := by
  have e : ∀ a, a ≠ 6 → m_hour m t u y h a = m_sw (m_gathers m h (t 6 0)) t u y h (t 6 0) a := fun a ha => by rw [m_hour, m_kp_row ha]
  unfold m_ob
  rw [e 0 (by decide), e 1 (by decide), e 2 (by decide), e 3 (by decide), m_hour, m_kp_at hk hj]
  rfl
theorem zDk.idle {s b t y : Nat → Nat → Nat} {h k : Nat} (hD : zDk s t y h k) (hR : zRk s b t h k) (hno : s 1 k ≠ h) : zDk s t y (h + 1) k := by
  obtain ⟨d1, d2, d3, d4, d5⟩ := hD
  refine ⟨fun z => ?_, fun z => ?_, fun i hi => ?_, d4, d5⟩
  · obtain ⟨e1, e2, e3⟩ := d1 z
    rcases hR with ⟨a1, -⟩ | ⟨b1, b2, b3, b4, b5, b6, b7, b8, b9, b10⟩
    · exact absurd e1 a1
    · exact ⟨e1, by omega, e3⟩
  · obtain ⟨e0, e1⟩ := d2 z
    exact ⟨by omega, e1⟩
  · have := (d3 i hi).1
    exact ⟨by omega, (d3 i hi).2⟩
/-- both runs: carters, arrivals, meeting, and the diary against what is kept -/
theorem zRuns {s m t u x y : Nat → Nat → Nat} (hT : zTok t) (hX : zXY x y) (hXo : zXok x) (hYo : zYok y) (hO : zOld s 8) (hB : ∀ p, 8 ≤ p → m 8 p ≤ 100) :
    zRel (p_play s t u x) (m_lives m t u y) t 40 ∧ zDi t y (p_play s t u x) (m_lives m t u y) 40 := by
  refine zSim hT hX hXo hYo hO hB (zDi t y) ?_ ?_ ?_
  · intro k hk
    have hk8 : k < 8 := by have := hT.1; omega
    obtain ⟨e1, e2, e3, e4, e5, e6, e7⟩ := p_b2_lt (s := p_b1 (aw_u (aw_u (aw_u s 0 0 (t 6 0)) 0 10 0) 0 11 0) 8) (t := t) hk
    have e7 : p_begin s t 10 k = 0 := e7
    refine ⟨⟨fun _ => ⟨e5, Nat.zero_le _, e3⟩, fun z => absurd e7 z, fun i hi => by rw [e7] at hi; omega, fun _ => ?_, by rw [e7]; omega⟩, fun g j hg => by omega⟩
    have e2 : p_begin s t 5 k = t 0 k := e2
    rw [e7, e2]
    have := zrk_le (y := y) (g := t 1 k) (hT.2.2 k hk8).1
    omega
  · intro a b h hh hR hW hM _ hP k hk
    have hD := (hP k hk).1.hour (u := u) hR hT hX hW (fun c hc => (hP c hc).1) hh hk
    have hR1 := (hR.hour (u := u) hT hX hW hM (by omega)).1 k hk
    have hk8 : k < 8 := by have := hT.1; omega
    refine ⟨hD.1, fun g j hg hj => ?_⟩
    by_cases hgh : g = h
    · subst hgh
      rw [m_hour_now hk hj]
      exact (zOb_now hD.1 hR1 hj).symm
    · rw [m_hour_old (by omega), (hP k hk).2 g j (by omega) hj, hD.2 g j (by omega)]
  · intro a b h hh hR hW hM hno hP k hk
    have hD := (hP k hk).1.idle (hR.1 k hk) (hno k hk)
    have hR1 := (hR.idle (u := u) (y := y) hT hW.1 hno (by omega)).1 k hk
    have hk8 : k < 8 := by have := hT.1; omega
    refine ⟨hD, fun g j hg hj => ?_⟩
    by_cases hgh : g = h
    · subst hgh
      rw [m_hour_now hk hj]
      exact (zOb_now hD hR1 hj).symm
    · rw [m_hour_old (by omega), (hP k hk).2 g j (by omega) hj]
