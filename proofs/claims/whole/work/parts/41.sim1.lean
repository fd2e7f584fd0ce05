/-- the two charts say the same: the class's steps and turns, the reference's steps and distances -/
def zXY (x y : Nat → Nat → Nat) : Prop := ∀ p g, p < 8 → g < 8 → p ≠ g → (9999 ≤ y 1 (8 * p + g) → x 2 (p * 8 + g) = 0) ∧ (y 1 (8 * p + g) < 9999 → x 2 (p * 8 + g) = m_next y p g ∧ m_next y p g ≠ 0 ∧ x 0 (p * 8 + (m_next y p g - 1)) = y 0 (8 * p + (m_next y p g - 1)) ∧ 1 ≤ y 0 (8 * p + (m_next y p g - 1)) ∧ y 0 (8 * p + (m_next y p g - 1)) + y 1 (8 * (m_next y p g - 1) + g) = y 1 (8 * p + g))
/-- how many have ended at a place -/
def zEnd (s : Nat → Nat → Nat) (n p : Nat) : Nat := zc (fun j => decide (s 7 j ≠ 0) && decide (s 5 j = p)) n
/-- a carter in both runs, at the beginning of an hour -/
def zRk (s m t : Nat → Nat → Nat) (h k : Nat) : Prop :=
  (s 7 k ≠ 0 ∧ s 1 k = 1000 ∧ m 5 k = s 7 k ∧ m 1 k = s 5 k + 1 ∧ m 0 k = s 6 k ∧ m 2 k = s 2 k ∧ m 4 k < h ∧ s 6 k ≠ 1 ∧ s 7 k ≤ h) ∨
  (s 7 k = 0 ∧ s 1 k = m 4 k ∧ h ≤ m 4 k ∧ m 5 k = 0 ∧ m 1 k = 0 ∧ m 3 k = s 5 k + 1 ∧ m 2 k = s 2 k ∧ s 6 k = 1 ∧ m 0 k = (if t 5 k < h then 1 else 0) ∧ (t 5 k < h ∨ m 4 k = t 5 k))
def zRel (s m t : Nat → Nat → Nat) (h : Nat) : Prop := (∀ k, k < t 6 0 → zRk s m t h k) ∧ (∀ p, p < 8 → s 4 p = m 8 p) ∧ s 0 10 = m 9 0 ∧ s 0 11 = m 9 1 ∧ m 9 0 ≤ h ∧ (m 9 0 = 0 → ∀ p, p < 8 → zEnd s (t 6 0) p ≤ 1)
theorem zRel.pres {s m t : Nat → Nat → Nat} {h p : Nat} (hR : zRel s m t h) (hn : s 0 0 = t 6 0) (hh : h < 1000) (hp : p < 8) : p_gather s h 3 p = m_gathers m h (t 6 0) 7 p := by
  rw [p_gather_3 hp, m_gathers, m_g3_row (by decide), m_g2_7c, m_g1_lt hp, Nat.zero_add, hn]
  apply zc_congr
  intro j hj
  rw [m_g1_row (a := 4) (by decide), m_g1_row (a := 3) (by decide), m_g1_row (a := 1) (by decide)]
  rcases hR.1 j hj with ⟨a1, a2, a3, a4, a5, a6, a7, a8, a9⟩ | ⟨b1, b2, b3, b4, b5, b6, b7, b8, b9, b10⟩
  · rw [if_neg (show ¬ m 4 j = h by omega), a4]
    simp [a1]
  · by_cases h4 : m 4 j = h
    · rw [if_pos h4, b6]; simp [b2, h4]
    · rw [if_neg h4, b5]; simp [b1, b2, h4]
theorem p_fin_vals {z : Nat → Nat → Nat} {k h p : Nat} : p_fin z k h p 7 k = h + 1 ∧ p_fin z k h p 1 k = 1000 ∧ p_fin z k h p 5 k = z 5 k ∧ p_fin z k h p 6 k = z 6 k ∧ p_fin z k h p 2 k = z 2 k :=
  ⟨by rw [p_fin_7]; simp [va_up], by rw [p_fin_1]; simp [va_up], by rw [p_fin_row (by decide) (by decide) (by decide)], by rw [p_fin_row (by decide) (by decide) (by decide)], by rw [p_fin_row (by decide) (by decide) (by decide)]⟩
theorem m_stays_vals {m : Nat → Nat → Nat} {k h a : Nat} : m_stays m k h a 5 k = h + 1 ∧ m_stays m k h a 1 k = m 1 k ∧ m_stays m k h a 0 k = a ∧ m_stays m k h a 2 k = m 2 k ∧ m_stays m k h a 4 k = m 4 k := by
  unfold m_stays; simp [aw_u, va_up]
/-- an hour is the same for both -/
theorem zRel.col {s m t u x y : Nat → Nat → Nat} {h k : Nat} (hR : zRel s m t h) (hT : zTok t) (hX : zXY x y) (hW : zWf s t 5000) (hh : h < 900) (hk : k < t 6 0) : zRk (p_hour s t u x h) (m_hour m t u y h) t (h + 1) k := by
  have hk8 : k < 8 := by have := hT.1; omega
  have hp8 := (hW.2.2.2.1 k hk8).2.2.1
  have hg8 := (hT.2.2 k hk8).2.1
  have C : ∀ a, (a = 1 ∨ a = 2 ∨ a = 5 ∨ a = 6 ∨ a = 7 ∨ a = 8) → p_hour s t u x h a k = if s 1 k = h then p_settle (p_gather s h) t u x k h a k else s a k := by
    intro a ha
    rw [p_hour, p_sw_col ha, hW.1, p_gather_row (a := 1) (by decide) (by decide)]
    by_cases h1 : s 1 k = h
    · rw [if_pos ⟨hk, h1⟩, if_pos h1]
    · rw [if_neg (fun z => h1 z.2), if_neg h1, p_gather_row (by omega) (by omega)]
  have gr : ∀ a, a ≠ 1 → a ≠ 7 → a ≠ 8 → a ≠ 9 → m_gathers m h (t 6 0) a = m a := fun a h1 h7 h8 h9 => by rw [m_gathers, m_g3_row h9, m_g2_row h1 h7 h8, m_g1_row h7]
  have D : ∀ a, a < 6 → m_hour m t u y h a k = if m 4 k = h then m_goes (m_gathers m h (t 6 0)) t u y k h a k else m_gathers m h (t 6 0) a k := by
    intro a ha
    rw [m_hour, m_kp_row (by omega), m_sw_col ha, gr 4 (by decide) (by decide) (by decide) (by decide)]
    by_cases h1 : m 4 k = h
    · rw [if_pos ⟨hk, h1⟩, if_pos h1]
    · rw [if_neg (fun z => h1 z.2), if_neg h1]
  have r1 : m_gathers m h (t 6 0) 1 k = if m 4 k = h then m 3 k else m 1 k := by
    rw [m_gathers, m_g3_row (by decide), m_g2_1, m_g1_row (by decide), m_g1_row (by decide), m_g1_row (by decide)]
    by_cases h4 : m 4 k = h
    · rw [if_pos ⟨hk, h4⟩, if_pos h4]
    · rw [if_neg (fun z => h4 z.2), if_neg h4]
  rcases hR.1 k hk with ⟨a1, a2, a3, a4, a5, a6, a7, a8, a9⟩ | ⟨b1, b2, b3, b4, b5, b6, b7, b8, b9, b10⟩
  · left
    rw [C 7 (by decide), C 1 (by decide), C 5 (by decide), C 6 (by decide), C 2 (by decide), if_neg (by omega), if_neg (by omega), if_neg (by omega), if_neg (by omega), if_neg (by omega)]
    rw [D 5 (by decide), D 1 (by decide), D 0 (by decide), D 2 (by decide), D 4 (by decide), if_neg (by omega), if_neg (by omega), if_neg (by omega), if_neg (by omega), if_neg (by omega), r1, if_neg (by omega), gr 5 (by decide) (by decide) (by decide) (by decide), gr 0 (by decide) (by decide) (by decide) (by decide), gr 2 (by decide) (by decide) (by decide) (by decide), gr 4 (by decide) (by decide) (by decide) (by decide)]
    exact ⟨a1, a2, a3, a4, a5, a6, by omega, a8, by omega⟩
  · by_cases h4 : m 4 k = h
    · -- it arrives
      have h1 : s 1 k = h := by omega
      have hpl : m_gathers m h (t 6 0) 1 k = s 5 k + 1 := by rw [r1, if_pos h4, b6]
      have gl : m_gathers m h (t 6 0) 2 k = s 2 k := by rw [gr 2 (by decide) (by decide) (by decide) (by decide), b7]
      have to : p_told (p_gather s h) t u k h (s 5 k) = m_told (m_gathers m h (t 6 0)) t u k h (s 5 k) := by
        have hpr := hR.pres hW.1 (by omega) hp8
        have hs := (hT.2.2 k hk8).2.2.1
        unfold p_told m_told
        rw [hpr]
        rcases (show t 2 k = 0 ∨ t 2 k = 1 ∨ t 2 k = 2 by omega) with e | e | e <;> rw [e] <;> simp
      have S5 : p_gather s h 5 k = s 5 k := by rw [p_gather_row (by decide) (by decide)]
      have S2 : p_gather s h 2 k = s 2 k := by rw [p_gather_row (by decide) (by decide)]
      have S6 : p_gather s h 6 k = 1 := by rw [p_gather_row (by decide) (by decide)]; exact b8
      have S7 : p_gather s h 7 k = 0 := by rw [p_gather_row (by decide) (by decide)]; exact b1
      have M4 : m_gathers m h (t 6 0) 4 k = h := by rw [gr 4 (by decide) (by decide) (by decide) (by decide)]; exact h4
      have M5 : m_gathers m h (t 6 0) 5 k = 0 := by rw [gr 5 (by decide) (by decide) (by decide) (by decide)]; exact b4
      have fin : ∀ (st : Nat) (z : Nat → Nat → Nat), st ≠ 1 → p_settle (p_gather s h) t u x k h = p_fin z k h (s 5 k) → m_goes (m_gathers m h (t 6 0)) t u y k h = m_stays (m_gathers m h (t 6 0)) k h st → z 5 k = s 5 k → z 6 k = st → z 2 k = s 2 k → zRk (p_hour s t u x h) (m_hour m t u y h) t (h + 1) k := by
        intro st z hst eP eM z5 z6 z2
        left
        rw [C 7 (by decide), C 1 (by decide), C 5 (by decide), C 6 (by decide), C 2 (by decide), if_pos h1, if_pos h1, if_pos h1, if_pos h1, if_pos h1, eP]
        rw [D 5 (by decide), D 1 (by decide), D 0 (by decide), D 2 (by decide), D 4 (by decide), if_pos h4, if_pos h4, if_pos h4, if_pos h4, if_pos h4, eM]
        obtain ⟨v1, v2, v3, v4, v5⟩ := p_fin_vals (z := z) (k := k) (h := h) (p := s 5 k)
        obtain ⟨w1, w2, w3, w4, w5⟩ := m_stays_vals (m := m_gathers m h (t 6 0)) (k := k) (h := h) (a := st)
        rw [v1, v2, v3, v4, v5, w1, w2, w3, w4, w5, z5, z6, z2]
        exact ⟨by omega, rfl, rfl, hpl, rfl, gl, by omega, hst, by omega⟩
      by_cases c1 : s 5 k = t 1 k
      · exact fin 2 _ (by decide) (by rw [p_settle, S5, if_pos c1]) (by rw [m_goes, hpl, if_pos (by omega)]) (by simp [aw_u, va_up, S5]) (by simp [aw_u, va_up]) (by simp [aw_u, va_up, S2])
      · by_cases c2 : m_told (m_gathers m h (t 6 0)) t u k h (s 5 k) = true
        · exact fin 3 _ (by decide) (by rw [p_settle, S5, if_neg c1, to, if_pos c2]) (by rw [m_goes, hpl, if_neg (by omega), Nat.add_sub_cancel, if_pos c2]) (by simp [aw_u, va_up, S5]) (by simp [aw_u, va_up]) (by simp [aw_u, va_up, S2])
        · obtain ⟨x1, x2⟩ := hX (s 5 k) (t 1 k) hp8 hg8 c1
          by_cases c3 : 9999 ≤ y 1 (8 * s 5 k + t 1 k)
          · exact fin 5 _ (by decide) (by rw [p_settle, S5, if_neg c1, to, if_neg c2, if_pos (x1 c3)]) (by rw [m_goes, hpl, if_neg (by omega), Nat.add_sub_cancel, if_neg c2, if_pos c3]) (by simp [aw_u, va_up, S5]) (by simp [aw_u, va_up]) (by simp [aw_u, va_up, S2])
          · obtain ⟨y1, y2, y3, y4, y5⟩ := x2 (by omega)
            by_cases c4 : s 2 k < y 0 (8 * s 5 k + (m_next y (s 5 k) (t 1 k) - 1)) + t 4 k
            · exact fin 4 _ (by decide) (by rw [p_settle, S5, if_neg c1, to, if_neg c2, y1, if_neg y2, S2, y3, if_pos c4]) (by rw [m_goes, hpl, if_neg (by omega), Nat.add_sub_cancel, if_neg c2, if_neg c3, gl, if_pos c4]) (by simp [aw_u, va_up, S5]) (by simp [aw_u, va_up]) (by simp [aw_u, va_up, S2])
            · right
              have eP : p_settle (p_gather s h) t u x k h = p_note (aw_u (aw_u (aw_u (aw_u (p_gather s h) 4 (s 5 k) (p_gather s h 4 (s 5 k) + 1)) 2 k (s 2 k - (y 0 (8 * s 5 k + (m_next y (s 5 k) (t 1 k) - 1)) + t 4 k))) 1 k (h + y 0 (8 * s 5 k + (m_next y (s 5 k) (t 1 k) - 1)))) 5 k (m_next y (s 5 k) (t 1 k) - 1)) k h (s 5 k) (s 2 k - (y 0 (8 * s 5 k + (m_next y (s 5 k) (t 1 k) - 1)) + t 4 k)) (m_next y (s 5 k) (t 1 k)) := by
                rw [p_settle, S5, if_neg c1, to, if_neg c2, y1, if_neg y2, S2, y3, if_neg c4]
              have eM : m_goes (m_gathers m h (t 6 0)) t u y k h = aw_u (aw_u (aw_u (aw_u (aw_u (m_gathers m h (t 6 0)) 2 k (s 2 k - (y 0 (8 * s 5 k + (m_next y (s 5 k) (t 1 k) - 1)) + t 4 k))) 0 k 1) 1 k 0) 3 k (m_next y (s 5 k) (t 1 k))) 4 k (h + y 0 (8 * s 5 k + (m_next y (s 5 k) (t 1 k) - 1))) := by
                rw [m_goes, hpl, if_neg (by omega), Nat.add_sub_cancel, if_neg c2, if_neg c3, gl, if_neg c4]
              rw [C 7 (by decide), C 1 (by decide), C 5 (by decide), C 6 (by decide), C 2 (by decide), if_pos h1, if_pos h1, if_pos h1, if_pos h1, if_pos h1, eP]
              rw [D 5 (by decide), D 1 (by decide), D 0 (by decide), D 2 (by decide), D 4 (by decide), D 3 (by decide), if_pos h4, if_pos h4, if_pos h4, if_pos h4, if_pos h4, if_pos h4, eM]
              rw [p_note_row (a := 7) (by decide), p_note_row (a := 1) (by decide), p_note_row (a := 5) (by decide), p_note_row (a := 6) (by decide), p_note_row (a := 2) (by decide)]
              refine ⟨by simp [aw_u, va_up, S7], by simp [aw_u, va_up], by simp [aw_u, va_up]; omega, by simp [aw_u, va_up, M5], by simp [aw_u, va_up], by simp [aw_u, va_up]; omega, by simp [aw_u, va_up], by simp [aw_u, va_up, S6], ?_, ?_⟩
              · rw [if_pos (by omega)]; simp [aw_u, va_up]
              · left; omega
    · right
      rw [C 7 (by decide), C 1 (by decide), C 5 (by decide), C 6 (by decide), C 2 (by decide), if_neg (by omega), if_neg (by omega), if_neg (by omega), if_neg (by omega), if_neg (by omega)]
      rw [D 5 (by decide), D 1 (by decide), D 0 (by decide), D 2 (by decide), D 4 (by decide), D 3 (by decide), if_neg (by omega), if_neg (by omega), if_neg (by omega), if_neg (by omega), if_neg (by omega), if_neg (by omega), r1, if_neg (by omega), gr 5 (by decide) (by decide) (by decide) (by decide), gr 0 (by decide) (by decide) (by decide) (by decide), gr 2 (by decide) (by decide) (by decide) (by decide), gr 4 (by decide) (by decide) (by decide) (by decide), gr 3 (by decide) (by decide) (by decide) (by decide)]
      refine ⟨b1, b2, by omega, b4, b5, b6, b7, b8, ?_, by omega⟩
      rw [b9]
      by_cases h5 : t 5 k < h
      · rw [if_pos h5, if_pos (by omega)]
      · rw [if_neg h5, if_neg (by omega)]
theorem zRel.hour {s m t u x y : Nat → Nat → Nat} {h : Nat} (hR : zRel s m t h) (hT : zTok t) (hX : zXY x y) (hW : zWf s t 5000) (hM : zMw m t h 5000) (hh : h < 900) : zRel (p_hour s t u x h) (m_hour m t u y h) t (h + 1) := by
  have g7 : ∀ p, p < 8 → p_gather s h 3 p = m_gathers m h (t 6 0) 7 p := fun p hp => hR.pres hW.1 (by omega) hp
  have hn : s 0 0 = t 6 0 := hW.1
  have e9 : ∀ j, m_hour m t u y h 9 j = m_gathers m h (t 6 0) 9 j := fun j => by rw [m_hour, m_kp_row (by decide), m_sw_row (by decide)]
  have e0 : ∀ j, p_hour s t u x h 0 j = p_gather s h 0 j := fun j => by rw [p_hour, p_sw_0]
  have z : zfst (fun j => decide (1 < p_g2 (p_g1 s 8) h (s 0 0) 3 j)) 8 = zlst (fun j => decide (1 < m_g2 (m_g1 m 8) h (t 6 0) 7 j)) 8 := by
    rw [zfst_zlst]
    apply zlst_congr
    intro j hj
    have h1 := g7 j hj
    rw [p_gather, p_g3_row (by decide), m_gathers, m_g3_row (by decide)] at h1
    rw [h1]
  have pm := p_g3_met (s := p_g2 (p_g1 s 8) h (s 0 0)) (h := h) (i := 8)
  have mm := m_g3_met (m := m_g2 (m_g1 m 8) h (t 6 0)) (h := h) (i := 8) (by rw [m_g2_row (by decide) (by decide) (by decide), m_g1_row (by decide)]; exact hR.2.2.2.2.1)
  rw [p_g2_row (a := 0) (by decide), p_g1_row (a := 0) (by decide), z] at pm
  rw [m_g2_row (a := 9) (by decide) (by decide) (by decide), m_g1_row (a := 9) (by decide)] at mm
  refine ⟨fun k hk => hR.col hT hX hW hh hk, fun p hp => ?_, ?_, ?_, ?_, ?_⟩
  · rw [p_hour, p_sw_4, p_gather_row (a := 4) (by decide) (by decide), p_gather_row (a := 1) (by decide) (by decide), p_gather_row (a := 5) (by decide) (by decide)]
    rw [m_hour, m_kp_row (by decide), m_sw_row (by decide), m_gathers, m_g3_row (by decide), m_g2_8c (fun j hj h4 => by
      rw [m_g1_row (by decide)] at h4 ⊢
      exact (hM.1 j hj).2.2.1 (by omega)), m_g1_row (a := 8) (by decide), m_g1_row (a := 4) (by decide), m_g1_row (a := 3) (by decide), hR.2.1 p hp, hn]
    congr 1
    apply zc_congr
    intro j hj
    rcases hR.1 j hj with ⟨a1, a2, a3, a4, a5, a6, a7, a8, a9⟩ | ⟨b1, b2, b3, b4, b5, b6, b7, b8, b9, b10⟩
    · simp [show ¬ s 1 j = h by omega, show ¬ m 4 j = h by omega]
    · rw [b2, b6]; simp
  · rw [e0, e9, p_gather, m_gathers, pm.1, mm.1, hR.2.2.1]
  · rw [e0, e9, p_gather, m_gathers, pm.2, mm.2, hR.2.2.1, hR.2.2.2.1]
  · rw [e9, m_gathers, mm.1]
    have := hR.2.2.2.2.1
    split <;> omega
  · intro hz p hp
    rw [e9, m_gathers, mm.1] at hz
    by_cases hc : m 9 0 = 0 ∧ zlst (fun j => decide (1 < m_g2 (m_g1 m 8) h (t 6 0) 7 j)) 8 ≠ 0
    · rw [if_pos hc] at hz; omega
    · rw [if_neg hc] at hz
      have hl : zlst (fun j => decide (1 < m_g2 (m_g1 m 8) h (t 6 0) 7 j)) 8 = 0 := by
        cases hq : zlst (fun j => decide (1 < m_g2 (m_g1 m 8) h (t 6 0) 7 j)) 8 with
        | zero => rfl
        | succ q => exact absurd ⟨hz, by rw [hq]; omega⟩ hc
      rw [← z] at hl
      have hf := zfst_0.mp hl p hp
      have h3 : p_gather s h 3 p ≤ 1 := by
        rw [p_gather, p_g3_row (by decide)]
        have : ¬ 1 < p_g2 (p_g1 s 8) h (s 0 0) 3 p := by simpa using hf
        omega
      rw [p_gather_3 hp, hn] at h3
      refine Nat.le_trans (zc_mono (fun j hj hb => ?_)) h3
      have hj8 : j < 8 := by have := hT.1; omega
      have C : ∀ a, (a = 7 ∨ a = 5) → p_hour s t u x h a j = if s 1 j = h then p_settle (p_gather s h) t u x j h a j else s a j := by
        intro a ha
        rw [p_hour, p_sw_col (by omega), hW.1, p_gather_row (a := 1) (by decide) (by decide)]
        by_cases h1 : s 1 j = h
        · rw [if_pos ⟨hj, h1⟩, if_pos h1]
        · rw [if_neg (fun z => h1 z.2), if_neg h1, p_gather_row (by omega) (by omega)]
      rw [Bool.and_eq_true, decide_eq_true_eq, decide_eq_true_eq, C 7 (by decide), C 5 (by decide)] at hb
      by_cases h1 : s 1 j = h
      · rw [if_pos h1, if_pos h1] at hb
        have S5 : p_gather s h 5 j = s 5 j := by rw [p_gather_row (by decide) (by decide)]
        have S7 : p_gather s h 7 j = s 7 j := by rw [p_gather_row (by decide) (by decide)]
        rcases p_settle_c (s := p_gather s h) (t := t) (u := u) (x := x) (c := j) (h := h) with ⟨q1, q2, q3, q4⟩ | ⟨q0, q1, q2, q3, q4, q5⟩
        · rw [q3, S5] at hb; simp [h1, hb.2]
        · rcases hR.1 j hj with ⟨a1, a2, a3, a4, a5, a6, a7, a8, a9⟩ | ⟨b1, b2, b3, b4, b5, b6, b7, b8, b9, b10⟩
          · omega
          · rw [q2, S7, b1] at hb; exact absurd rfl hb.1
      · rw [if_neg h1, if_neg h1] at hb
        simp [hb.1, hb.2]
/-- an hour in which nobody arrives -/
theorem zRel.idle {s m t u y : Nat → Nat → Nat} {h : Nat} (hR : zRel s m t h) (hT : zTok t) (hn : s 0 0 = t 6 0) (hno : ∀ k, k < t 6 0 → s 1 k ≠ h) (hh : h < 900) : zRel s (m_hour m t u y h) t (h + 1) := by
  have n4 : ∀ k, k < t 6 0 → m 4 k ≠ h := fun k hk => by
    rcases hR.1 k hk with ⟨a1, a2, a3, a4, a5, a6, a7, a8, a9⟩ | ⟨b1, b2, b3, b4, b5, b6, b7, b8, b9, b10⟩
    · omega
    · rw [← b2]; exact hno k hk
  have gr : ∀ a, a ≠ 1 → a ≠ 7 → a ≠ 8 → a ≠ 9 → m_gathers m h (t 6 0) a = m a := fun a h1 h7 h8 h9 => by rw [m_gathers, m_g3_row h9, m_g2_row h1 h7 h8, m_g1_row h7]
  have D : ∀ a k, a < 6 → k < t 6 0 → m_hour m t u y h a k = m a k := by
    intro a k ha hk
    rw [m_hour, m_kp_row (by omega), m_sw_col ha, gr 4 (by decide) (by decide) (by decide) (by decide), if_neg (fun z => n4 k hk z.2)]
    by_cases h1 : a = 1
    · subst h1
      rw [m_gathers, m_g3_row (by decide), m_g2_1, m_g1_row (by decide), m_g1_row (by decide), m_g1_row (by decide), if_neg (fun z => n4 k hk z.2)]
    · rw [gr a h1 (by omega) (by omega) (by omega)]
  have e9 : ∀ j, m_hour m t u y h 9 j = m_gathers m h (t 6 0) 9 j := fun j => by rw [m_hour, m_kp_row (by decide), m_sw_row (by decide)]
  have mm := m_g3_met (m := m_g2 (m_g1 m 8) h (t 6 0)) (h := h) (i := 8) (by rw [m_g2_row (by decide) (by decide) (by decide), m_g1_row (by decide)]; exact hR.2.2.2.2.1)
  rw [m_g2_row (a := 9) (by decide) (by decide) (by decide), m_g1_row (a := 9) (by decide)] at mm
  have no : ¬ (m 9 0 = 0 ∧ zlst (fun j => decide (1 < m_g2 (m_g1 m 8) h (t 6 0) 7 j)) 8 ≠ 0) := by
    rintro ⟨h0, hl⟩
    apply hl
    rw [← zfst_zlst, zfst_0]
    intro p hp
    have h1 := hR.pres hn (by omega) hp
    rw [m_gathers, m_g3_row (by decide)] at h1
    rw [← h1, p_gather_3 hp, hn]
    have h2 := hR.2.2.2.2.2 h0 p hp
    have h3 : zc (fun j => (decide (s 1 j = h) || decide (s 7 j ≠ 0)) && decide (s 5 j = p)) (t 6 0) ≤ zEnd s (t 6 0) p := zc_mono (fun j hj hb => by
      simp only [show decide (s 1 j = h) = false from decide_eq_false (hno j hj), Bool.false_or] at hb
      exact hb)
    exact decide_eq_false (by omega)
  rw [if_neg no, if_neg no] at mm
  refine ⟨fun k hk => ?_, fun p hp => ?_, ?_, ?_, ?_, ?_⟩
  · unfold zRk
    rw [D 5 k (by decide) hk, D 1 k (by decide) hk, D 0 k (by decide) hk, D 2 k (by decide) hk, D 4 k (by decide) hk, D 3 k (by decide) hk]
    have := n4 k hk
    rcases hR.1 k hk with ⟨a1, a2, a3, a4, a5, a6, a7, a8, a9⟩ | ⟨b1, b2, b3, b4, b5, b6, b7, b8, b9, b10⟩
    · left; exact ⟨a1, a2, a3, a4, a5, a6, by omega, a8, by omega⟩
    · right
      refine ⟨b1, b2, by omega, b4, b5, b6, b7, b8, ?_, by omega⟩
      rw [b9]
      by_cases h5 : t 5 k < h
      · rw [if_pos h5, if_pos (by omega)]
      · rw [if_neg h5, if_neg (by omega)]
  · rw [m_hour, m_kp_row (by decide), m_sw_row (by decide), m_gathers, m_g3_row (by decide), m_g2_8c (fun j hj h4 => absurd (by rw [m_g1_row (by decide)] at h4; exact h4) (n4 j hj)), m_g1_row (a := 8) (by decide), m_g1_row (a := 4) (by decide), hR.2.1 p hp]
    have : zc (fun j => decide (m 4 j = h) && decide (m_g1 m 8 3 j = p + 1)) (t 6 0) = zc (fun _ => false) (t 6 0) := zc_congr (fun j hj => by simp [n4 j hj])
    rw [this]
    have z0 : ∀ n, zc (fun _ => false) n = 0 := fun n => by
      induction n with
      | zero => rfl
      | succ n ih => rw [zc, ih]; rfl
    rw [z0]; rfl
  · rw [e9, m_gathers, mm.1]; exact hR.2.2.1
  · rw [e9, m_gathers, mm.2]; exact hR.2.2.2.1
  · rw [e9, m_gathers, mm.1]; have := hR.2.2.2.2.1; omega
  · rw [e9, m_gathers, mm.1]; exact hR.2.2.2.2.2
