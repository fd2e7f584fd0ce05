theorem zMod.k0 {m : Nat → Nat → Nat} {I0 I : Nat → Nat → Int32} {j v : Nat} (h : zMod m I0 I) (hj : j % 2 = 0) : zMod (aw_u m 6 j v) I0 (aw_u I 100 j (nI v)) := by
  have h1 := h.u (i := 6) (j := j) (v := v) (by decide)
  have e : mE 6 j v = nI v := by rw [mE, hj]; rfl
  rw [e] at h1
  exact h1
theorem zMod.k1 {m : Nat → Nat → Nat} {I0 I : Nat → Nat → Int32} {j v : Nat} (h : zMod m I0 I) (hj : j % 2 = 1) : zMod (aw_u m 6 j v) I0 (aw_u I 100 j (nI v - 1)) := by
  have h1 := h.u (i := 6) (j := j) (v := v) (by decide)
  have e : mE 6 j v = nI v - 1 := by rw [mE, hj]; rfl
  rw [e] at h1
  exact h1
theorem m_g1_row {m : Nat → Nat → Nat} {i a : Nat} (h : a ≠ 7) : m_g1 m i a = m a := by
  induction i with
  | zero => rfl
  | succ i ih => rw [m_g1, aw_u_ne h, ih]
theorem m_g1_lt {m : Nat → Nat → Nat} {i j : Nat} (h : j < i) : m_g1 m i 7 j = 0 := by
  induction i with
  | zero => omega
  | succ i ih =>
    rw [m_g1]
    by_cases hj : j = i
    · subst hj; rw [aw_u_eq]
    · rw [aw_u_nj hj]; exact ih (by omega)
theorem m_ar_row {m : Nat → Nat → Nat} {h i a : Nat} (h1 : a ≠ 1) (h8 : a ≠ 8) : m_ar m h i a = m a := by
  rw [m_ar]
  split
  · rw [aw_u_ne h8, aw_u_ne h1]
  · rfl
theorem m_pr_row {m : Nat → Nat → Nat} {i a : Nat} (h7 : a ≠ 7) : m_pr m i a = m a := by
  rw [m_pr]
  split
  · rw [aw_u_ne h7]
  · rfl
theorem m_g2_row {m : Nat → Nat → Nat} {h i a : Nat} (h1 : a ≠ 1) (h7 : a ≠ 7) (h8 : a ≠ 8) : m_g2 m h i a = m a := by
  induction i with
  | zero => rfl
  | succ i ih => rw [m_g2, m_pr_row h7, m_ar_row h1 h8, ih]
/-- places behind a gathering -/
theorem m_g2_1 {m : Nat → Nat → Nat} {h i j : Nat} : m_g2 m h i 1 j = if j < i ∧ m 4 j = h then m 3 j else m 1 j := by
  induction i with
  | zero => rw [m_g2, if_neg (by omega)]
  | succ i ih =>
    rw [m_g2, m_pr_row (by decide), m_ar, m_g2_row (a := 4) (by decide) (by decide) (by decide), m_g2_row (a := 3) (by decide) (by decide) (by decide)]
    by_cases h4 : m 4 i = h
    · rw [if_pos h4, aw_u_ne (by decide)]
      by_cases hj : j = i
      · subst hj; rw [aw_u_eq, if_pos ⟨by omega, h4⟩]
      · rw [aw_u_nj hj, ih]
        by_cases hji : j < i
        · by_cases h5 : m 4 j = h
          · rw [if_pos ⟨hji, h5⟩, if_pos ⟨by omega, h5⟩]
          · rw [if_neg (fun z => h5 z.2), if_neg (fun z => h5 z.2)]
        · rw [if_neg (fun z => hji z.1), if_neg (fun z => by omega)]
    · rw [if_neg h4, ih]
      by_cases hj : j = i
      · subst hj; rw [if_neg (fun z => h4 z.2), if_neg (fun z => h4 z.2)]
      · by_cases h5 : j < i ∧ m 4 j = h
        · rw [if_pos h5, if_pos ⟨by omega, h5.2⟩]
        · rw [if_neg h5, if_neg (fun z => h5 ⟨by omega, z.2⟩)]
theorem m_g2_7 {m : Nat → Nat → Nat} {h i p : Nat} (h0 : ∀ p, p < 8 → m 7 p = 0) (hp : p < 8) : m_g2 m h i 7 p ≤ i := by
  induction i with
  | zero => rw [m_g2, h0 p hp]; omega
  | succ i ih =>
    rw [m_g2, m_pr]
    have e : m_ar (m_g2 m h i) h i 7 = m_g2 m h i 7 := m_ar_row (by decide) (by decide)
    split
    · by_cases hj : p = m_ar (m_g2 m h i) h i 1 i - 1
      · rw [hj, aw_u_eq, ← hj, e]; omega
      · rw [aw_u_nj hj, e]; omega
    · rw [e]; omega
theorem m_g2_8 {m : Nat → Nat → Nat} {h i B : Nat} (hB : ∀ p, m 8 p ≤ B) (p : Nat) : m_g2 m h i 8 p ≤ B + i := by
  induction i generalizing p with
  | zero => exact hB p
  | succ i ih =>
    rw [m_g2, m_pr_row (by decide), m_ar]
    split
    · by_cases hj : p = m_g2 m h i 3 i - 1
      · rw [hj, aw_u_eq, ← hj]; have := ih p; omega
      · rw [aw_u_nj hj, aw_u_ne (by decide)]; have := ih p; omega
    · have := ih p; omega
theorem m_g3_row {m : Nat → Nat → Nat} {h i a : Nat} (ha : a ≠ 9) : m_g3 m h i a = m a := by
  induction i with
  | zero => rfl
  | succ i ih =>
    rw [m_g3]
    split
    · rw [aw_u_ne ha, aw_u_ne ha, ih]
    · exact ih
theorem m_g3_9 {m : Nat → Nat → Nat} {h i : Nat} (h0 : m 9 0 < 1000) (hh : h < 900) : m_g3 m h i 9 0 < 1000 := by
  induction i with
  | zero => exact h0
  | succ i ih =>
    rw [m_g3]
    split
    · rw [aw_u_nj (by decide), aw_u_eq]; omega
    · exact ih
theorem m_kp_row {m : Nat → Nat → Nat} {h i a : Nat} (ha : a ≠ 6) : m_kp m h i a = m a := by
  induction i with
  | zero => rfl
  | succ i ih => rw [m_kp, aw_u_ne ha, aw_u_ne ha, aw_u_ne ha, aw_u_ne ha, ih]
theorem m_stays_row {m : Nat → Nat → Nat} {k h b a : Nat} (h0 : a ≠ 0) (h3 : a ≠ 3) (h5 : a ≠ 5) : m_stays m k h b a = m a := by
  rw [m_stays, aw_u_ne h3, aw_u_ne h5, aw_u_ne h0]
theorem m_goes_row {m t u y : Nat → Nat → Nat} {k h a : Nat} (ha : 6 ≤ a) : m_goes m t u y k h a = m a := by
  unfold m_goes
  repeat' split
  all_goals first
    | rw [m_stays_row (by omega) (by omega) (by omega)]
    | rw [aw_u_ne (by omega), aw_u_ne (by omega), aw_u_ne (by omega), aw_u_ne (by omega), aw_u_ne (by omega)]
theorem m_goes_ne {m t u y : Nat → Nat → Nat} {k h a j : Nat} (hj : j ≠ k) : m_goes m t u y k h a j = m a j := by
  unfold m_goes m_stays
  repeat' split
  all_goals simp [aw_u_col hj]
theorem m_goes_k {m t u y : Nat → Nat → Nat} {k h : Nat} :
    (m_goes m t u y k h 3 k = 0 ∧ m_goes m t u y k h 4 k = m 4 k ∧ m_goes m t u y k h 1 k = m 1 k ∧ m_goes m t u y k h 2 k = m 2 k) ∨
    (m 1 k - 1 ≠ t 1 k ∧ y 1 (8 * (m 1 k - 1) + t 1 k) < 9999 ∧ m_goes m t u y k h 3 k = m_next y (m 1 k - 1) (t 1 k) ∧ m_goes m t u y k h 4 k = h + y 0 (8 * (m 1 k - 1) + (m_next y (m 1 k - 1) (t 1 k) - 1)) ∧ m_goes m t u y k h 1 k = 0 ∧ m_goes m t u y k h 2 k ≤ m 2 k) := by
  unfold m_goes m_stays
  repeat' split
  · left; simp [aw_u, va_up]
  · left; simp [aw_u, va_up]
  · left; simp [aw_u, va_up]
  · left; simp [aw_u, va_up]
  · rename_i h1 _ h3 _
    right; refine ⟨h1, by omega, ?_, ?_, ?_, ?_⟩ <;> simp [aw_u, va_up]
/-- the reference's run at the beginning of an hour -/
def zMw (m t : Nat → Nat → Nat) (h B : Nat) : Prop := (∀ k, k < t 6 0 → m 1 k ≤ 8 ∧ m 3 k ≤ 8 ∧ (h ≤ m 4 k → m 3 k ≠ 0) ∧ m 2 k ≤ t 3 k ∧ m 4 k < 50000) ∧ (∀ p, m 8 p ≤ B) ∧ m 9 0 < 1000
def zYok (y : Nat → Nat → Nat) : Prop := (∀ j, j < 64 → y 0 j < 20000 ∧ y 1 j < 20000) ∧ ∀ p g, p < 8 → g < 8 → p ≠ g → y 1 (8 * p + g) < 9999 → m_next y p g ≠ 0
/-- in the midst of an hour: carters from i on are still to go on -/
def zMi (m t : Nat → Nat → Nat) (h i B : Nat) : Prop := (∀ k, k < t 6 0 → m 1 k ≤ 8 ∧ m 3 k ≤ 8 ∧ (h + 1 ≤ m 4 k → m 3 k ≠ 0) ∧ m 2 k ≤ t 3 k ∧ m 4 k < 50000) ∧ (∀ k, i ≤ k → k < t 6 0 → m 4 k = h → m 1 k ≠ 0) ∧ (∀ p, m 8 p ≤ B) ∧ m 9 0 < 1000 ∧ ∀ p, p < 8 → m 7 p ≤ 8
theorem zMw.gathers {m t : Nat → Nat → Nat} {h B : Nat} (hW : zMw m t h B) (h8 : t 6 0 ≤ 8) (hh : h < 900) : zMi (m_gathers m h (t 6 0)) t h 0 (B + 8) := by
  obtain ⟨w1, w2, w3⟩ := hW
  have row : ∀ a, a ≠ 1 → a ≠ 7 → a ≠ 8 → a ≠ 9 → m_gathers m h (t 6 0) a = m a := fun a h1 h7 h8 h9 => by rw [m_gathers, m_g3_row h9, m_g2_row h1 h7 h8, m_g1_row h7]
  have r1 : ∀ k, m_gathers m h (t 6 0) 1 k = if k < t 6 0 ∧ m 4 k = h then m 3 k else m 1 k := fun k => by
    rw [m_gathers, m_g3_row (by decide), m_g2_1, m_g1_row (by decide), m_g1_row (by decide), m_g1_row (by decide)]
  refine ⟨fun k hk => ?_, fun k _ hk h4 => ?_, fun p => ?_, ?_, fun p hp => ?_⟩
  · obtain ⟨q1, q2, q3, q4, q5⟩ := w1 k hk
    rw [r1, row 3 (by decide) (by decide) (by decide) (by decide), row 4 (by decide) (by decide) (by decide) (by decide), row 2 (by decide) (by decide) (by decide) (by decide)]
    refine ⟨?_, q2, fun z => q3 (by omega), q4, q5⟩
    split <;> omega
  · rw [row 4 (by decide) (by decide) (by decide) (by decide)] at h4
    rw [r1, if_pos ⟨hk, h4⟩]
    exact (w1 k hk).2.2.1 (by omega)
  · rw [m_gathers, m_g3_row (by decide)]
    have := m_g2_8 (m := m_g1 m 8) (h := h) (i := t 6 0) (B := B) (fun p => by rw [m_g1_row (by decide)]; exact w2 p) p
    omega
  · exact m_g3_9 (by rw [m_g2_row (by decide) (by decide) (by decide), m_g1_row (by decide)]; exact w3) hh
  · rw [m_gathers, m_g3_row (by decide)]
    exact Nat.le_trans (m_g2_7 (fun p hp => m_g1_lt hp) hp) h8
theorem zMi.goes {m t u y : Nat → Nat → Nat} {h i B : Nat} (hW : zMi m t h i B) (hT : zTok t) (hY : zYok y) (hi : i < t 6 0) (h4 : m 4 i = h) (hh : h < 900) : zMi (m_goes m t u y i h) t h (i + 1) B := by
  obtain ⟨w1, w2, w3, w4, w5⟩ := hW
  refine ⟨fun k hk => ?_, fun k hk1 hk2 hk4 => ?_, fun p => by rw [m_goes_row (by decide)]; exact w3 p, by rw [m_goes_row (by decide)]; exact w4, fun p hp => by rw [m_goes_row (by decide)]; exact w5 p hp⟩
  · by_cases hki : k = i
    · subst hki
      obtain ⟨q1, q2, q3, q4, q5⟩ := w1 k hk
      have hp0 := w2 k (Nat.le_refl _) hk h4
      have hg := (hT.2.2 k (by have := hT.1; omega)).2.1
      rcases m_goes_k (m := m) (t := t) (u := u) (y := y) (k := k) (h := h) with ⟨e1, e2, e3, e4⟩ | ⟨e0, e5, e1, e2, e3, e4⟩
      · rw [e1, e2, e3, e4]; exact ⟨q1, by omega, fun z => by omega, q4, q5⟩
      · have hn := hY.2 (m 1 k - 1) (t 1 k) (by omega) hg e0 e5
        have hl : m_next y (m 1 k - 1) (t 1 k) ≤ 8 := m_nx_le
        have hb := (hY.1 (8 * (m 1 k - 1) + (m_next y (m 1 k - 1) (t 1 k) - 1)) (by omega)).1
        rw [e1, e2, e3]; exact ⟨by omega, hl, fun _ => hn, Nat.le_trans e4 q4, by omega⟩
    · rw [m_goes_ne hki, m_goes_ne hki, m_goes_ne hki, m_goes_ne hki]; exact w1 k hk
  · rw [m_goes_ne (by omega)] at hk4 ⊢
    exact w2 k (by omega) hk2 hk4
theorem zMi.sw {m t u y : Nat → Nat → Nat} {h B i : Nat} (hW : zMi m t h 0 B) (hT : zTok t) (hY : zYok y) (hh : h < 900) (hi : i ≤ t 6 0) : zMi (m_sw m t u y h i) t h i B := by
  induction i with
  | zero => exact hW
  | succ i ih =>
    have h1 := ih (by omega)
    rw [m_sw]
    split
    next h4 => exact h1.goes hT hY (by omega) h4 hh
    next => exact ⟨h1.1, fun k hk1 => h1.2.1 k (by omega), h1.2.2⟩
theorem zMw.hour {m t u y : Nat → Nat → Nat} {h B : Nat} (hW : zMw m t h B) (hT : zTok t) (hY : zYok y) (hh : h < 900) : zMw (m_hour m t u y h) t (h + 1) (B + 8) := by
  have h1 := (hW.gathers hT.1 hh).sw (u := u) hT hY hh (Nat.le_refl _)
  obtain ⟨w1, w2, w3, w4, w5⟩ := h1
  refine ⟨fun k hk => ?_, fun p => ?_, ?_⟩
  · rw [m_hour, m_kp_row (by decide), m_kp_row (by decide), m_kp_row (by decide), m_kp_row (by decide)]; exact w1 k hk
  · rw [m_hour, m_kp_row (by decide)]; exact w3 p
  · rw [m_hour, m_kp_row (by decide)]; exact w4
theorem zMw.ev {m t u y : Nat → Nat → Nat} {B h : Nat} (hW : zMw m t 0 B) (hT : zTok t) (hY : zYok y) (hh : h ≤ 40) : zMw (m_ev m t u y h) t h (B + 8 * h) := by
  induction h with
  | zero => exact hW
  | succ h ih => exact (ih (by omega)).hour hT hY (by omega)
theorem m_l2_lt {m t : Nat → Nat → Nat} {i j : Nat} (h : j < i) : m_l2 m t i 2 j = t 3 j ∧ m_l2 m t i 3 j = t 0 j + 1 ∧ m_l2 m t i 4 j = t 5 j := by
  induction i with
  | zero => omega
  | succ i ih =>
    rw [m_l2]
    by_cases hj : j = i
    · subst hj; simp [aw_u, va_up]
    · rw [aw_u_col hj, aw_u_col hj, aw_u_col hj, aw_u_col hj, aw_u_col hj, aw_u_col hj, aw_u_col hj, aw_u_col hj, aw_u_col hj]; exact ih (by omega)
theorem m_l2_row {m t : Nat → Nat → Nat} {i a : Nat} (h2 : a ≠ 2) (h3 : a ≠ 3) (h4 : a ≠ 4) : m_l2 m t i a = m a := by
  induction i with
  | zero => rfl
  | succ i ih => rw [m_l2, aw_u_ne h4, aw_u_ne h3, aw_u_ne h2, ih]
theorem m_l1_lt {m : Nat → Nat → Nat} {i j : Nat} (h : j < i) : m_l1 m i 0 j = 0 ∧ m_l1 m i 1 j = 0 ∧ m_l1 m i 5 j = 0 ∧ m_l1 m i 8 j = 0 := by
  induction i with
  | zero => omega
  | succ i ih =>
    rw [m_l1]
    by_cases hj : j = i
    · subst hj; simp [aw_u, va_up]
    · simp only [aw_u_col hj]; exact ih (by omega)
theorem m_l1_ge {m : Nat → Nat → Nat} {i j a : Nat} (h : i ≤ j) : m_l1 m i a j = m a j := by
  induction i with
  | zero => rfl
  | succ i ih => rw [m_l1, aw_u_col (by omega), aw_u_col (by omega), aw_u_col (by omega), aw_u_col (by omega)]; exact ih (by omega)
theorem zMw.l0 {m t : Nat → Nat → Nat} {B : Nat} (hT : zTok t) (hB : ∀ p, 8 ≤ p → m 8 p ≤ B) : zMw (m_l0 m t) t 0 B := by
  unfold m_l0
  have r : ∀ a, a ≠ 9 → aw_u (aw_u (m_l2 (m_l1 m 8) t (t 6 0)) 9 0 0) 9 1 0 a = m_l2 (m_l1 m 8) t (t 6 0) a := fun a ha => by rw [aw_u_ne ha, aw_u_ne ha]
  refine ⟨fun k hk => ?_, fun p => ?_, ?_⟩
  · have hk8 : k < 8 := by have := hT.1; omega
    obtain ⟨e2, e3, e4⟩ := m_l2_lt (m := m_l1 m 8) (t := t) hk
    have hq := hT.2.2 k hk8
    rw [r 1 (by decide), r 2 (by decide), r 3 (by decide), r 4 (by decide), e2, e3, e4, m_l2_row (by decide) (by decide) (by decide), (m_l1_lt hk8).2.1]
    exact ⟨by omega, by omega, fun _ => by omega, Nat.le_refl _, by omega⟩
  · rw [r 8 (by decide), m_l2_row (by decide) (by decide) (by decide)]
    by_cases hp : p < 8
    · rw [(m_l1_lt hp).2.2.2]; omega
    · rw [m_l1_ge (by omega)]; exact hB p (by omega)
  · rw [aw_u_nj (by decide), aw_u_eq]; decide
