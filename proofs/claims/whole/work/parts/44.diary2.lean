theorem p_note_congr {A B : Nat → Nat → Nat} {c h p l w a j : Nat} (h10 : A 10 c = B 10 c) (haj : A a j = B a j) (ha : a = 11 ∨ a = 12 ∨ a = 13 ∨ a = 14) : p_note A c h p l w a j = p_note B c h p l w a j := by
  unfold p_note
  rw [h10]
  split
  · exact haj
  · rcases ha with rfl | rfl | rfl | rfl <;> simp [aw_u, va_up, haj]
theorem p_settle_dcongr {s z t u x : Nat → Nat → Nat} {c h : Nat} (h2 : s 2 c = z 2 c) (h5 : s 5 c = z 5 c) (h3 : s 3 = z 3) (h10 : s 10 c = z 10 c) {a j : Nat} (haj : s a j = z a j) (ha : a = 11 ∨ a = 12 ∨ a = 13 ∨ a = 14) : p_settle s t u x c h a j = p_settle z t u x c h a j := by
  have ht : ∀ p, p_told s t u c h p = p_told z t u c h p := fun p => by unfold p_told; rw [h3]
  unfold p_settle p_fin
  rw [h5, ht, h2]
  repeat' split
  all_goals
    try simp only [aw_u_ne (show (2 : Nat) ≠ 1 by decide), aw_u_ne (show (2 : Nat) ≠ 7 by decide), aw_u_ne (show (2 : Nat) ≠ 6 by decide), aw_u_ne (show (2 : Nat) ≠ 8 by decide), aw_u_ne (show (2 : Nat) ≠ 4 by decide), h2]
    refine p_note_congr ?_ ?_ ha
    · simp [aw_u, va_up, h10]
    · rcases ha with rfl | rfl | rfl | rfl <;> simp [aw_u, va_up, haj]
theorem p_sw_d {s t u x : Nat → Nat → Nat} {h i a j k : Nat} (ha : a = 11 ∨ a = 12 ∨ a = 13 ∨ a = 14) (h8 : ∀ c, c < i → s 1 c = h → s 10 c < 8) (hk : k * 8 ≤ j ∧ j < k * 8 + 8) : p_sw s t u x h i a j = if k < i ∧ s 1 k = h then p_settle s t u x k h a j else s a j := by
  induction i with
  | zero => rw [p_sw, if_neg (by omega)]
  | succ i ih =>
    have ih1 := ih (fun c hc => h8 c (by omega))
    rw [p_sw, p_sw_later (a := 1) (by decide) (Nat.le_refl i)]
    by_cases hki : k = i
    · subst hki
      rw [if_neg (by omega)] at ih1
      by_cases h1 : s 1 k = h
      · rw [if_pos h1, if_pos ⟨by omega, h1⟩]
        exact p_settle_dcongr (p_sw_later (by decide) (Nat.le_refl k)) (p_sw_later (by decide) (Nat.le_refl k)) p_sw_3 (p_sw_10 (Nat.le_refl k)) ih1 ha
      · rw [if_neg h1, if_neg (fun z => h1 z.2)]; exact ih1
    · have e : (if k < i + 1 ∧ s 1 k = h then p_settle s t u x k h a j else s a j) = (if k < i ∧ s 1 k = h then p_settle s t u x k h a j else s a j) := by
        by_cases h2 : k < i ∧ s 1 k = h
        · rw [if_pos h2, if_pos ⟨by omega, h2.2⟩]
        · rw [if_neg h2, if_neg (fun z => h2 ⟨by omega, z.2⟩)]
      rw [e, ← ih1]
      by_cases h1 : s 1 i = h
      · rw [if_pos h1]
        have h10 : p_sw s t u x h i 10 i = s 10 i := p_sw_10 (Nat.le_refl i)
        have hl := h8 i (by omega) h1
        exact p_settle_dne ha (by rw [h10]; exact hl) (by rw [h10]; omega)
      · rw [if_neg h1]
theorem m_kp_old {m : Nat → Nat → Nat} {h i j : Nat} (hj : j < 32 * h) : m_kp m h i 6 j = m 6 j := by
  induction i with
  | zero => rfl
  | succ i ih => rw [m_kp, aw_u_nj (by omega), aw_u_nj (by omega), aw_u_nj (by omega), aw_u_nj (by omega), ih]
def m_ob (m : Nat → Nat → Nat) (k j : Nat) : Nat := if j = 0 then m 0 k else if j = 1 then m 1 k else if j = 2 then m 2 k else if m 0 k = 1 then m 3 k else 0
theorem m_kp_at {m : Nat → Nat → Nat} {h i k j : Nat} (hk : k < i) (hj : j < 4) : m_kp m h i 6 (32 * h + 4 * k + j) = m_ob m k j := by
  induction i with
  | zero => omega
  | succ i ih =>
    rw [m_kp, m_kp_row (a := 0) (by decide), m_kp_row (a := 1) (by decide), m_kp_row (a := 2) (by decide), m_kp_row (a := 3) (by decide)]
    by_cases hki : k = i
    · subst hki
      rcases (show j = 0 ∨ j = 1 ∨ j = 2 ∨ j = 3 by omega) with rfl | rfl | rfl | rfl <;> simp [aw_u, va_up, m_ob]
    · rw [aw_u_nj (by omega), aw_u_nj (by omega), aw_u_nj (by omega), aw_u_nj (by omega)]
      exact ih (by omega)
/-- the latest step up to an hour, one higher -/
def p_last (s : Nat → Nat → Nat) (c h : Nat) : Nat → Nat
  | 0 => 0
  | i + 1 => if s 11 (c * 8 + i) ≤ h then c * 8 + i + 1 else p_last s c h i
theorem p_last_congr {s z : Nat → Nat → Nat} {c h i : Nat} (he : ∀ j, j < i → s 11 (c * 8 + j) = z 11 (c * 8 + j)) : p_last s c h i = p_last z c h i := by
  induction i with
  | zero => rfl
  | succ i ih => rw [p_last, p_last, he i (by omega), ih (fun j hj => he j (by omega))]
theorem p_last_le {s : Nat → Nat → Nat} {c h i : Nat} (h0 : p_last s c h i ≠ 0) : ∃ j, j < i ∧ p_last s c h i = c * 8 + j + 1 := by
  induction i with
  | zero => exact absurd rfl h0
  | succ i ih =>
    rw [p_last] at h0 ⊢
    split
    · exact ⟨i, by omega, rfl⟩
    · rename_i hn
      rw [if_neg hn] at h0
      obtain ⟨j, hj, e⟩ := ih h0
      exact ⟨j, by omega, e⟩
/-- what the diary tells of a carter behind an hour -/
def zOb (s t : Nat → Nat → Nat) (k h j : Nat) : Nat :=
  if p_last s k h (s 10 k) = 0 then (if j = 2 then t 3 k else 0)
  else if j = 0 then (if s 14 (p_last s k h (s 10 k) - 1) = 0 then s 6 k else 1)
  else if j = 1 then (if s 14 (p_last s k h (s 10 k) - 1) = 0 then s 12 (p_last s k h (s 10 k) - 1) + 1 else 0)
  else if j = 2 then s 13 (p_last s k h (s 10 k) - 1)
  else s 14 (p_last s k h (s 10 k) - 1)
def zDk (s t y : Nat → Nat → Nat) (h k : Nat) : Prop :=
  (s 10 k = 0 → s 7 k = 0 ∧ h ≤ t 5 k ∧ s 2 k = t 3 k) ∧
  (s 10 k ≠ 0 → t 5 k < h ∧ s 13 (k * 8 + (s 10 k - 1)) = s 2 k ∧ (s 7 k ≠ 0 → s 14 (k * 8 + (s 10 k - 1)) = 0 ∧ s 12 (k * 8 + (s 10 k - 1)) = s 5 k) ∧ (s 7 k = 0 → s 14 (k * 8 + (s 10 k - 1)) = s 5 k + 1)) ∧
  (∀ i, i < s 10 k → s 11 (k * 8 + i) < h ∧ (s 14 (k * 8 + i) = 0 → s 7 k ≠ 0)) ∧
  (s 7 k = 0 → s 10 k + zrk y (t 1 k) (s 5 k) ≤ 7) ∧ s 10 k ≤ 8
def zDi (t y : Nat → Nat → Nat) (s b : Nat → Nat → Nat) (h : Nat) : Prop := ∀ k, k < t 6 0 → zDk s t y h k ∧ ∀ g j, g < h → j < 4 → b 6 (32 * g + 4 * k + j) = zOb s t k g j
/-- behind the latest hour the diary tells what is -/
theorem zOb_now {s b t y : Nat → Nat → Nat} {h k j : Nat} (hD : zDk s t y (h + 1) k) (hR : zRk s b t (h + 1) k) (hj : j < 4) : zOb s t k h j = m_ob b k j := by
  obtain ⟨d1, d2, d3, d4, d5⟩ := hD
  by_cases h0 : s 10 k = 0
  · obtain ⟨e1, e2, e3⟩ := d1 h0
    have hl : p_last s k h (s 10 k) = 0 := by rw [h0]; rfl
    rw [zOb, if_pos hl]
    rcases hR with ⟨a1, -⟩ | ⟨b1, b2, b3, b4, b5, b6, b7, b8, b9, b10⟩
    · exact absurd e1 a1
    · rw [if_neg (by omega)] at b9
      unfold m_ob
      rw [b9, b5, b7, e3]
      rcases (show j = 0 ∨ j = 1 ∨ j = 2 ∨ j = 3 by omega) with rfl | rfl | rfl | rfl <;> simp
  · obtain ⟨h5, e1, e2, e3⟩ := d2 h0
    have hl : p_last s k h (s 10 k) = k * 8 + (s 10 k - 1) + 1 := by
      obtain ⟨q, hq⟩ : ∃ q, s 10 k = q + 1 := ⟨s 10 k - 1, by omega⟩
      have h11 := (d3 q (by omega)).1
      rw [hq, p_last, if_pos (by omega)]; rfl
    have hm : zOb s t k h j = if j = 0 then (if s 14 (k * 8 + (s 10 k - 1)) = 0 then s 6 k else 1) else if j = 1 then (if s 14 (k * 8 + (s 10 k - 1)) = 0 then s 12 (k * 8 + (s 10 k - 1)) + 1 else 0) else if j = 2 then s 13 (k * 8 + (s 10 k - 1)) else s 14 (k * 8 + (s 10 k - 1)) := by
      rw [zOb, if_neg (by omega), hl]; rfl
    rw [hm, e1]
    rcases hR with ⟨a1, a2, a3, a4, a5, a6, a7, a8, a9⟩ | ⟨b1, b2, b3, b4, b5, b6, b7, b8, b9, b10⟩
    · obtain ⟨f1, f2⟩ := e2 a1
      rw [f1, f2]
      unfold m_ob
      rw [a5, a4, a6]
      rcases (show j = 0 ∨ j = 1 ∨ j = 2 ∨ j = 3 by omega) with rfl | rfl | rfl | rfl <;> simp [a8]
    · have f1 := e3 b1
      rw [if_pos h5] at b9
      rw [f1]
      unfold m_ob
      rw [b9, b5, b7, b6]
      rcases (show j = 0 ∨ j = 1 ∨ j = 2 ∨ j = 3 by omega) with rfl | rfl | rfl | rfl <;> simp
theorem zOb_old {s z t : Nat → Nat → Nat} {k g j n : Nat} (hl : z 10 k = s 10 k ∨ (z 10 k = s 10 k + 1 ∧ g < z 11 (k * 8 + s 10 k))) (hn : s 10 k ≤ n) (hr : ∀ a i, (a = 11 ∨ a = 12 ∨ a = 13 ∨ a = 14) → i < s 10 k → z a (k * 8 + i) = s a (k * 8 + i)) (h6 : (∃ i, i < s 10 k ∧ s 14 (k * 8 + i) = 0) → z 6 k = s 6 k) : zOb z t k g j = zOb s t k g j := by
  have e1 : p_last z k g (s 10 k) = p_last s k g (s 10 k) := p_last_congr (fun i hi => hr 11 i (by decide) hi)
  have e : p_last z k g (z 10 k) = p_last s k g (s 10 k) := by
    rcases hl with hl | ⟨hl, h11⟩
    · rw [hl, e1]
    · rw [hl, p_last, if_neg (by omega), e1]
  unfold zOb
  rw [e]
  by_cases h0 : p_last s k g (s 10 k) = 0
  · rw [if_pos h0, if_pos h0]
  · rw [if_neg h0, if_neg h0]
    obtain ⟨i, hi, el⟩ := p_last_le h0
    rw [el, Nat.add_sub_cancel, hr 14 i (by decide) hi, hr 12 i (by decide) hi, hr 13 i (by decide) hi]
    by_cases h14 : s 14 (k * 8 + i) = 0
    · rw [h6 ⟨i, hi, h14⟩]
    · simp [h14]
/-- an hour, for one carter's diary -/
theorem zDk.hour {s b t u x y : Nat → Nat → Nat} {h k : Nat} (hD : zDk s t y h k) (hR : zRel s b t h) (hT : zTok t) (hX : zXY x y) (hW : zWf s t 5000) (hAll : ∀ c, c < t 6 0 → zDk s t y h c) (hh : h < 40) (hk : k < t 6 0) : zDk (p_hour s t u x h) t y (h + 1) k ∧ ∀ g j, g < h → zOb (p_hour s t u x h) t k g j = zOb s t k g j := by
  have hk8 : k < 8 := by have := hT.1; omega
  have hn : s 0 0 = t 6 0 := hW.1
  have hlen : ∀ c, c < t 6 0 → s 1 c = h → s 10 c < 8 := fun c hc h1 => by
    rcases hR.1 c hc with ⟨a1, a2, -⟩ | ⟨b1, -⟩
    · omega
    · have := (hAll c hc).2.2.2.1 b1; omega
  have gA : ∀ a, a ≠ 0 → a ≠ 3 → p_gather s h a = s a := fun a h0 h3 => p_gather_row h0 h3
  have C : ∀ a, (a = 1 ∨ a = 2 ∨ a = 5 ∨ a = 6 ∨ a = 7 ∨ a = 8) → p_hour s t u x h a k = if s 1 k = h then p_settle (p_gather s h) t u x k h a k else s a k := by
    intro a ha
    rw [p_hour, p_sw_col ha, hn, gA 1 (by decide) (by decide)]
    by_cases h1 : s 1 k = h
    · rw [if_pos ⟨hk, h1⟩, if_pos h1]
    · rw [if_neg (fun z => h1 z.2), if_neg h1, gA a (by omega) (by omega)]
  have C10 : p_hour s t u x h 10 k = if s 1 k = h then s 10 k + 1 else s 10 k := by
    rw [p_hour, p_sw_len (fun h1 => by rw [gA 10 (by decide) (by decide)]; rw [gA 1 (by decide) (by decide)] at h1; exact hlen k hk h1), gA 1 (by decide) (by decide), gA 10 (by decide) (by decide), hn]
    by_cases h1 : s 1 k = h
    · rw [if_pos ⟨hk, h1⟩, if_pos h1]
    · rw [if_neg (fun z => h1 z.2), if_neg h1]
  have Cd : ∀ a j, (a = 11 ∨ a = 12 ∨ a = 13 ∨ a = 14) → (k * 8 ≤ j ∧ j < k * 8 + 8) → p_hour s t u x h a j = if s 1 k = h then p_settle (p_gather s h) t u x k h a j else s a j := by
    intro a j ha hj
    rw [p_hour, p_sw_d ha (fun c hc h1 => by rw [gA 10 (by decide) (by decide)]; rw [gA 1 (by decide) (by decide)] at h1; exact hlen c (by omega) h1) hj, gA 1 (by decide) (by decide), hn]
    by_cases h1 : s 1 k = h
    · rw [if_pos ⟨hk, h1⟩, if_pos h1]
    · rw [if_neg (fun z => h1 z.2), if_neg h1, gA a (by omega) (by omega)]
  have hRk := hR.1 k hk
  obtain ⟨d1, d2, d3, d4, d5⟩ := hD
  by_cases h1 : s 1 k = h
  · -- it arrives
    rcases hRk with ⟨a1, a2, -⟩ | ⟨b1, b2, b3, b4, b5, b6, b7, b8, b9, b10⟩
    · omega
    · have hl := hlen k hk h1
      obtain ⟨q10, q11, q12, q13, q14⟩ := p_settle_d (s := p_gather s h) (t := t) (u := u) (x := x) (c := k) (h := h) (by rw [gA 10 (by decide) (by decide)]; exact hl)
      rw [gA 10 (by decide) (by decide), gA 11 (by decide) (by decide)] at q11
      rw [gA 10 (by decide) (by decide), gA 12 (by decide) (by decide), gA 5 (by decide) (by decide)] at q12
      rw [gA 10 (by decide) (by decide), gA 13 (by decide) (by decide)] at q13
      rw [gA 10 (by decide) (by decide), gA 5 (by decide) (by decide), gA 7 (by decide) (by decide), gA 14 (by decide) (by decide)] at q14
      have P10 : p_hour s t u x h 10 k = s 10 k + 1 := by rw [C10, if_pos h1]
      have P11 : ∀ i, i < 8 → p_hour s t u x h 11 (k * 8 + i) = if i = s 10 k then h else s 11 (k * 8 + i) := fun i hi => by
        rw [Cd 11 _ (by decide) (by omega), if_pos h1, q11]
        by_cases hi2 : i = s 10 k
        · rw [if_pos (by omega), if_pos hi2]
        · rw [if_neg (by omega), if_neg hi2]
      have P12 : ∀ i, i < 8 → p_hour s t u x h 12 (k * 8 + i) = if i = s 10 k then s 5 k else s 12 (k * 8 + i) := fun i hi => by
        rw [Cd 12 _ (by decide) (by omega), if_pos h1, q12]
        by_cases hi2 : i = s 10 k
        · rw [if_pos (by omega), if_pos hi2]
        · rw [if_neg (by omega), if_neg hi2]
      have P13 : ∀ i, i < 8 → p_hour s t u x h 13 (k * 8 + i) = if i = s 10 k then p_hour s t u x h 2 k else s 13 (k * 8 + i) := fun i hi => by
        rw [Cd 13 _ (by decide) (by omega), if_pos h1, q13, C 2 (by decide), if_pos h1]
        by_cases hi2 : i = s 10 k
        · rw [if_pos (by omega), if_pos hi2]
        · rw [if_neg (by omega), if_neg hi2]
      have Q14 : (p_hour s t u x h 7 k = h + 1 ∧ p_hour s t u x h 5 k = s 5 k ∧ ∀ i, i < 8 → p_hour s t u x h 14 (k * 8 + i) = if i = s 10 k then 0 else s 14 (k * 8 + i)) ∨ (x 2 (s 5 k * 8 + t 1 k) ≠ 0 ∧ s 5 k ≠ t 1 k ∧ p_hour s t u x h 7 k = 0 ∧ p_hour s t u x h 5 k = x 2 (s 5 k * 8 + t 1 k) - 1 ∧ ∀ i, i < 8 → p_hour s t u x h 14 (k * 8 + i) = if i = s 10 k then x 2 (s 5 k * 8 + t 1 k) else s 14 (k * 8 + i)) := by
        rw [C 7 (by decide), C 5 (by decide), if_pos h1, if_pos h1]
        rcases q14 with ⟨v1, v2, v3⟩ | ⟨v0, v1, v2, v3, v4⟩
        · left
          refine ⟨v1, v2, fun i hi => ?_⟩
          rw [Cd 14 _ (by decide) (by omega), if_pos h1, v3]
          by_cases hi2 : i = s 10 k
          · rw [if_pos (by omega), if_pos hi2]
          · rw [if_neg (by omega), if_neg hi2]
        · right
          refine ⟨v0, v1, by rw [v2, b1], v3, fun i hi => ?_⟩
          rw [Cd 14 _ (by decide) (by omega), if_pos h1, v4]
          by_cases hi2 : i = s 10 k
          · rw [if_pos (by omega), if_pos hi2]
          · rw [if_neg (by omega), if_neg hi2]
      have n14 : ∀ i, i < s 10 k → s 14 (k * 8 + i) ≠ 0 := fun i hi z => (d3 i hi).2 z b1
      refine ⟨⟨fun z => by omega, fun _ => ?_, fun i hi => ?_, fun h7 => ?_, by omega⟩, fun g j hg => ?_⟩
      · rw [P10, Nat.add_sub_cancel, P13 _ hl, if_pos rfl, P12 _ hl, if_pos rfl]
        refine ⟨by omega, rfl, fun h7 => ?_, fun h7 => ?_⟩
        · rcases Q14 with ⟨v1, v2, v3⟩ | ⟨v0, v1, v2, v3, v4⟩
          · rw [v3 _ hl, if_pos rfl, v2]; exact ⟨rfl, rfl⟩
          · exact absurd v2 h7
        · rcases Q14 with ⟨v1, v2, v3⟩ | ⟨v0, v1, v2, v3, v4⟩
          · omega
          · rw [v4 _ hl, if_pos rfl, v3]; omega
      · rw [P10] at hi
        refine ⟨?_, fun z => ?_⟩
        · rw [P11 i (by omega)]
          split
          · omega
          · have := (d3 i (by omega)).1; omega
        · rcases Q14 with ⟨v1, v2, v3⟩ | ⟨v0, v1, v2, v3, v4⟩
          · omega
          · rw [v4 i (by omega)] at z
            by_cases hi2 : i = s 10 k
            · rw [if_pos hi2] at z; exact absurd z v0
            · rw [if_neg hi2] at z; exact absurd z (n14 i (by omega))
      · rcases Q14 with ⟨v1, v2, v3⟩ | ⟨v0, v1, v2, v3, v4⟩
        · omega
        · rw [P10, v3]
          have hp8 := (hW.2.2.2.1 k hk8).2.2.1
          have hg8 := (hT.2.2 k hk8).2.1
          obtain ⟨x1, x2⟩ := hX (s 5 k) (t 1 k) hp8 hg8 v1
          have hy : y 1 (8 * s 5 k + t 1 k) < 9999 := by
            rcases Nat.lt_or_ge (y 1 (8 * s 5 k + t 1 k)) 9999 with z | z
            · exact z
            · exact absurd (x1 z) v0
          obtain ⟨y1, y2, y3, y4, y5⟩ := x2 hy
          have hle : m_next y (s 5 k) (t 1 k) ≤ 8 := m_nx_le
          rw [y1]
          have := zrk_lt (y := y) (g := t 1 k) (p := s 5 k) (q := m_next y (s 5 k) (t 1 k) - 1) (by omega) (by omega)
          have := d4 b1
          omega
      · refine zOb_old (n := 8) (Or.inr ⟨P10, by rw [P11 _ hl, if_pos rfl]; exact hg⟩) d5 (fun a i ha hi => ?_) (fun ⟨i, hi, z⟩ => absurd z (n14 i hi))
        rcases ha with rfl | rfl | rfl | rfl
        · rw [P11 i (by omega), if_neg (by omega)]
        · rw [P12 i (by omega), if_neg (by omega)]
        · rw [P13 i (by omega), if_neg (by omega)]
        · rcases Q14 with ⟨v1, v2, v3⟩ | ⟨v0, v1, v2, v3, v4⟩
          · rw [v3 i (by omega), if_neg (by omega)]
          · rw [v4 i (by omega), if_neg (by omega)]
  · have P10 : p_hour s t u x h 10 k = s 10 k := by rw [C10, if_neg h1]
    have Pd : ∀ a i, (a = 11 ∨ a = 12 ∨ a = 13 ∨ a = 14) → i < 8 → p_hour s t u x h a (k * 8 + i) = s a (k * 8 + i) := fun a i ha hi => by rw [Cd a _ ha (by omega), if_neg h1]
    have P7 : p_hour s t u x h 7 k = s 7 k := by rw [C 7 (by decide), if_neg h1]
    have P5 : p_hour s t u x h 5 k = s 5 k := by rw [C 5 (by decide), if_neg h1]
    have P2 : p_hour s t u x h 2 k = s 2 k := by rw [C 2 (by decide), if_neg h1]
    have P6 : p_hour s t u x h 6 k = s 6 k := by rw [C 6 (by decide), if_neg h1]
    refine ⟨⟨fun z => ?_, fun z => ?_, fun i hi => ?_, fun z => ?_, by rw [P10]; exact d5⟩, fun g j hg => zOb_old (n := 8) (Or.inl P10) d5 (fun a i ha hi => Pd a i ha (by omega)) (fun _ => P6)⟩
    · rw [P10] at z
      obtain ⟨e1, e2, e3⟩ := d1 z
      rw [P7, P2]
      rcases hRk with ⟨a1, -⟩ | ⟨b1, b2, b3, b4, b5, b6, b7, b8, b9, b10⟩
      · exact absurd e1 a1
      · exact ⟨e1, by omega, e3⟩
    · rw [P10] at z ⊢
      obtain ⟨e0, e1, e2, e3⟩ := d2 z
      rw [Pd 13 _ (by decide) (by omega), Pd 14 _ (by decide) (by omega), Pd 12 _ (by decide) (by omega), P2, P7, P5]
      exact ⟨by omega, e1, e2, e3⟩
    · rw [P10] at hi
      rw [Pd 11 _ (by decide) (by omega), Pd 14 _ (by decide) (by omega), P7]
      exact ⟨by have := (d3 i hi).1; omega, (d3 i hi).2⟩
    · rw [P7] at z
      rw [P10, P5]; exact d4 z
