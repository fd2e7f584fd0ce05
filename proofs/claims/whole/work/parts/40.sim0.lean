/-! THE TWO RUNS: closed forms -/
def zc (f : Nat → Bool) : Nat → Nat
  | 0 => 0
  | i + 1 => zc f i + (if f i = true then 1 else 0)
theorem zc_congr {f g : Nat → Bool} {i : Nat} (h : ∀ j, j < i → f j = g j) : zc f i = zc g i := by
  induction i with
  | zero => rfl
  | succ i ih => rw [zc, zc, ih (fun j hj => h j (by omega)), h i (by omega)]
theorem zc_mono {f g : Nat → Bool} {i : Nat} (h : ∀ j, j < i → f j = true → g j = true) : zc f i ≤ zc g i := by
  induction i with
  | zero => exact Nat.le_refl _
  | succ i ih =>
    rw [zc, zc]
    have h1 := ih (fun j hj => h j (by omega))
    have h2 := h i (by omega)
    cases hf : f i <;> cases hg : g i <;> simp_all
    omega
def zfst (f : Nat → Bool) : Nat → Nat
  | 0 => 0
  | i + 1 => if zfst f i ≠ 0 then zfst f i else if f i = true then i + 1 else 0
def zlst (f : Nat → Bool) : Nat → Nat
  | 0 => 0
  | j + 1 => if f (7 - j) = true then 7 - j + 1 else zlst f j
theorem zfst_zlst8 : ∀ b0 b1 b2 b3 b4 b5 b6 b7 : Bool, (if b0 = true then 1 else if b1 = true then 2 else if b2 = true then 3 else if b3 = true then 4 else if b4 = true then 5 else if b5 = true then 6 else if b6 = true then 7 else if b7 = true then 8 else 0) = zfst (fun j => match j with | 0 => b0 | 1 => b1 | 2 => b2 | 3 => b3 | 4 => b4 | 5 => b5 | 6 => b6 | _ => b7) 8 := by decide
theorem zlst_congr {f g : Nat → Bool} (h : ∀ j, j < 8 → f j = g j) {i : Nat} : zlst f i = zlst g i := by
  induction i with
  | zero => rfl
  | succ i ih => rw [zlst, zlst, ih, h (7 - i) (by omega)]
theorem zfst_congr {f g : Nat → Bool} {i : Nat} (h : ∀ j, j < i → f j = g j) : zfst f i = zfst g i := by
  induction i with
  | zero => rfl
  | succ i ih => rw [zfst, zfst, ih (fun j hj => h j (by omega)), h i (by omega)]
theorem zfst_zlst (f : Nat → Bool) : zfst f 8 = zlst f 8 := by
  have key : ∀ b0 b1 b2 b3 b4 b5 b6 b7 : Bool, zfst (fun j => match j with | 0 => b0 | 1 => b1 | 2 => b2 | 3 => b3 | 4 => b4 | 5 => b5 | 6 => b6 | _ => b7) 8 = zlst (fun j => match j with | 0 => b0 | 1 => b1 | 2 => b2 | 3 => b3 | 4 => b4 | 5 => b5 | 6 => b6 | _ => b7) 8 := by decide
  have h : ∀ j, j < 8 → f j = (fun j => match j with | 0 => f 0 | 1 => f 1 | 2 => f 2 | 3 => f 3 | 4 => f 4 | 5 => f 5 | 6 => f 6 | _ => f 7) j := by
    intro j hj
    match j, hj with
    | 0, _ => rfl
    | 1, _ => rfl
    | 2, _ => rfl
    | 3, _ => rfl
    | 4, _ => rfl
    | 5, _ => rfl
    | 6, _ => rfl
    | 7, _ => rfl
    | j + 8, hj => omega
  rw [zfst_congr h, zlst_congr h]
  exact key _ _ _ _ _ _ _ _
theorem zfst_0 {f : Nat → Bool} {i : Nat} : zfst f i = 0 ↔ ∀ j, j < i → f j = false := by
  induction i with
  | zero => exact ⟨fun _ j hj => by omega, fun _ => rfl⟩
  | succ i ih =>
    rw [zfst]
    constructor
    · intro h j hj
      by_cases h0 : zfst f i = 0
      · rw [if_neg (fun z => z h0)] at h
        by_cases hji : j = i
        · subst hji
          cases hf : f j with
          | false => rfl
          | true => rw [if_pos hf] at h; omega
        · exact ih.mp h0 j (by omega)
      · rw [if_pos h0] at h; exact absurd h h0
    · intro h
      have h0 := ih.mpr (fun j hj => h j (by omega))
      rw [if_neg (fun z => z h0), if_neg (by rw [h i (by omega)]; decide)]
-- the class's gathering
theorem p_g2_3 {s : Nat → Nat → Nat} {h i p : Nat} : p_g2 s h i 3 p = s 3 p + zc (fun j => (decide (s 1 j = h) || decide (s 7 j ≠ 0)) && decide (s 5 j = p)) i := by
  induction i with
  | zero => rfl
  | succ i ih =>
    rw [p_g2, zc, p_g2_row (a := 1) (by decide), p_g2_row (a := 7) (by decide), p_g2_row (a := 5) (by decide)]
    by_cases h1 : s 1 i = h ∨ s 7 i ≠ 0
    · rw [if_pos h1]
      have hb : (decide (s 1 i = h) || decide (s 7 i ≠ 0)) = true := by simpa using h1
      by_cases hp : p = s 5 i
      · subst hp
        rw [aw_u_eq, ih, hb]; simp; omega
      · rw [aw_u_nj hp, ih, hb]; simp [show ¬ s 5 i = p from fun z => hp z.symm]
    · rw [if_neg h1, ih]
      have hb : (decide (s 1 i = h) || decide (s 7 i ≠ 0)) = false := by simpa using h1
      rw [hb]; simp
theorem p_gather_3 {s : Nat → Nat → Nat} {h p : Nat} (hp : p < 8) : p_gather s h 3 p = zc (fun j => (decide (s 1 j = h) || decide (s 7 j ≠ 0)) && decide (s 5 j = p)) (s 0 0) := by
  rw [p_gather, p_g3_row (by decide), p_g2_3, p_g1_lt hp, p_g1_row (a := 1) (by decide), p_g1_row (a := 7) (by decide), p_g1_row (a := 5) (by decide), Nat.zero_add]
theorem p_gather_row {s : Nat → Nat → Nat} {h a : Nat} (h0 : a ≠ 0) (h3 : a ≠ 3) : p_gather s h a = s a := by rw [p_gather, p_g3_row h0, p_g2_row h3, p_g1_row h3]
theorem p_g3_met {s : Nat → Nat → Nat} {h i : Nat} : p_g3 s h i 0 10 = (if s 0 10 = 0 ∧ zfst (fun j => decide (1 < s 3 j)) i ≠ 0 then h + 1 else s 0 10) ∧ p_g3 s h i 0 11 = (if s 0 10 = 0 ∧ zfst (fun j => decide (1 < s 3 j)) i ≠ 0 then zfst (fun j => decide (1 < s 3 j)) i else s 0 11) := by
  induction i with
  | zero => exact ⟨by rw [p_g3, if_neg (fun z => z.2 rfl)], by rw [p_g3, if_neg (fun z => z.2 rfl)]⟩
  | succ i ih =>
    obtain ⟨i1, i2⟩ := ih
    by_cases h0 : s 0 10 = 0
    · by_cases hf : zfst (fun j => decide (1 < s 3 j)) i = 0
      · rw [if_neg (fun z => z.2 hf)] at i1 i2
        by_cases h1 : 1 < s 3 i
        · have e : zfst (fun j => decide (1 < s 3 j)) (i + 1) = i + 1 := by rw [zfst, if_neg (fun z => z hf), if_pos (by simpa using h1)]
          rw [e, p_g3, p_g3_row (a := 3) (by decide), if_pos ⟨by rw [i1]; exact h0, h1⟩]
          refine ⟨?_, ?_⟩
          · rw [aw_u_nj (by decide), aw_u_eq, if_pos ⟨h0, by omega⟩]
          · rw [aw_u_eq, if_pos ⟨h0, by omega⟩]
        · have e : zfst (fun j => decide (1 < s 3 j)) (i + 1) = 0 := by rw [zfst, if_neg (fun z => z hf), if_neg (by simpa using h1)]
          rw [e, p_g3, p_g3_row (a := 3) (by decide), if_neg (fun z => h1 z.2), if_neg (fun z => z.2 rfl), if_neg (fun z => z.2 rfl)]
          exact ⟨i1, i2⟩
      · have e : zfst (fun j => decide (1 < s 3 j)) (i + 1) = zfst (fun j => decide (1 < s 3 j)) i := by rw [zfst, if_pos hf]
        rw [if_pos ⟨h0, hf⟩] at i1 i2
        rw [e, p_g3, if_neg (fun z => by rw [i1] at z; omega), if_pos ⟨h0, hf⟩, if_pos ⟨h0, hf⟩]
        exact ⟨i1, i2⟩
    · rw [if_neg (fun z => h0 z.1)] at i1 i2
      rw [p_g3, if_neg (fun z => h0 (by rw [i1] at z; exact z.1)), if_neg (fun z => h0 z.1), if_neg (fun z => h0 z.1)]
      exact ⟨i1, i2⟩
/-- settling: what stands in the carter's own column -/
theorem p_settle_congr {s z t u x : Nat → Nat → Nat} {c h : Nat} (h1 : s 1 c = z 1 c) (h2 : s 2 c = z 2 c) (h5 : s 5 c = z 5 c) (h6 : s 6 c = z 6 c) (h7 : s 7 c = z 7 c) (h8 : s 8 c = z 8 c) (h3 : s 3 = z 3) (a : Nat) (ha : a = 1 ∨ a = 2 ∨ a = 5 ∨ a = 6 ∨ a = 7 ∨ a = 8) : p_settle s t u x c h a c = p_settle z t u x c h a c := by
  have ht : ∀ p, p_told s t u c h p = p_told z t u c h p := fun p => by unfold p_told; rw [h3]
  unfold p_settle p_fin
  rw [h5, ht, h2]
  repeat' split
  all_goals
    rw [p_note_row (by omega), p_note_row (by omega)]
    rcases ha with rfl | rfl | rfl | rfl | rfl | rfl <;> simp [aw_u, va_up, h1, h2, h5, h6, h7, h8]
theorem p_sw_3 {s t u x : Nat → Nat → Nat} {h i : Nat} : p_sw s t u x h i 3 = s 3 := by
  induction i with
  | zero => rfl
  | succ i ih =>
    rw [p_sw]
    split
    · rw [p_settle_03 (Or.inr rfl), ih]
    · exact ih
theorem p_sw_0 {s t u x : Nat → Nat → Nat} {h i : Nat} : p_sw s t u x h i 0 = s 0 := by
  induction i with
  | zero => rfl
  | succ i ih =>
    rw [p_sw]
    split
    · rw [p_settle_03 (Or.inl rfl), ih]
    · exact ih
theorem p_sw_col {s t u x : Nat → Nat → Nat} {h i j a : Nat} (ha : a = 1 ∨ a = 2 ∨ a = 5 ∨ a = 6 ∨ a = 7 ∨ a = 8) : p_sw s t u x h i a j = if j < i ∧ s 1 j = h then p_settle s t u x j h a j else s a j := by
  induction i with
  | zero => rw [p_sw, if_neg (by omega)]
  | succ i ih =>
    rw [p_sw]
    have l : ∀ b, b = 1 ∨ b = 2 ∨ b = 5 ∨ b = 6 ∨ b = 7 ∨ b = 8 → p_sw s t u x h i b i = s b i := fun b hb => p_sw_later hb (Nat.le_refl i)
    rw [l 1 (by decide)]
    by_cases hj : j = i
    · subst hj
      by_cases h1 : s 1 j = h
      · rw [if_pos h1, if_pos ⟨by omega, h1⟩]
        exact p_settle_congr (l 1 (by decide)) (l 2 (by decide)) (l 5 (by decide)) (l 6 (by decide)) (l 7 (by decide)) (l 8 (by decide)) p_sw_3 a ha
      · rw [if_neg h1, if_neg (fun z => h1 z.2)]; exact l a ha
    · have e : (if j < i + 1 ∧ s 1 j = h then p_settle s t u x j h a j else s a j) = (if j < i ∧ s 1 j = h then p_settle s t u x j h a j else s a j) := by
        by_cases h2 : j < i ∧ s 1 j = h
        · rw [if_pos h2, if_pos ⟨by omega, h2.2⟩]
        · rw [if_neg h2, if_neg (fun z => h2 ⟨by omega, z.2⟩)]
      rw [e, ← ih]
      split
      · rw [p_settle_ne ha hj]
      · rfl
theorem p_sw_4 {s t u x : Nat → Nat → Nat} {h i p : Nat} : p_sw s t u x h i 4 p = s 4 p + zc (fun j => decide (s 1 j = h) && decide (s 5 j = p)) i := by
  induction i with
  | zero => rfl
  | succ i ih =>
    rw [p_sw, zc, p_sw_later (a := 1) (by decide) (Nat.le_refl i)]
    by_cases h1 : s 1 i = h
    · rw [if_pos h1, p_settle_4, p_sw_later (a := 5) (by decide) (Nat.le_refl i)]
      unfold va_up
      by_cases hp : p = s 5 i
      · subst hp; rw [if_pos rfl, ih]; simp [h1]; omega
      · rw [if_neg hp, ih]; simp [show ¬ s 5 i = p from fun z => hp z.symm]
    · rw [if_neg h1, ih]; simp [h1]
-- the reference's
theorem m_g2_4 {m : Nat → Nat → Nat} {h i a : Nat} (h1 : a ≠ 1) (h7 : a ≠ 7) (h8 : a ≠ 8) : m_g2 m h i a = m a := m_g2_row h1 h7 h8
theorem m_g2_8c {m : Nat → Nat → Nat} {h i p : Nat} (hq : ∀ j, j < i → m 4 j = h → m 3 j ≠ 0) : m_g2 m h i 8 p = m 8 p + zc (fun j => decide (m 4 j = h) && decide (m 3 j = p + 1)) i := by
  induction i with
  | zero => rfl
  | succ i ih =>
    rw [m_g2, m_pr_row (by decide), m_ar, m_g2_row (a := 4) (by decide) (by decide) (by decide), m_g2_row (a := 3) (by decide) (by decide) (by decide), zc]
    have ih1 := ih (fun j hj => hq j (by omega))
    by_cases h4 : m 4 i = h
    · rw [if_pos h4]
      have h3 := hq i (by omega) h4
      by_cases hp : p = m 3 i - 1
      · subst hp
        rw [aw_u_eq, ih1, if_pos (by rw [Bool.and_eq_true, decide_eq_true_eq, decide_eq_true_eq]; exact ⟨h4, by omega⟩)]; omega
      · rw [aw_u_nj hp, aw_u_ne (by decide), ih1]; simp [show ¬ m 3 i = p + 1 by omega]
    · rw [if_neg h4, ih1]; simp [h4]
theorem m_g2_7c {m : Nat → Nat → Nat} {h i p : Nat} : m_g2 m h i 7 p = m 7 p + zc (fun j => decide ((if m 4 j = h then m 3 j else m 1 j) = p + 1)) i := by
  induction i with
  | zero => rfl
  | succ i ih =>
    rw [m_g2, m_pr, zc]
    have e7 : m_ar (m_g2 m h i) h i 7 = m_g2 m h i 7 := m_ar_row (by decide) (by decide)
    have e1 : m_ar (m_g2 m h i) h i 1 i = if m 4 i = h then m 3 i else m 1 i := by
      rw [m_ar, m_g2_row (a := 4) (by decide) (by decide) (by decide), m_g2_row (a := 3) (by decide) (by decide) (by decide)]
      by_cases h4 : m 4 i = h
      · rw [if_pos h4, if_pos h4, aw_u_ne (by decide), aw_u_eq]
      · rw [if_neg h4, if_neg h4, m_g2_1, if_neg (by omega)]
    rw [e1]
    generalize (if m 4 i = h then m 3 i else m 1 i) = w
    by_cases hw : w = 0
    · subst hw
      rw [if_neg (fun z => z rfl), e7, ih]; simp
    · rw [if_pos hw]
      by_cases hp : p = w - 1
      · subst hp
        rw [aw_u_eq, e7, ih, if_pos (by rw [decide_eq_true_eq]; omega)]; omega
      · rw [aw_u_nj hp, e7, ih]; simp [show ¬ w = p + 1 by omega]
theorem m_g3_met {m : Nat → Nat → Nat} {h i : Nat} (h9 : m 9 0 ≤ h) : m_g3 m h i 9 0 = (if m 9 0 = 0 ∧ zlst (fun j => decide (1 < m 7 j)) i ≠ 0 then h + 1 else m 9 0) ∧ m_g3 m h i 9 1 = (if m 9 0 = 0 ∧ zlst (fun j => decide (1 < m 7 j)) i ≠ 0 then zlst (fun j => decide (1 < m 7 j)) i else m 9 1) := by
  induction i with
  | zero => exact ⟨by rw [m_g3, if_neg (fun z => z.2 rfl)], by rw [m_g3, if_neg (fun z => z.2 rfl)]⟩
  | succ i ih =>
    obtain ⟨i1, i2⟩ := ih
    by_cases h0 : m 9 0 = 0
    · by_cases h1 : 1 < m 7 (7 - i)
      · have c2 : m_g3 m h i 9 0 = 0 ∨ m_g3 m h i 9 0 = h + 1 := by
          rw [i1]
          split
          · right; rfl
          · left; exact h0
        have e : zlst (fun j => decide (1 < m 7 j)) (i + 1) = 7 - i + 1 := by rw [zlst, if_pos (by simpa using h1)]
        rw [e, m_g3, m_g3_row (a := 7) (by decide), if_pos ⟨h1, c2⟩]
        refine ⟨?_, ?_⟩
        · rw [aw_u_nj (by decide), aw_u_eq, if_pos ⟨h0, by omega⟩]
        · rw [aw_u_eq, if_pos ⟨h0, by omega⟩]
      · have e : zlst (fun j => decide (1 < m 7 j)) (i + 1) = zlst (fun j => decide (1 < m 7 j)) i := by rw [zlst, if_neg (by simpa using h1)]
        rw [e, m_g3, m_g3_row (a := 7) (by decide), if_neg (fun z => h1 z.1)]
        exact ⟨i1, i2⟩
    · rw [if_neg (fun z => h0 z.1)] at i1 i2
      rw [m_g3, if_neg (fun z => by rw [i1] at z; omega), if_neg (fun z => h0 z.1), if_neg (fun z => h0 z.1)]
      exact ⟨i1, i2⟩
theorem m_goes_congr {m z t u y : Nat → Nat → Nat} {k h : Nat} (hc : ∀ a, a < 6 → m a k = z a k) (h7 : m 7 = z 7) (a : Nat) (ha : a < 6) : m_goes m t u y k h a k = m_goes z t u y k h a k := by
  have ht : ∀ p, m_told m t u k h p = m_told z t u k h p := fun p => by unfold m_told; rw [h7]
  have h1 := hc 1 (by decide)
  have h2 := hc 2 (by decide)
  have h0 := hc 0 (by decide)
  have h3 := hc 3 (by decide)
  have h4 := hc 4 (by decide)
  have h5 := hc 5 (by decide)
  unfold m_goes m_stays
  rw [h1, ht, h2]
  repeat' split
  all_goals
    rcases (show a = 0 ∨ a = 1 ∨ a = 2 ∨ a = 3 ∨ a = 4 ∨ a = 5 by omega) with rfl | rfl | rfl | rfl | rfl | rfl <;> simp [aw_u, va_up, h0, h1, h2, h3, h4, h5]
theorem m_sw_row {m t u y : Nat → Nat → Nat} {h i a : Nat} (ha : 6 ≤ a) : m_sw m t u y h i a = m a := by
  induction i with
  | zero => rfl
  | succ i ih =>
    rw [m_sw]
    split
    · rw [m_goes_row ha, ih]
    · exact ih
theorem m_sw_later {m t u y : Nat → Nat → Nat} {h i a j : Nat} (hj : i ≤ j) : m_sw m t u y h i a j = m a j := by
  induction i with
  | zero => rfl
  | succ i ih =>
    rw [m_sw]
    split
    · rw [m_goes_ne (by omega)]; exact ih (by omega)
    · exact ih (by omega)
theorem m_sw_col {m t u y : Nat → Nat → Nat} {h i j a : Nat} (ha : a < 6) : m_sw m t u y h i a j = if j < i ∧ m 4 j = h then m_goes m t u y j h a j else m a j := by
  induction i with
  | zero => rw [m_sw, if_neg (by omega)]
  | succ i ih =>
    rw [m_sw, m_sw_later (a := 4) (Nat.le_refl i)]
    by_cases hj : j = i
    · subst hj
      by_cases h1 : m 4 j = h
      · rw [if_pos h1, if_pos ⟨by omega, h1⟩]
        exact m_goes_congr (fun a _ => m_sw_later (Nat.le_refl j)) (m_sw_row (by decide)) a ha
      · rw [if_neg h1, if_neg (fun z => h1 z.2)]; exact m_sw_later (Nat.le_refl j)
    · have e : (if j < i + 1 ∧ m 4 j = h then m_goes m t u y j h a j else m a j) = (if j < i ∧ m 4 j = h then m_goes m t u y j h a j else m a j) := by
        by_cases h2 : j < i ∧ m 4 j = h
        · rw [if_pos h2, if_pos ⟨by omega, h2.2⟩]
        · rw [if_neg h2, if_neg (fun z => h2 ⟨by omega, z.2⟩)]
      rw [e, ← ih]
      split
      · rw [m_goes_ne hj]
      · rfl
