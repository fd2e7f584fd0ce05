theorem aw_u_col {α : Type} {F : Nat → Nat → α} {o j a b : Nat} {x : α} (h : b ≠ j) : aw_u F o j x a b = F a b := by
  by_cases ha : a = o
  · subst ha; rw [aw_u_nj h]
  · rw [aw_u_ne ha]
theorem p_note_row {s : Nat → Nat → Nat} {c h p l w a : Nat} (ha : a < 10) : p_note s c h p l w a = s a := by
  rw [p_note]
  split
  · rfl
  · rw [aw_u_ne (by omega), aw_u_ne (by omega), aw_u_ne (by omega), aw_u_ne (by omega), aw_u_ne (by omega)]
theorem p_note_10 {s : Nat → Nat → Nat} {c h p l w : Nat} (j : Nat) : p_note s c h p l w 10 j = if j = c ∧ s 10 c < 8 then s 10 c + 1 else s 10 j := by
  rw [p_note]
  by_cases h8 : 8 ≤ s 10 c
  · rw [if_pos h8, if_neg (by omega)]
  · rw [if_neg h8]
    by_cases hj : j = c
    · subst hj; rw [aw_u_eq, if_pos ⟨rfl, by omega⟩]
    · rw [aw_u_nj hj, aw_u_ne (by decide), aw_u_ne (by decide), aw_u_ne (by decide), aw_u_ne (by decide), if_neg (fun z => hj z.1)]
theorem p_fin_row {s : Nat → Nat → Nat} {c h p a : Nat} (ha : a < 10) (h1 : a ≠ 1) (h7 : a ≠ 7) : p_fin s c h p a = s a := by
  rw [p_fin, p_note_row ha, aw_u_ne h1, aw_u_ne h7]
theorem p_fin_1 {s : Nat → Nat → Nat} {c h p : Nat} : p_fin s c h p 1 = va_up (s 1) c 1000 := by
  rw [p_fin, p_note_row (by decide), aw_u_row, aw_u_ne (by decide)]
theorem p_fin_7 {s : Nat → Nat → Nat} {c h p : Nat} : p_fin s c h p 7 = va_up (s 7) c (h + 1) := by
  rw [p_fin, p_note_row (by decide), aw_u_ne (by decide), aw_u_row]
theorem p_fin_10 {s : Nat → Nat → Nat} {c h p : Nat} (j : Nat) : p_fin s c h p 10 j = if j = c ∧ s 10 c < 8 then s 10 c + 1 else s 10 j := by
  rw [p_fin, p_note_10, aw_u_ne (by decide), aw_u_ne (by decide)]
/-- rows 0 and 3 of a run: nothing is settled there -/
theorem p_settle_03 {s t u x : Nat → Nat → Nat} {c h a : Nat} (ha : a = 0 ∨ a = 3) : p_settle s t u x c h a = s a := by
  unfold p_settle
  rcases ha with rfl | rfl
  all_goals
    repeat' split
    · rw [p_fin_row (by decide) (by decide) (by decide), aw_u_ne (by decide), aw_u_ne (by decide)]
    · rw [p_fin_row (by decide) (by decide) (by decide), aw_u_ne (by decide), aw_u_ne (by decide)]
    · rw [p_fin_row (by decide) (by decide) (by decide), aw_u_ne (by decide), aw_u_ne (by decide)]
    · rw [p_fin_row (by decide) (by decide) (by decide), aw_u_ne (by decide), aw_u_ne (by decide), aw_u_ne (by decide)]
    · rw [p_note_row (by decide), aw_u_ne (by decide), aw_u_ne (by decide), aw_u_ne (by decide), aw_u_ne (by decide)]
/-- the other carters' columns -/
theorem p_settle_ne {s t u x : Nat → Nat → Nat} {c h a j : Nat} (ha : a = 1 ∨ a = 2 ∨ a = 5 ∨ a = 6 ∨ a = 7 ∨ a = 8) (hj : j ≠ c) : p_settle s t u x c h a j = s a j := by
  unfold p_settle p_fin
  rcases ha with rfl | rfl | rfl | rfl | rfl | rfl
  all_goals
    repeat' split
    all_goals (rw [p_note_row (by decide)]; simp [aw_u, va_up, hj])
theorem p_settle_10 {s t u x : Nat → Nat → Nat} {c h : Nat} (j : Nat) : p_settle s t u x c h 10 j = if j = c ∧ s 10 c < 8 then s 10 c + 1 else s 10 j := by
  unfold p_settle p_fin
  repeat' split
  all_goals (rw [p_note_10]; simp [aw_u, va_up])
  all_goals (intros; omega)
theorem p_settle_4 {s t u x : Nat → Nat → Nat} {c h : Nat} : p_settle s t u x c h 4 = va_up (s 4) (s 5 c) (s 4 (s 5 c) + 1) := by
  unfold p_settle p_fin
  repeat' split
  all_goals (rw [p_note_row (by decide)]; simp [aw_u, va_up])
/-- what is so of the carter itself: it ends, or it goes on -/
theorem p_settle_c {s t u x : Nat → Nat → Nat} {c h : Nat} :
    (p_settle s t u x c h 1 c = 1000 ∧ p_settle s t u x c h 7 c = h + 1 ∧ p_settle s t u x c h 5 c = s 5 c ∧ p_settle s t u x c h 2 c = s 2 c) ∨
    (x 2 (s 5 c * 8 + t 1 c) ≠ 0 ∧ p_settle s t u x c h 1 c = h + x 0 (s 5 c * 8 + (x 2 (s 5 c * 8 + t 1 c) - 1)) ∧ p_settle s t u x c h 7 c = s 7 c ∧ p_settle s t u x c h 5 c = x 2 (s 5 c * 8 + t 1 c) - 1 ∧ p_settle s t u x c h 6 c = s 6 c ∧ p_settle s t u x c h 2 c ≤ s 2 c) := by
  unfold p_settle p_fin
  repeat' split
  · left; refine ⟨?_, ?_, ?_, ?_⟩ <;> (rw [p_note_row (by decide)]; simp [aw_u, va_up])
  · left; refine ⟨?_, ?_, ?_, ?_⟩ <;> (rw [p_note_row (by decide)]; simp [aw_u, va_up])
  · left; refine ⟨?_, ?_, ?_, ?_⟩ <;> (rw [p_note_row (by decide)]; simp [aw_u, va_up])
  · left; refine ⟨?_, ?_, ?_, ?_⟩ <;> (rw [p_note_row (by decide)]; simp [aw_u, va_up])
  · rename_i hx _
    right; refine ⟨hx, ?_, ?_, ?_, ?_, ?_⟩ <;> (rw [p_note_row (by decide)]; simp [aw_u, va_up])
def zTok (t : Nat → Nat → Nat) : Prop := t 6 0 ≤ 8 ∧ t 6 1 < 100000 ∧ ∀ c, c < 8 → t 0 c < 8 ∧ t 1 c < 8 ∧ t 2 c < 3 ∧ t 3 c < 1000 ∧ t 4 c < 1000 ∧ t 5 c < 100
def zXok (x : Nat → Nat → Nat) : Prop := ∀ j, j < 64 → x 0 j ≤ 1000 ∧ x 2 j ≤ 8
def zUok (u : Nat → Nat → Nat) : Prop := u 2 0 ≤ 8 ∧ ∀ a, a < 8 → u 0 a < 100000 ∧ u 1 a < 100000
/-- a run's numbers are in their bounds -/
def zWf (s t : Nat → Nat → Nat) (B : Nat) : Prop := s 0 0 = t 6 0 ∧ s 0 10 < 1000 ∧ (∀ c, c < t 6 0 → (s 1 c < 1000 → s 6 c = 1) ∧ s 2 c ≤ t 3 c) ∧ (∀ c, c < 8 → s 1 c < 5000 ∧ s 7 c < 1000 ∧ s 5 c < 8 ∧ s 10 c ≤ 8) ∧ ∀ p, s 4 p ≤ B
theorem zWf.gather {s t : Nat → Nat → Nat} {B h : Nat} (hW : zWf s t B) (hh : h < 900) : zWf (p_gather s h) t B := by
  obtain ⟨h1, h2, h3, h4, h5⟩ := hW
  have row : ∀ a, a ≠ 0 → a ≠ 3 → p_gather s h a = s a := fun a h0 h3 => by rw [p_gather, p_g3_row h0, p_g2_row h3, p_g1_row h3]
  refine ⟨?_, ?_, fun c hc => ?_, fun c hc => ?_, fun p => ?_⟩
  · rw [p_gather, p_g3_00, p_g2_row (by decide), p_g1_row (by decide)]; exact h1
  · exact p_g3_10 (by rw [p_g2_row (by decide), p_g1_row (by decide)]; exact h2) hh
  · rw [row 1 (by decide) (by decide), row 6 (by decide) (by decide), row 2 (by decide) (by decide)]; exact h3 c hc
  · rw [row 1 (by decide) (by decide), row 7 (by decide) (by decide), row 5 (by decide) (by decide), row 10 (by decide) (by decide)]; exact h4 c hc
  · rw [row 4 (by decide) (by decide)]; exact h5 p
theorem zWf.settle {s t u x : Nat → Nat → Nat} {B c h : Nat} (hW : zWf s t B) (hX : zXok x) (hT : zTok t) (hc : c < t 6 0) (hh : h < 900) (hs : s 6 c = 1) : zWf (p_settle s t u x c h) t (B + 1) := by
  obtain ⟨h1, h2, h3, h4, h5⟩ := hW
  have hc8 : c < 8 := Nat.lt_of_lt_of_le hc hT.1
  have hp := (h4 c hc8).2.2.1
  have hg := (hT.2.2 c hc8).2.1
  have hxx := hX (s 5 c * 8 + t 1 c) (by omega)
  refine ⟨?_, ?_, fun d hd => ?_, fun d hd => ?_, fun p => ?_⟩
  · rw [p_settle_03 (Or.inl rfl)]; exact h1
  · rw [p_settle_03 (Or.inl rfl)]; exact h2
  · by_cases hdc : d = c
    · subst hdc
      rcases p_settle_c (s := s) (t := t) (u := u) (x := x) (c := d) (h := h) with ⟨e1, e2, e3, e4⟩ | ⟨e0, e1, e2, e3, e4, e5⟩
      · rw [e1, e4]; exact ⟨fun z => by omega, (h3 d hd).2⟩
      · rw [e4]; exact ⟨fun _ => hs, Nat.le_trans e5 (h3 d hd).2⟩
    · rw [p_settle_ne (by decide) hdc, p_settle_ne (by decide) hdc, p_settle_ne (by decide) hdc]; exact h3 d hd
  · have h10 : p_settle s t u x c h 10 d ≤ 8 := by
      rw [p_settle_10]
      split
      · omega
      · exact (h4 d hd).2.2.2
    by_cases hdc : d = c
    · subst hdc
      rcases p_settle_c (s := s) (t := t) (u := u) (x := x) (c := d) (h := h) with ⟨e1, e2, e3, e4⟩ | ⟨e0, e1, e2, e3, e4, e5⟩
      · rw [e1, e2, e3]; exact ⟨by omega, by omega, hp, h10⟩
      · rw [e1, e2, e3]
        have hx2 := hX (s 5 d * 8 + (x 2 (s 5 d * 8 + t 1 d) - 1)) (by omega)
        exact ⟨by omega, (h4 d hd).2.1, by omega, h10⟩
    · rw [p_settle_ne (by decide) hdc, p_settle_ne (by decide) hdc, p_settle_ne (by decide) hdc]
      exact ⟨(h4 d hd).1, (h4 d hd).2.1, (h4 d hd).2.2.1, h10⟩
  · rw [p_settle_4]
    unfold va_up
    split
    · have := h5 (s 5 c); omega
    · have := h5 p; omega
/-- the columns that are not yet settled in an hour are as they were -/
theorem p_sw_later {s t u x : Nat → Nat → Nat} {h i a j : Nat} (ha : a = 1 ∨ a = 2 ∨ a = 5 ∨ a = 6 ∨ a = 7 ∨ a = 8) (hj : i ≤ j) : p_sw s t u x h i a j = s a j := by
  induction i with
  | zero => rfl
  | succ i ih =>
    rw [p_sw]
    split
    · rw [p_settle_ne ha (by omega)]; exact ih (by omega)
    · exact ih (by omega)
theorem zWf.sw {s t u x : Nat → Nat → Nat} {B h i : Nat} (hW : zWf s t B) (hX : zXok x) (hT : zTok t) (hh : h < 900) (hi : i ≤ t 6 0) : zWf (p_sw s t u x h i) t (B + i) := by
  induction i with
  | zero => exact hW
  | succ i ih =>
    have h1 := ih (by omega)
    rw [p_sw]
    split
    next he =>
      exact h1.settle hX hT (by omega) hh ((h1.2.2.1 i (by omega)).1 (by omega))
    next => exact ⟨h1.1, h1.2.1, h1.2.2.1, h1.2.2.2.1, fun p => Nat.le_trans (h1.2.2.2.2 p) (by omega)⟩
theorem zWf.hour {s t u x : Nat → Nat → Nat} {B h : Nat} (hW : zWf s t B) (hX : zXok x) (hT : zTok t) (hh : h < 900) : zWf (p_hour s t u x h) t (B + 8) := by
  have h1 := (hW.gather hh).sw (u := u) hX hT hh (i := t 6 0) (Nat.le_refl _)
  rw [p_hour, hW.1]
  exact ⟨h1.1, h1.2.1, h1.2.2.1, h1.2.2.2.1, fun p => Nat.le_trans (h1.2.2.2.2 p) (by have := hT.1; omega)⟩
theorem zWf.ev {s t u x : Nat → Nat → Nat} {B i : Nat} (hW : zWf s t B) (hX : zXok x) (hT : zTok t) : zWf (p_ev s t u x i) t (B + 8 * i) := by
  induction i with
  | zero => exact hW
  | succ i ih =>
    rw [p_ev]
    split
    next h => exact ih.hour hX hT (by omega)
    next => exact ⟨ih.1, ih.2.1, ih.2.2.1, ih.2.2.2.1, fun p => Nat.le_trans (ih.2.2.2.2 p) (by omega)⟩
theorem p_ev_stop {s t u x : Nat → Nat → Nat} {i : Nat} (h : ¬ p_min (p_ev s t u x i 1) (s 0 0) < 40) : ∀ d, p_ev s t u x (i + d) = p_ev s t u x i := by
  intro d
  induction d with
  | zero => rfl
  | succ d ih => rw [← Nat.add_assoc, p_ev, ih, if_neg h]
theorem p_b1_lt {s : Nat → Nat → Nat} {i j : Nat} (h : j < i) : p_b1 s i 4 j = 0 := by
  induction i with
  | zero => omega
  | succ i ih =>
    rw [p_b1]
    by_cases hj : j = i
    · subst hj; rw [aw_u_eq]
    · rw [aw_u_nj hj]; exact ih (by omega)
theorem p_b1_ge {s : Nat → Nat → Nat} {i j : Nat} (h : i ≤ j) : p_b1 s i 4 j = s 4 j := by
  induction i with
  | zero => rfl
  | succ i ih => rw [p_b1, aw_u_nj (by omega)]; exact ih (by omega)
theorem p_b2_row {s t : Nat → Nat → Nat} {i a : Nat} (ha : a = 3 ∨ a = 4) : p_b2 s t i a = s a := by
  induction i with
  | zero => rfl
  | succ i ih => rcases ha with rfl | rfl <;> rw [p_b2, aw_u_ne (by decide), aw_u_ne (by decide), aw_u_ne (by decide), aw_u_ne (by decide), aw_u_ne (by decide), aw_u_ne (by decide), aw_u_ne (by decide), ih]
theorem p_b2_lt {s t : Nat → Nat → Nat} {i j : Nat} (h : j < i) : p_b2 s t i 1 j = t 5 j ∧ p_b2 s t i 5 j = t 0 j ∧ p_b2 s t i 2 j = t 3 j ∧ p_b2 s t i 6 j = 1 ∧ p_b2 s t i 7 j = 0 ∧ p_b2 s t i 8 j = 100 ∧ p_b2 s t i 10 j = 0 := by
  induction i with
  | zero => omega
  | succ i ih =>
    rw [p_b2]
    by_cases hj : j = i
    · subst hj; simp [aw_u, va_up]
    · have := ih (by omega)
      simpa [aw_u, va_up, hj] using this
theorem p_b2_ge {s t : Nat → Nat → Nat} {i j a : Nat} (h : i ≤ j) : p_b2 s t i a j = s a j := by
  induction i with
  | zero => rfl
  | succ i ih =>
    have h1 := ih (by omega)
    rw [p_b2]
    have hj : j ≠ i := by omega
    rw [aw_u_col hj, aw_u_col hj, aw_u_col hj, aw_u_col hj, aw_u_col hj, aw_u_col hj, aw_u_col hj]
    exact h1
/-- the bounds of what stands in a run's rows from before -/
def zOld (s : Nat → Nat → Nat) (B : Nat) : Prop := (∀ c, c < 8 → s 1 c < 5000 ∧ s 7 c < 1000 ∧ s 5 c < 8 ∧ s 10 c ≤ 8) ∧ ∀ p, 8 ≤ p → s 4 p ≤ B
theorem zWf.begin {s t : Nat → Nat → Nat} {B : Nat} (hT : zTok t) (hO : zOld s B) : zWf (p_begin s t) t B := by
  unfold p_begin
  refine ⟨?_, ?_, fun c hc => ?_, fun c hc => ?_, fun p => ?_⟩
  · rw [p_b2_0, p_b1_row (by decide), aw_u_nj (by decide), aw_u_nj (by decide), aw_u_eq]
  · rw [p_b2_0, p_b1_row (by decide), aw_u_nj (by decide), aw_u_eq]; decide
  · obtain ⟨e1, e2, e3, e4, e5, e6, e7⟩ := p_b2_lt (s := p_b1 (aw_u (aw_u (aw_u s 0 0 (t 6 0)) 0 10 0) 0 11 0) 8) (t := t) hc
    rw [e1, e4, e3]; exact ⟨fun _ => rfl, Nat.le_refl _⟩
  · by_cases h : c < t 6 0
    · obtain ⟨e1, e2, e3, e4, e5, e6, e7⟩ := p_b2_lt (s := p_b1 (aw_u (aw_u (aw_u s 0 0 (t 6 0)) 0 10 0) 0 11 0) 8) (t := t) h
      rw [e1, e2, e5, e7]
      have := hT.2.2 c hc
      exact ⟨by omega, by omega, by omega, by omega⟩
    · rw [p_b2_ge (by omega), p_b2_ge (by omega), p_b2_ge (by omega), p_b2_ge (by omega), p_b1_row (by decide), p_b1_row (by decide), p_b1_row (by decide), p_b1_row (by decide)]
      exact hO.1 c hc
  · rw [p_b2_row (by decide)]
    by_cases h : p < 8
    · rw [p_b1_lt h]; omega
    · rw [p_b1_ge (by omega)]; exact hO.2 p (by omega)
