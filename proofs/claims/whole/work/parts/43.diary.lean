theorem zc_lt {f g : Nat → Bool} {n : Nat} (h : ∀ j, j < n → f j = true → g j = true) (he : ∃ j, j < n ∧ g j = true ∧ f j = false) : zc f n < zc g n := by
  induction n with
  | zero => obtain ⟨j, hj, -⟩ := he; omega
  | succ n ih =>
    rw [zc, zc]
    obtain ⟨j, hj, hg, hf⟩ := he
    by_cases hjn : j = n
    · subst hjn
      have h1 := zc_mono (fun i hi => h i (Nat.lt_succ_of_lt hi))
      rw [hg, hf]; simp; omega
    · have h1 := ih (fun i hi => h i (by omega)) ⟨j, by omega, hg, hf⟩
      have h2 := h n (by omega)
      cases hf2 : f n <;> cases hg2 : g n <;> simp_all
      all_goals omega
theorem zc_le {f : Nat → Bool} {n : Nat} : zc f n ≤ n := by
  induction n with
  | zero => exact Nat.le_refl _
  | succ n ih => rw [zc]; split <;> omega
/-- how many places are nearer to the goal -/
def zrk (y : Nat → Nat → Nat) (g p : Nat) : Nat := zc (fun q => decide (y 1 (8 * q + g) < y 1 (8 * p + g))) 8
theorem zrk_le {y : Nat → Nat → Nat} {g p : Nat} (hp : p < 8) : zrk y g p ≤ 7 := by
  have h1 : zrk y g p < zc (fun _ => true) 8 := zc_lt (fun _ _ _ => rfl) ⟨p, hp, rfl, by simp⟩
  have h2 : zc (fun _ => true) 8 ≤ 8 := zc_le
  omega
theorem zrk_lt {y : Nat → Nat → Nat} {g p q : Nat} (hq : q < 8) (h : y 1 (8 * q + g) < y 1 (8 * p + g)) : zrk y g q < zrk y g p :=
  zc_lt (fun j _ hj => by simp at hj ⊢; omega) ⟨q, hq, by simpa using h, by simp⟩
theorem p_note_d {s : Nat → Nat → Nat} {c h p l w : Nat} (h8 : s 10 c < 8) : p_note s c h p l w 10 c = s 10 c + 1 ∧ (∀ j, p_note s c h p l w 11 j = if j = c * 8 + s 10 c then h else s 11 j) ∧ (∀ j, p_note s c h p l w 12 j = if j = c * 8 + s 10 c then p else s 12 j) ∧ (∀ j, p_note s c h p l w 13 j = if j = c * 8 + s 10 c then l else s 13 j) ∧ ∀ j, p_note s c h p l w 14 j = if j = c * 8 + s 10 c then w else s 14 j := by
  rw [p_note, if_neg (by omega)]
  refine ⟨aw_u_eq, fun j => ?_, fun j => ?_, fun j => ?_, fun j => ?_⟩ <;> simp [aw_u, va_up]
/-- what a settled carter's own diary holds -/
theorem p_settle_d {s t u x : Nat → Nat → Nat} {c h : Nat} (h8 : s 10 c < 8) : p_settle s t u x c h 10 c = s 10 c + 1 ∧
    (∀ j, p_settle s t u x c h 11 j = if j = c * 8 + s 10 c then h else s 11 j) ∧ (∀ j, p_settle s t u x c h 12 j = if j = c * 8 + s 10 c then s 5 c else s 12 j) ∧ (∀ j, p_settle s t u x c h 13 j = if j = c * 8 + s 10 c then p_settle s t u x c h 2 c else s 13 j) ∧
    ((p_settle s t u x c h 7 c = h + 1 ∧ p_settle s t u x c h 5 c = s 5 c ∧ ∀ j, p_settle s t u x c h 14 j = if j = c * 8 + s 10 c then 0 else s 14 j) ∨ (x 2 (s 5 c * 8 + t 1 c) ≠ 0 ∧ s 5 c ≠ t 1 c ∧ p_settle s t u x c h 7 c = s 7 c ∧ p_settle s t u x c h 5 c = x 2 (s 5 c * 8 + t 1 c) - 1 ∧ ∀ j, p_settle s t u x c h 14 j = if j = c * 8 + s 10 c then x 2 (s 5 c * 8 + t 1 c) else s 14 j)) := by
  have fin : ∀ z : Nat → Nat → Nat, z 10 = s 10 → z 11 = s 11 → z 12 = s 12 → z 13 = s 13 → z 14 = s 14 → z 5 c = s 5 c → p_settle s t u x c h = p_fin z c h (s 5 c) → p_settle s t u x c h 10 c = s 10 c + 1 ∧
    (∀ j, p_settle s t u x c h 11 j = if j = c * 8 + s 10 c then h else s 11 j) ∧ (∀ j, p_settle s t u x c h 12 j = if j = c * 8 + s 10 c then s 5 c else s 12 j) ∧ (∀ j, p_settle s t u x c h 13 j = if j = c * 8 + s 10 c then p_settle s t u x c h 2 c else s 13 j) ∧
    ((p_settle s t u x c h 7 c = h + 1 ∧ p_settle s t u x c h 5 c = s 5 c ∧ ∀ j, p_settle s t u x c h 14 j = if j = c * 8 + s 10 c then 0 else s 14 j) ∨ (x 2 (s 5 c * 8 + t 1 c) ≠ 0 ∧ s 5 c ≠ t 1 c ∧ p_settle s t u x c h 7 c = s 7 c ∧ p_settle s t u x c h 5 c = x 2 (s 5 c * 8 + t 1 c) - 1 ∧ ∀ j, p_settle s t u x c h 14 j = if j = c * 8 + s 10 c then x 2 (s 5 c * 8 + t 1 c) else s 14 j)) := by
    intro z z10 z11 z12 z13 z14 z5 e
    obtain ⟨v1, v2, v3, v4, v5⟩ := p_fin_vals (z := z) (k := c) (h := h) (p := s 5 c)
    obtain ⟨d1, d2, d3, d4, d5⟩ := p_note_d (s := aw_u (aw_u z 7 c (h + 1)) 1 c 1000) (c := c) (h := h) (p := s 5 c) (l := z 2 c) (w := 0) (by rw [aw_u_ne (by decide), aw_u_ne (by decide), z10]; exact h8)
    have r : ∀ a, a ≠ 7 → a ≠ 1 → aw_u (aw_u z 7 c (h + 1)) 1 c 1000 a = z a := fun a h7 h1 => by rw [aw_u_ne h1, aw_u_ne h7]
    rw [r 10 (by decide) (by decide), z10] at d1 d2 d3 d4 d5
    rw [r 11 (by decide) (by decide), z11] at d2
    rw [r 12 (by decide) (by decide), z12] at d3
    rw [r 13 (by decide) (by decide), z13] at d4
    rw [r 14 (by decide) (by decide), z14] at d5
    rw [e]
    refine ⟨d1, d2, d3, fun j => ?_, Or.inl ⟨v1, by rw [v3, z5], d5⟩⟩
    rw [v5]; exact d4 j
  by_cases c1 : s 5 c = t 1 c
  · exact fin (aw_u (aw_u s 4 (s 5 c) (s 4 (s 5 c) + 1)) 6 c 2) rfl rfl rfl rfl rfl rfl (by rw [p_settle, if_pos c1])
  · by_cases c2 : p_told s t u c h (s 5 c) = true
    · exact fin (aw_u (aw_u s 4 (s 5 c) (s 4 (s 5 c) + 1)) 6 c 3) rfl rfl rfl rfl rfl rfl (by rw [p_settle, if_neg c1, if_pos c2])
    · by_cases c3 : x 2 (s 5 c * 8 + t 1 c) = 0
      · exact fin (aw_u (aw_u s 4 (s 5 c) (s 4 (s 5 c) + 1)) 6 c 5) rfl rfl rfl rfl rfl rfl (by rw [p_settle, if_neg c1, if_neg c2, if_pos c3])
      · by_cases c4 : s 2 c < x 0 (s 5 c * 8 + (x 2 (s 5 c * 8 + t 1 c) - 1)) + t 4 c
        · exact fin (aw_u (aw_u (aw_u s 4 (s 5 c) (s 4 (s 5 c) + 1)) 6 c 4) 8 c (t 3 c - s 2 c + (x 0 (s 5 c * 8 + (x 2 (s 5 c * 8 + t 1 c) - 1)) + t 4 c))) rfl rfl rfl rfl rfl rfl (by rw [p_settle, if_neg c1, if_neg c2, if_neg c3, if_pos c4])
        · have e : p_settle s t u x c h = p_note (aw_u (aw_u (aw_u (aw_u s 4 (s 5 c) (s 4 (s 5 c) + 1)) 2 c (s 2 c - (x 0 (s 5 c * 8 + (x 2 (s 5 c * 8 + t 1 c) - 1)) + t 4 c))) 1 c (h + x 0 (s 5 c * 8 + (x 2 (s 5 c * 8 + t 1 c) - 1)))) 5 c (x 2 (s 5 c * 8 + t 1 c) - 1)) c h (s 5 c) (s 2 c - (x 0 (s 5 c * 8 + (x 2 (s 5 c * 8 + t 1 c) - 1)) + t 4 c)) (x 2 (s 5 c * 8 + t 1 c)) := by
            rw [p_settle, if_neg c1, if_neg c2, if_neg c3, if_neg c4]
          obtain ⟨d1, d2, d3, d4, d5⟩ := p_note_d (s := aw_u (aw_u (aw_u (aw_u s 4 (s 5 c) (s 4 (s 5 c) + 1)) 2 c (s 2 c - (x 0 (s 5 c * 8 + (x 2 (s 5 c * 8 + t 1 c) - 1)) + t 4 c))) 1 c (h + x 0 (s 5 c * 8 + (x 2 (s 5 c * 8 + t 1 c) - 1)))) 5 c (x 2 (s 5 c * 8 + t 1 c) - 1)) (c := c) (h := h) (p := s 5 c) (l := s 2 c - (x 0 (s 5 c * 8 + (x 2 (s 5 c * 8 + t 1 c) - 1)) + t 4 c)) (w := x 2 (s 5 c * 8 + t 1 c)) h8
          rw [e]
          refine ⟨d1, d2, d3, fun j => ?_, Or.inr ⟨c3, c1, ?_, ?_, d5⟩⟩
          · rw [p_note_row (a := 2) (by decide)]
            have : aw_u (aw_u (aw_u (aw_u s 4 (s 5 c) (s 4 (s 5 c) + 1)) 2 c (s 2 c - (x 0 (s 5 c * 8 + (x 2 (s 5 c * 8 + t 1 c) - 1)) + t 4 c))) 1 c (h + x 0 (s 5 c * 8 + (x 2 (s 5 c * 8 + t 1 c) - 1)))) 5 c (x 2 (s 5 c * 8 + t 1 c) - 1) 2 c = s 2 c - (x 0 (s 5 c * 8 + (x 2 (s 5 c * 8 + t 1 c) - 1)) + t 4 c) := by simp [aw_u, va_up]
            rw [this]; exact d4 j
          · rw [p_note_row (a := 7) (by decide)]; simp [aw_u, va_up]
          · rw [p_note_row (a := 5) (by decide)]; simp [aw_u, va_up]
/-- the diary rows of other carters stay -/
theorem p_settle_dne {s t u x : Nat → Nat → Nat} {c h a j : Nat} (ha : a = 11 ∨ a = 12 ∨ a = 13 ∨ a = 14) (h8 : s 10 c < 8) (hj : j ≠ c * 8 + s 10 c) : p_settle s t u x c h a j = s a j := by
  obtain ⟨-, d1, d2, d3, d4⟩ := p_settle_d (s := s) (t := t) (u := u) (x := x) (c := c) (h := h) h8
  rcases ha with rfl | rfl | rfl | rfl
  · rw [d1, if_neg hj]
  · rw [d2, if_neg hj]
  · rw [d3, if_neg hj]
  · rcases d4 with ⟨-, -, d4⟩ | ⟨-, -, -, -, d4⟩ <;> rw [d4, if_neg hj]
theorem p_sw_10 {s t u x : Nat → Nat → Nat} {h i j : Nat} (hj : i ≤ j) : p_sw s t u x h i 10 j = s 10 j := by
  induction i with
  | zero => rfl
  | succ i ih =>
    rw [p_sw]
    split
    · rw [p_settle_10, if_neg (by omega)]; exact ih (by omega)
    · exact ih (by omega)
theorem p_sw_len {s t u x : Nat → Nat → Nat} {h i j : Nat} (h8 : s 1 j = h → s 10 j < 8) : p_sw s t u x h i 10 j = if j < i ∧ s 1 j = h then s 10 j + 1 else s 10 j := by
  induction i with
  | zero => rw [p_sw, if_neg (by omega)]
  | succ i ih =>
    rw [p_sw, p_sw_later (a := 1) (by decide) (Nat.le_refl i)]
    by_cases hj : j = i
    · subst hj
      by_cases h1 : s 1 j = h
      · rw [if_pos h1, if_pos ⟨by omega, h1⟩, p_settle_10, p_sw_10 (Nat.le_refl j), if_pos ⟨rfl, h8 h1⟩]
      · rw [if_neg h1, if_neg (fun z => h1 z.2)]; exact p_sw_10 (Nat.le_refl j)
    · have e : (if j < i + 1 ∧ s 1 j = h then s 10 j + 1 else s 10 j) = (if j < i ∧ s 1 j = h then s 10 j + 1 else s 10 j) := by
        by_cases h2 : j < i ∧ s 1 j = h
        · rw [if_pos h2, if_pos ⟨by omega, h2.2⟩]
        · rw [if_neg h2, if_neg (fun z => h2 ⟨by omega, z.2⟩)]
      rw [e, ← ih]
      split
      · rw [p_settle_10, if_neg (fun z => hj z.1)]
      · rfl
