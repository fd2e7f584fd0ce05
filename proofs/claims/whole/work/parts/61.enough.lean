/-! A STRENGTH THAT NEED NOT BE TRIED: two runs that differ in one carter's strength -/
def eN (k : Nat) (a : Nat → Nat → Nat) : Nat → Nat → Nat := fun i j => if i = 13 ∨ (i = 2 ∧ j = k) then 0 else a i j
theorem eN_row {k r : Nat} {a : Nat → Nat → Nat} (h2 : r ≠ 2) (h13 : r ≠ 13) : eN k a r = a r := by
  funext j; unfold eN; rw [if_neg (by omega)]
theorem eN_2 {k j : Nat} {a : Nat → Nat → Nat} (h : j ≠ k) : eN k a 2 j = a 2 j := by
  unfold eN; rw [if_neg (by omega)]
theorem eN_u {k r j v : Nat} {a : Nat → Nat → Nat} (h2 : r ≠ 2) (h13 : r ≠ 13) : eN k (aw_u a r j v) = aw_u (eN k a) r j v := by
  funext p q
  by_cases hp : p = r
  · subst hp
    rw [eN_row h2 h13]
    by_cases hq : q = j
    · subst hq; rw [aw_u_eq, aw_u_eq]
    · rw [aw_u_nj hq, aw_u_nj hq, eN_row h2 h13]
  · rw [aw_u_ne hp]; unfold eN; rw [aw_u_ne hp]
theorem eN_u13 {k j v : Nat} {a : Nat → Nat → Nat} : eN k (aw_u a 13 j v) = eN k a := by
  funext p q
  unfold eN
  by_cases hp : p = 13
  · rw [if_pos (Or.inl hp), if_pos (Or.inl hp)]
  · rw [aw_u_ne hp]
theorem eN_u2k {k v : Nat} {a : Nat → Nat → Nat} : eN k (aw_u a 2 k v) = eN k a := by
  funext p q
  unfold eN
  by_cases hp : p = 13 ∨ (p = 2 ∧ q = k)
  · rw [if_pos hp, if_pos hp]
  · rw [if_neg hp, if_neg hp]
    by_cases h2 : p = 2
    · subst h2; rw [aw_u_nj (by omega)]
    · rw [aw_u_ne h2]
theorem eN_u2 {k j v : Nat} {a : Nat → Nat → Nat} (h : j ≠ k) : eN k (aw_u a 2 j v) = aw_u (eN k a) 2 j v := by
  funext p q
  by_cases hp : p = 2
  · subst hp
    by_cases hq : q = j
    · subst hq; rw [aw_u_eq, eN_2 h, aw_u_eq]
    · rw [aw_u_nj hq]
      unfold eN
      rw [aw_u_nj hq]
  · rw [aw_u_ne hp]; unfold eN; rw [aw_u_ne hp]
theorem eN_id {k : Nat} {a : Nat → Nat → Nat} : eN k (eN k a) = eN k a := by
  funext p q; unfold eN; split <;> rfl
def pn (z : Nat → Nat → Nat) (c h p w : Nat) : Nat → Nat → Nat :=
  if 8 ≤ z 10 c then z else aw_u (aw_u (aw_u (aw_u z 11 (c * 8 + z 10 c) h) 12 (c * 8 + z 10 c) p) 14 (c * 8 + z 10 c) w) 10 c (z 10 c + 1)
theorem eN_note {k c h p l w : Nat} {a : Nat → Nat → Nat} : eN k (p_note a c h p l w) = pn (eN k a) c h p w := by
  unfold p_note pn
  rw [eN_row (by decide) (by decide)]
  split
  · rfl
  · rw [eN_u (by decide) (by decide), eN_u (by decide) (by decide), eN_u13, eN_u (by decide) (by decide), eN_u (by decide) (by decide)]
theorem eN_fin {k c h p : Nat} {a : Nat → Nat → Nat} : eN k (p_fin a c h p) = pn (aw_u (aw_u (eN k a) 7 c (h + 1)) 1 c 1000) c h p 0 := by
  unfold p_fin
  rw [eN_note, eN_u (by decide) (by decide), eN_u (by decide) (by decide)]
theorem p_told_3 {a a2 t u : Nat → Nat → Nat} {c h p : Nat} (h3 : a2 3 = a 3) : p_told a2 t u c h p = p_told a t u c h p := by
  unfold p_told; rw [h3]
/-- another carter settles -/
theorem eN_settle {k c h : Nat} {a t u x : Nat → Nat → Nat} (hc : c ≠ k) : eN k (p_settle a t u x c h) = eN k (p_settle (eN k a) t u x c h) := by
  have e5 : eN k a 5 = a 5 := eN_row (by decide) (by decide)
  have e4 : eN k a 4 = a 4 := eN_row (by decide) (by decide)
  have e2 : eN k a 2 c = a 2 c := eN_2 hc
  have e3 : ∀ p, p_told (eN k a) t u c h p = p_told a t u c h p := fun p => p_told_3 (eN_row (by decide) (by decide))
  unfold p_settle
  rw [e5, e4, e2, e3]
  repeat' split
  · rw [eN_fin, eN_fin, eN_u (by decide) (by decide), eN_u (by decide) (by decide), eN_u (by decide) (by decide), eN_u (by decide) (by decide), eN_id]
  · rw [eN_fin, eN_fin, eN_u (by decide) (by decide), eN_u (by decide) (by decide), eN_u (by decide) (by decide), eN_u (by decide) (by decide), eN_id]
  · rw [eN_fin, eN_fin, eN_u (by decide) (by decide), eN_u (by decide) (by decide), eN_u (by decide) (by decide), eN_u (by decide) (by decide), eN_id]
  · rw [eN_fin, eN_fin, eN_u (by decide) (by decide), eN_u (by decide) (by decide), eN_u (by decide) (by decide), eN_u (by decide) (by decide), eN_u (by decide) (by decide), eN_u (by decide) (by decide), eN_id]
  · rw [eN_note, eN_note, eN_u (by decide) (by decide), eN_u (by decide) (by decide), eN_u2 hc, eN_u (by decide) (by decide), eN_u (by decide) (by decide), eN_u (by decide) (by decide), eN_u2 hc, eN_u (by decide) (by decide), eN_id]
theorem eN_g1 {k i : Nat} {a : Nat → Nat → Nat} : eN k (p_g1 a i) = p_g1 (eN k a) i := by
  induction i with
  | zero => rfl
  | succ i ih => rw [p_g1, p_g1, eN_u (by decide) (by decide), ih]
theorem eN_g2 {k h i : Nat} {a : Nat → Nat → Nat} : eN k (p_g2 a h i) = p_g2 (eN k a) h i := by
  induction i with
  | zero => rfl
  | succ i ih =>
    rw [p_g2, p_g2, ← ih]
    rw [eN_row (r := 1) (by decide) (by decide), eN_row (r := 7) (by decide) (by decide), eN_row (r := 5) (by decide) (by decide), eN_row (r := 3) (by decide) (by decide)]
    split
    · rw [eN_u (by decide) (by decide)]
    · rfl
theorem eN_g3 {k h i : Nat} {a : Nat → Nat → Nat} : eN k (p_g3 a h i) = p_g3 (eN k a) h i := by
  induction i with
  | zero => rfl
  | succ i ih =>
    rw [p_g3, p_g3, ← ih]
    rw [eN_row (r := 0) (by decide) (by decide), eN_row (r := 3) (by decide) (by decide)]
    split
    · rw [eN_u (by decide) (by decide), eN_u (by decide) (by decide)]
    · rfl
theorem eN_gather {k h : Nat} {a : Nat → Nat → Nat} : eN k (p_gather a h) = p_gather (eN k a) h := by
  unfold p_gather
  rw [eN_g3, eN_g2, eN_g1, eN_row (r := 0) (by decide) (by decide)]
/-- the two runs side by side, or the first has tired already of too little -/
def eR (k v d : Nat) (a b : Nat → Nat → Nat) : Prop := eN k b = eN k a ∧ b 2 k = a 2 k + d ∧ a 2 k ≤ v
def eB (k v : Nat) (a : Nat → Nat → Nat) : Prop := a 8 k ≤ v ∧ a 1 k = 1000
theorem eR.row {k v d r : Nat} {a b : Nat → Nat → Nat} (h : eR k v d a b) (h2 : r ≠ 2) (h13 : r ≠ 13) : b r = a r := by
  rw [← eN_row (k := k) (a := b) h2 h13, h.1, eN_row h2 h13]
theorem p_note_2 {s : Nat → Nat → Nat} {c h p l w a : Nat} (ha : a < 10) : p_note s c h p l w a = s a := p_note_row ha
theorem eR.settle_ne {k v d c h w w2 : Nat} {a b t u x : Nat → Nat → Nat} (hR : eR k v d a b) (hc : c ≠ k) : eR k v d (p_settle a (aw_u t 3 k w) u x c h) (p_settle b (aw_u t 3 k w2) u x c h) := by
  refine ⟨?_, ?_, ?_⟩
  · rw [eN_settle hc, eN_settle hc (a := a), hR.1]
    rw [p_settle_teq (t := aw_u t 3 k w) (t2 := aw_u t 3 k w2) (by rw [aw_u_ne (by decide), aw_u_ne (by decide)]) (fun j _ => by rw [aw_u_col hc, aw_u_col hc])]
  · rw [p_settle_ne (by decide) (Ne.symm hc), p_settle_ne (by decide) (Ne.symm hc)]; exact hR.2.1
  · rw [p_settle_ne (by decide) (Ne.symm hc)]; exact hR.2.2
theorem eR.settle_k {k v d h : Nat} {a b t u x : Nat → Nat → Nat} (hR : eR k v d a b) : eR k v d (p_settle a (aw_u t 3 k v) u x k h) (p_settle b (aw_u t 3 k (v + d)) u x k h) ∨ eB k (v + d) (p_settle a (aw_u t 3 k v) u x k h) := by
  have e5 : b 5 = a 5 := hR.row (by decide) (by decide)
  have e4 : b 4 = a 4 := hR.row (by decide) (by decide)
  have e3 : ∀ p, p_told b (aw_u t 3 k (v + d)) u k h p = p_told a (aw_u t 3 k v) u k h p := fun p => by
    rw [p_told_3 (hR.row (r := 3) (by decide) (by decide))]
    have : p_tells (aw_u t 3 k (v + d)) u h p = p_tells (aw_u t 3 k v) u h p := by
      unfold p_tells; congr 1
    unfold p_told
    rw [this, aw_u_ne (show 2 ≠ 3 by decide), aw_u_ne (show 2 ≠ 3 by decide)]
  have hl := hR.2.2
  have h2 := hR.2.1
  unfold p_settle
  rw [e5, e4, e3, h2]
  rw [aw_u_ne (show 1 ≠ 3 by decide), aw_u_ne (show 1 ≠ 3 by decide), aw_u_ne (show 4 ≠ 3 by decide), aw_u_ne (show 4 ≠ 3 by decide), aw_u_eq, aw_u_eq]
  have fin : ∀ (g : Nat), eR k v d (p_fin (aw_u (aw_u a 4 (a 5 k) (a 4 (a 5 k) + 1)) 6 k g) k h (a 5 k)) (p_fin (aw_u (aw_u b 4 (a 5 k) (a 4 (a 5 k) + 1)) 6 k g) k h (a 5 k)) := fun g => by
    refine ⟨?_, ?_, ?_⟩
    · rw [eN_fin, eN_fin, eN_u (by decide) (by decide), eN_u (by decide) (by decide), eN_u (by decide) (by decide), eN_u (by decide) (by decide), hR.1]
    · rw [p_fin_row (by decide) (by decide) (by decide), p_fin_row (by decide) (by decide) (by decide), aw_u_ne (by decide), aw_u_ne (by decide), aw_u_ne (by decide), aw_u_ne (by decide)]; exact h2
    · rw [p_fin_row (by decide) (by decide) (by decide), aw_u_ne (by decide), aw_u_ne (by decide)]; exact hl
  split
  · exact Or.inl (fin 2)
  · split
    · exact Or.inl (fin 3)
    · split
      · exact Or.inl (fin 5)
      · obtain ⟨T, hTd⟩ : ∃ T, T = x 0 (a 5 k * 8 + (x 2 (a 5 k * 8 + t 1 k) - 1)) + t 4 k := ⟨_, rfl⟩
        rw [← hTd]
        by_cases ht : a 2 k < T
        · rw [if_pos ht]
          by_cases ht2 : a 2 k + d < T
          · left
            rw [if_pos ht2, show v + d - (a 2 k + d) + T = v - a 2 k + T by omega]
            refine ⟨?_, ?_, ?_⟩
            · rw [eN_fin, eN_fin, eN_u (by decide) (by decide), eN_u (by decide) (by decide), eN_u (by decide) (by decide), eN_u (by decide) (by decide), eN_u (by decide) (by decide), eN_u (by decide) (by decide), hR.1]
            · rw [p_fin_row (by decide) (by decide) (by decide), p_fin_row (by decide) (by decide) (by decide), aw_u_ne (by decide), aw_u_ne (by decide), aw_u_ne (by decide), aw_u_ne (by decide), aw_u_ne (by decide), aw_u_ne (by decide)]; exact h2
            · rw [p_fin_row (by decide) (by decide) (by decide), aw_u_ne (by decide), aw_u_ne (by decide), aw_u_ne (by decide)]; exact hl
          · right
            refine ⟨?_, ?_⟩
            · rw [p_fin_row (by decide) (by decide) (by decide), aw_u_eq]; omega
            · rw [p_fin_1]; simp [va_up]
        · left
          rw [if_neg ht, if_neg (by omega)]
          refine ⟨?_, ?_, ?_⟩
          · rw [eN_note, eN_note, eN_u (by decide) (by decide), eN_u (by decide) (by decide), eN_u2k, eN_u (by decide) (by decide), eN_u (by decide) (by decide), eN_u (by decide) (by decide), eN_u2k, eN_u (by decide) (by decide), hR.1]
          · rw [p_note_row (by decide), p_note_row (by decide), aw_u_ne (by decide), aw_u_ne (by decide), aw_u_eq, aw_u_ne (by decide), aw_u_ne (by decide), aw_u_eq]; omega
          · rw [p_note_row (by decide), aw_u_ne (by decide), aw_u_ne (by decide), aw_u_eq]; omega
theorem eB.settle {k v c h : Nat} {a t u x : Nat → Nat → Nat} (hB : eB k v a) (hc : c ≠ k) : eB k v (p_settle a t u x c h) := by
  unfold eB
  rw [p_settle_ne (by decide) (Ne.symm hc), p_settle_ne (by decide) (Ne.symm hc)]; exact hB
theorem eR.sw {k v d h i : Nat} {a b t u x : Nat → Nat → Nat} (hh : h < 1000) (hR : eR k v d a b ∨ eB k (v + d) a) : eR k v d (p_sw a (aw_u t 3 k v) u x h i) (p_sw b (aw_u t 3 k (v + d)) u x h i) ∨ eB k (v + d) (p_sw a (aw_u t 3 k v) u x h i) := by
  induction i with
  | zero => exact hR
  | succ i ih =>
    rw [p_sw, p_sw]
    rcases ih with hr | hb
    · rw [hr.row (r := 1) (by decide) (by decide)]
      split
      · by_cases hik : i = k
        · subst hik; exact hr.settle_k
        · exact Or.inl (hr.settle_ne hik)
      · exact Or.inl hr
    · right
      split
      · rename_i h1
        have hik : i ≠ k := fun z => by subst z; rw [hb.2] at h1; omega
        exact hb.settle hik
      · exact hb
theorem eB.sw {k v h i : Nat} {a t u x : Nat → Nat → Nat} (hh : h < 1000) (hB : eB k v a) : eB k v (p_sw a t u x h i) := by
  induction i with
  | zero => exact hB
  | succ i ih =>
    rw [p_sw]
    split
    · rename_i h1
      have hik : i ≠ k := fun z => by subst z; rw [ih.2] at h1; omega
      exact ih.settle hik
    · exact ih
theorem eR.gather {k v d h : Nat} {a b : Nat → Nat → Nat} (hR : eR k v d a b) : eR k v d (p_gather a h) (p_gather b h) := by
  refine ⟨by rw [eN_gather, eN_gather, hR.1], ?_, ?_⟩
  · rw [p_gather_row (by decide) (by decide), p_gather_row (by decide) (by decide)]; exact hR.2.1
  · rw [p_gather_row (by decide) (by decide)]; exact hR.2.2
theorem eB.gather {k v h : Nat} {a : Nat → Nat → Nat} (hB : eB k v a) : eB k v (p_gather a h) := by
  unfold eB
  rw [p_gather_row (by decide) (by decide), p_gather_row (by decide) (by decide)]; exact hB
theorem eR.ev {k v d i : Nat} {a b t u x : Nat → Nat → Nat} (hR : eR k v d a b) : eR k v d (p_ev a (aw_u t 3 k v) u x i) (p_ev b (aw_u t 3 k (v + d)) u x i) ∨ eB k (v + d) (p_ev a (aw_u t 3 k v) u x i) := by
  induction i with
  | zero => exact Or.inl hR
  | succ i ih =>
    rw [p_ev, p_ev, hR.row (r := 0) (by decide) (by decide)]
    rcases ih with hr | hb
    · rw [hr.row (r := 1) (by decide) (by decide)]
      split
      · rw [p_hour, p_hour, hr.row (r := 0) (by decide) (by decide)]
        exact eR.sw (by omega) (Or.inl hr.gather)
      · exact Or.inl hr
    · right
      split
      · rw [p_hour]
        exact hb.gather.sw (by omega)
      · exact hb
theorem eN_b2 {k w w2 i : Nat} {z t : Nat → Nat → Nat} : eN k (p_b2 z (aw_u t 3 k w) i) = eN k (p_b2 z (aw_u t 3 k w2) i) := by
  induction i with
  | zero => rfl
  | succ i ih =>
    rw [p_b2, p_b2]
    simp only [eN_u (show 10 ≠ 2 by decide) (show 10 ≠ 13 by decide), eN_u (show 8 ≠ 2 by decide) (show 8 ≠ 13 by decide), eN_u (show 7 ≠ 2 by decide) (show 7 ≠ 13 by decide), eN_u (show 6 ≠ 2 by decide) (show 6 ≠ 13 by decide)]
    rw [aw_u_ne (show 5 ≠ 3 by decide), aw_u_ne (show 5 ≠ 3 by decide), aw_u_ne (show 0 ≠ 3 by decide), aw_u_ne (show 0 ≠ 3 by decide)]
    by_cases hik : i = k
    · subst hik
      rw [eN_u2k, eN_u2k, eN_u (by decide) (by decide), eN_u (by decide) (by decide), eN_u (by decide) (by decide), eN_u (by decide) (by decide), ih]
    · rw [eN_u2 hik, eN_u2 hik, eN_u (by decide) (by decide), eN_u (by decide) (by decide), eN_u (by decide) (by decide), eN_u (by decide) (by decide), ih, aw_u_nj hik, aw_u_nj hik]
theorem eR.begin {k v d : Nat} {s t : Nat → Nat → Nat} (hk : k < t 6 0) : eR k v d (p_begin s (aw_u t 3 k v)) (p_begin s (aw_u t 3 k (v + d))) := by
  have h6 : ∀ w, aw_u t 3 k w 6 = t 6 := fun w => aw_u_ne (by decide)
  unfold p_begin
  rw [h6, h6]
  have e1 := (p_b2_lt (s := p_b1 (aw_u (aw_u (aw_u s 0 0 (t 6 0)) 0 10 0) 0 11 0) 8) (t := aw_u t 3 k v) hk).2.2.1
  have e2 := (p_b2_lt (s := p_b1 (aw_u (aw_u (aw_u s 0 0 (t 6 0)) 0 10 0) 0 11 0) 8) (t := aw_u t 3 k (v + d)) hk).2.2.1
  rw [aw_u_eq] at e1 e2
  exact ⟨eN_b2, by rw [e1, e2], by rw [e1]; exact Nat.le_refl _⟩
/-- with a strength below what is enough, the same happens -/
theorem zEn {s t u x : Nat → Nat → Nat} {k v d r : Nat} (hk : k < t 6 0) (he : v + d < p_play s (aw_u t 3 k v) u x 8 k) (h2 : r ≠ 2) (h13 : r ≠ 13) : p_play s (aw_u t 3 k (v + d)) u x r = p_play s (aw_u t 3 k v) u x r := by
  unfold p_play at *
  rcases (eR.begin (s := s) (v := v) (d := d) hk).ev (t := t) (u := u) (x := x) (i := 40) with h | h
  · exact h.row h2 h13
  · have := h.1; omega
theorem p_settle_8 {s t u x : Nat → Nat → Nat} {c h : Nat} : p_settle s t u x c h 8 c = s 8 c ∨ ∃ T, s 2 c < T ∧ p_settle s t u x c h 8 c = t 3 c - s 2 c + T := by
  unfold p_settle
  repeat' split
  · left; rw [p_fin_row (by decide) (by decide) (by decide), aw_u_ne (by decide), aw_u_ne (by decide)]
  · left; rw [p_fin_row (by decide) (by decide) (by decide), aw_u_ne (by decide), aw_u_ne (by decide)]
  · left; rw [p_fin_row (by decide) (by decide) (by decide), aw_u_ne (by decide), aw_u_ne (by decide)]
  · rename_i h1
    right; exact ⟨_, h1, by rw [p_fin_row (by decide) (by decide) (by decide), aw_u_eq]⟩
  · left; rw [p_note_row (by decide), aw_u_ne (by decide), aw_u_ne (by decide), aw_u_ne (by decide), aw_u_ne (by decide)]
theorem p_settle_2 {s t u x : Nat → Nat → Nat} {c h : Nat} : p_settle s t u x c h 2 c ≤ s 2 c := by
  rcases p_settle_c (s := s) (t := t) (u := u) (x := x) (c := c) (h := h) with ⟨-, -, -, e⟩ | ⟨-, -, -, -, -, e⟩
  · rw [e]; exact Nat.le_refl _
  · exact e
def eG (k v : Nat) (a : Nat → Nat → Nat) : Prop := v < a 8 k ∧ a 2 k ≤ v
theorem eG.sw {k v h i : Nat} {a t u x : Nat → Nat → Nat} (ht : t 3 k = v) (hG : eG k v a) : eG k v (p_sw a t u x h i) := by
  induction i with
  | zero => exact hG
  | succ i ih =>
    rw [p_sw]
    split
    · by_cases hik : i = k
      · subst hik
        refine ⟨?_, Nat.le_trans p_settle_2 ih.2⟩
        rcases p_settle_8 (s := p_sw a t u x h i) (t := t) (u := u) (x := x) (c := i) (h := h) with e | ⟨T, h1, e⟩
        · rw [e]; exact ih.1
        · rw [e, ht]; have := ih.2; omega
      · unfold eG
        rw [p_settle_ne (by decide) (Ne.symm hik), p_settle_ne (by decide) (Ne.symm hik)]; exact ih
    · exact ih
theorem zEnGt {s t u x : Nat → Nat → Nat} {k v : Nat} (hk : k < t 6 0) (hv : v < 100) : v < p_play s (aw_u t 3 k v) u x 8 k := by
  have ht : aw_u t 3 k v 3 k = v := aw_u_eq
  have key : ∀ i, eG k v (p_ev (p_begin s (aw_u t 3 k v)) (aw_u t 3 k v) u x i) := by
    intro i
    induction i with
    | zero =>
      have e := p_b2_lt (s := p_b1 (aw_u (aw_u (aw_u s 0 0 (aw_u t 3 k v 6 0)) 0 10 0) 0 11 0) 8) (t := aw_u t 3 k v) (i := aw_u t 3 k v 6 0) (j := k) (by rw [aw_u_ne (by decide)]; exact hk)
      refine ⟨?_, ?_⟩
      · show v < p_b2 _ _ _ 8 k
        rw [e.2.2.2.2.2.1]; exact hv
      · show p_b2 _ _ _ 2 k ≤ v
        rw [e.2.2.1, ht]; exact Nat.le_refl _
    | succ i ih =>
      rw [p_ev]
      split
      · rw [p_hour]
        refine eG.sw ht ?_
        unfold eG
        rw [p_gather_row (by decide) (by decide), p_gather_row (by decide) (by decide)]; exact ih
      · exact ih
  exact (key 40).1
