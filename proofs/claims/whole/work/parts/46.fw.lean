/-! THE CHARTS: distances of eight places, i = 8 * from + to -/
def f_put (z : Nat → Nat) (i v : Nat) : Nat → Nat := va_up z i (if v < z i then v else z i)
def f_e (X : Nat) (V : Nat → Nat → Nat) : Nat → Nat → Nat
  | 0 => fun _ => X
  | w + 1 => f_put (f_put (f_e X V w) (8 * V w 0 + V w 1) (V w 2 * (3 - V w 3))) (8 * V w 1 + V w 0) (V w 2 * (1 + V w 3))
def f_d0 (e : Nat → Nat) (i : Nat) : Nat := if i / 8 = i % 8 then 0 else e i
def f_s (d : Nat → Nat) (b i : Nat) : Nat := if d (8 * (i / 8) + b) + d (8 * b + i % 8) < d i then d (8 * (i / 8) + b) + d (8 * b + i % 8) else d i
def f_fw (e : Nat → Nat) : Nat → Nat → Nat
  | 0 => f_d0 e
  | k + 1 => f_s (f_fw e k) k
/-- as it is computed, place by place -/
def f_q (d : Nat → Nat) (b : Nat) : Nat → Nat → Nat
  | 0 => d
  | i + 1 => va_up (f_q d b i) i (if f_q d b i (8 * (i / 8) + b) + f_q d b i (8 * b + i % 8) < f_q d b i i then f_q d b i (8 * (i / 8) + b) + f_q d b i (8 * b + i % 8) else f_q d b i i)
theorem f_s_row {d : Nat → Nat} {b i : Nat} (hb : b < 8) (h0 : d (8 * b + b) = 0) (hi : i % 8 = b) : f_s d b i = d i := by
  unfold f_s
  rw [hi, h0, if_neg]
  have : 8 * (i / 8) + b = i := by omega
  rw [this]; omega
theorem f_s_col {d : Nat → Nat} {b i : Nat} (hb : b < 8) (h0 : d (8 * b + b) = 0) (hi : i / 8 = b) : f_s d b i = d i := by
  unfold f_s
  rw [hi, h0, if_neg]
  have : 8 * b + i % 8 = i := by omega
  rw [this]; omega
theorem f_q_s {d : Nat → Nat} {b : Nat} (hb : b < 8) (h0 : d (8 * b + b) = 0) : ∀ n i, f_q d b n i = if i < n then f_s d b i else d i := by
  intro n
  induction n with
  | zero => intro i; rw [f_q, if_neg (by omega)]
  | succ n ih =>
    intro i
    have e1 : f_q d b n (8 * (n / 8) + b) = d (8 * (n / 8) + b) := by
      rw [ih]
      split
      · exact f_s_row hb h0 (by omega)
      · rfl
    have e2 : f_q d b n (8 * b + n % 8) = d (8 * b + n % 8) := by
      rw [ih]
      split
      · exact f_s_col hb h0 (by omega)
      · rfl
    have e3 : f_q d b n n = d n := by rw [ih, if_neg (by omega)]
    rw [f_q, e1, e2, e3]
    unfold va_up
    by_cases hi : i = n
    · subst hi; rw [if_pos rfl, if_pos (show i < i + 1 by omega)]; rfl
    · rw [if_neg hi, ih]
      by_cases h2 : i < n
      · rw [if_pos h2, if_pos (by omega)]
      · rw [if_neg h2, if_neg (by omega)]
/-- what a matrix of stage k is -/
def f_I (e d : Nat → Nat) (k : Nat) : Prop :=
  (∀ p, p < 8 → d (8 * p + p) = 0) ∧ (∀ p q, p < 8 → q < 8 → p ≠ q → d (8 * p + q) ≤ e (8 * p + q)) ∧
  (∀ p q a, p < 8 → q < 8 → a < k → d (8 * p + q) ≤ d (8 * p + a) + d (8 * a + q)) ∧
  (∀ p q, p < 8 → q < 8 → p ≠ q → d (8 * p + q) < 9999 → d (8 * p + q) = e (8 * p + q) ∨ ∃ a, a < k ∧ a ≠ p ∧ e (8 * p + a) < 9999 ∧ d (8 * p + q) = e (8 * p + a) + d (8 * a + q))
theorem f_s_at {d : Nat → Nat} {k p q : Nat} (hq : q < 8) : f_s d k (8 * p + q) = if d (8 * p + k) + d (8 * k + q) < d (8 * p + q) then d (8 * p + k) + d (8 * k + q) else d (8 * p + q) := by
  unfold f_s
  rw [show (8 * p + q) / 8 = p by omega, show (8 * p + q) % 8 = q by omega]
theorem f_I.step {e d : Nat → Nat} {k : Nat} (hk : k < 8) (h : f_I e d k) : f_I e (f_s d k) (k + 1) := by
  obtain ⟨i0, i1, i2, i3⟩ := h
  have le : ∀ p q, q < 8 → f_s d k (8 * p + q) ≤ d (8 * p + q) := fun p q hq => by rw [f_s_at hq]; split <;> omega
  have le2 : ∀ p q, q < 8 → f_s d k (8 * p + q) ≤ d (8 * p + k) + d (8 * k + q) := fun p q hq => by rw [f_s_at hq]; split <;> omega
  have rk : ∀ p, f_s d k (8 * p + k) = d (8 * p + k) := fun p => f_s_row hk (i0 k hk) (by omega)
  have ck : ∀ q, q < 8 → f_s d k (8 * k + q) = d (8 * k + q) := fun q hq => f_s_col hk (i0 k hk) (by omega)
  have tri : ∀ p q a, p < 8 → q < 8 → a < k + 1 → f_s d k (8 * p + q) ≤ f_s d k (8 * p + a) + f_s d k (8 * a + q) := by
    intro p q a hp hq ha
    by_cases hak : a = k
    · subst hak
      rw [rk, ck q hq]; exact le2 p q hq
    · have ha8 : a < 8 := by omega
      have hal : a < k := by omega
      have t1 := i2 p q a hp hq hal
      have t2 := i2 k q a hk hq hal
      have t3 := i2 p k a hp hk hal
      have l1 := le p q hq
      have l2 := le2 p q hq
      rw [f_s_at (p := p) (q := a) ha8, f_s_at (p := a) (q := q) hq]
      split <;> split <;> omega
  refine ⟨fun p hp => ?_, fun p q hp hq hpq => Nat.le_trans (le p q hq) (i1 p q hp hq hpq), tri, fun p q hp hq hpq hf => ?_⟩
  · have := le p p hp
    rw [i0 p hp] at this; omega
  · by_cases hc : d (8 * p + k) + d (8 * k + q) < d (8 * p + q)
    · have ev : f_s d k (8 * p + q) = d (8 * p + k) + d (8 * k + q) := by rw [f_s_at hq, if_pos hc]
      have hpk : p ≠ k := fun z => by rw [z, i0 k hk] at hc; omega
      rcases i3 p k hp hk hpk (by omega) with h1 | ⟨a, ha, hap, hea, hd⟩
      · right
        exact ⟨k, by omega, fun z => hpk z.symm, by omega, by rw [ev, ck q hq, h1]⟩
      · right
        refine ⟨a, by omega, hap, hea, ?_⟩
        have l1 := le2 a q hq
        have l2 := tri p q a hp hq (by omega)
        have l3 := le p a (by omega)
        have l4 := i1 p a hp (by omega) (fun z => hap z.symm)
        omega
    · have ev : f_s d k (8 * p + q) = d (8 * p + q) := by rw [f_s_at hq, if_neg hc]
      rw [ev] at hf ⊢
      rcases i3 p q hp hq hpq hf with h1 | ⟨a, ha, hap, hea, hd⟩
      · left; exact h1
      · right
        refine ⟨a, by omega, hap, hea, ?_⟩
        have l1 := le a q hq
        have l2 := tri p q a hp hq (by omega)
        have l3 := le p a (by omega)
        have l4 := i1 p a hp (by omega) (fun z => hap z.symm)
        rw [ev] at l2
        omega
theorem f_I.start {e : Nat → Nat} : f_I e (f_d0 e) 0 := by
  have h1 : ∀ p q, p < 8 → q < 8 → p ≠ q → f_d0 e (8 * p + q) = e (8 * p + q) := fun p q hp hq hpq => by
    unfold f_d0; rw [if_neg (by omega)]
  refine ⟨fun p hp => ?_, fun p q hp hq hpq => by rw [h1 p q hp hq hpq]; exact Nat.le_refl _, fun p q a _ _ ha => by omega, fun p q hp hq hpq _ => Or.inl (h1 p q hp hq hpq)⟩
  unfold f_d0; rw [if_pos (by omega)]
theorem f_I.fw {e : Nat → Nat} {k : Nat} (hk : k ≤ 8) : f_I e (f_fw e k) k := by
  induction k with
  | zero => exact f_I.start
  | succ k ih => exact (ih (by omega)).step (by omega)
/-- distances that there are stay small -/
theorem f_I.small {e d : Nat → Nat} {k : Nat} (h : f_I e d k) (hk : k ≤ 8) (he : ∀ i, i < 64 → e i < 9999 → 1 ≤ e i ∧ e i ≤ 27) : ∀ p q, p < 8 → q < 8 → d (8 * p + q) < 9999 → d (8 * p + q) ≤ 216 := by
  obtain ⟨i0, i1, i2, i3⟩ := h
  intro p q hp hq
  have key : ∀ r p, p < 8 → zc (fun a => decide (d (8 * a + q) < d (8 * p + q))) 8 ≤ r → d (8 * p + q) < 9999 → d (8 * p + q) ≤ 27 * (r + 1) := by
    intro r
    induction r with
    | zero =>
      intro p hp hr hf
      by_cases hpq : p = q
      · subst hpq; rw [i0 p hp]; omega
      · rcases i3 p q hp hq hpq hf with h1 | ⟨a, ha, hap, hea, hd⟩
        · have := he (8 * p + q) (by omega) (by omega); omega
        · have h1 := he (8 * p + a) (by omega) hea
          have : zc (fun _ => false) 8 < zc (fun a => decide (d (8 * a + q) < d (8 * p + q))) 8 := zc_lt (fun _ _ z => by cases z) ⟨a, by omega, by simp; omega, rfl⟩
          omega
    | succ r ih =>
      intro p hp hr hf
      by_cases hpq : p = q
      · subst hpq; rw [i0 p hp]; omega
      · rcases i3 p q hp hq hpq hf with h1 | ⟨a, ha, hap, hea, hd⟩
        · have := he (8 * p + q) (by omega) (by omega); omega
        · have h1 := he (8 * p + a) (by omega) hea
          have hlt : zc (fun b => decide (d (8 * b + q) < d (8 * a + q))) 8 < zc (fun b => decide (d (8 * b + q) < d (8 * p + q))) 8 := zc_lt (fun b _ hb => by simp at hb ⊢; omega) ⟨a, by omega, by simp; omega, by simp⟩
          have := ih a (by omega) (by omega) (by omega)
          omega
  intro hf
  have hr : zc (fun a => decide (d (8 * a + q) < d (8 * p + q))) 8 < zc (fun _ => true) 8 := zc_lt (fun _ _ _ => rfl) ⟨p, hp, rfl, by simp⟩
  have h8 : zc (fun _ => true) 8 ≤ 8 := zc_le
  have := key 7 p hp (by omega) hf
  omega
/-- the same numbers, or none in both -/
def f_R (d1 d2 : Nat → Nat) : Prop := ∀ i, i < 64 → (d1 i = d2 i ∧ d2 i ≤ 216) ∨ (d1 i = 1000 ∧ d2 i = 9999)
theorem f_R.step {e d1 d2 : Nat → Nat} {k : Nat} (hR : f_R d1 d2) (h : f_I e d2 k) (hk : k < 8) (he : ∀ i, i < 64 → e i < 9999 → 1 ≤ e i ∧ e i ≤ 27) (hm : ∀ i, i < 64 → d2 i ≤ 9999) : f_R (f_s d1 k) (f_s d2 k) := by
  have hs := (h.step hk).small (by omega) he
  intro i hi
  have ei : i = 8 * (i / 8) + i % 8 := by omega
  have r1 := hR i hi
  have r2 := hR (8 * (i / 8) + k) (by omega)
  have r3 := hR (8 * k + i % 8) (by omega)
  have s2 := hs (i / 8) (i % 8) (by omega) (by omega)
  rw [← ei] at s2
  unfold f_s at s2 ⊢
  by_cases c1 : d2 (8 * (i / 8) + k) + d2 (8 * k + i % 8) < d2 i
  · rw [if_pos c1] at s2 ⊢
    have h1 := hm i hi
    have h2 := s2 (by omega)
    left
    rw [if_pos (by omega)]
    omega
  · rw [if_neg c1] at s2 ⊢
    rcases r1 with ⟨a1, a2⟩ | ⟨a1, a2⟩
    · left
      rw [if_neg (by omega)]; omega
    · right
      rw [if_neg (by omega)]; omega
theorem f_fw_le {e : Nat → Nat} {k : Nat} (h : ∀ i, i < 64 → e i ≤ 9999) : ∀ i, i < 64 → f_fw e k i ≤ 9999 := by
  induction k with
  | zero => intro i hi; rw [f_fw, f_d0]; split
            · omega
            · exact h i hi
  | succ k ih =>
    intro i hi
    rw [f_fw, f_s]
    have := ih i hi
    split <;> omega
theorem f_R.fw {e1 e2 : Nat → Nat} (hR : f_R e1 e2) (he : ∀ i, i < 64 → e2 i < 9999 → 1 ≤ e2 i ∧ e2 i ≤ 27) {k : Nat} (hk : k ≤ 8) : f_R (f_fw e1 k) (f_fw e2 k) := by
  induction k with
  | zero =>
    intro i hi
    rw [f_fw, f_fw, f_d0, f_d0]
    by_cases h : i / 8 = i % 8
    · left; rw [if_pos h, if_pos h]; omega
    · rw [if_neg h, if_neg h]; exact hR i hi
  | succ k ih => exact (ih (by omega)).step (f_I.fw (by omega)) (by omega) he (f_fw_le (fun i hi => by rcases hR i hi with ⟨a, b⟩ | ⟨a, b⟩ <;> omega))
def f_Vok (V : Nat → Nat → Nat) (n : Nat) : Prop := ∀ w, w < n → V w 0 < 8 ∧ V w 1 < 8 ∧ V w 0 ≠ V w 1 ∧ 1 ≤ V w 2 ∧ V w 2 ≤ 9 ∧ V w 3 ≤ 2
theorem f_put_R {z1 z2 : Nat → Nat} {i v : Nat} (h : f_R z1 z2) (hv : 1 ≤ v ∧ v ≤ 27) : f_R (f_put z1 i v) (f_put z2 i v) := by
  intro j hj
  unfold f_put va_up
  by_cases hji : j = i
  · subst hji
    rw [if_pos rfl, if_pos rfl]
    left
    rcases h j hj with ⟨a, b⟩ | ⟨a, b⟩
    · rw [a]; split <;> omega
    · rw [a, b, if_pos (by omega), if_pos (by omega)]; omega
  · rw [if_neg hji, if_neg hji]; exact h j hj
theorem f_put_27 {z : Nat → Nat} {i v : Nat} (h : ∀ j, j < 64 → z j < 9999 → 1 ≤ z j ∧ z j ≤ 27) (hv : 1 ≤ v ∧ v ≤ 27) : ∀ j, j < 64 → f_put z i v j < 9999 → 1 ≤ f_put z i v j ∧ f_put z i v j ≤ 27 := by
  intro j hj
  unfold f_put va_up
  by_cases hji : j = i
  · subst hji
    rw [if_pos rfl]
    have := h j hj
    split <;> omega
  · rw [if_neg hji]; exact h j hj
theorem f_len {l s : Nat} (hl : 1 ≤ l ∧ l ≤ 9) (hs : s ≤ 2) : (1 ≤ l * (3 - s) ∧ l * (3 - s) ≤ 27) ∧ (1 ≤ l * (1 + s) ∧ l * (1 + s) ≤ 27) := by
  rcases (show s = 0 ∨ s = 1 ∨ s = 2 by omega) with rfl | rfl | rfl <;> omega
theorem f_e_R {V : Nat → Nat → Nat} {n : Nat} (h : f_Vok V n) : f_R (f_e 1000 V n) (f_e 9999 V n) ∧ ∀ i, i < 64 → f_e 9999 V n i < 9999 → 1 ≤ f_e 9999 V n i ∧ f_e 9999 V n i ≤ 27 := by
  induction n with
  | zero => exact ⟨fun i _ => Or.inr ⟨rfl, rfl⟩, fun i _ h => absurd h (by show ¬ (9999 : Nat) < 9999; omega)⟩
  | succ n ih =>
    obtain ⟨a, b⟩ := ih (fun w hw => h w (by omega))
    obtain ⟨h0, h1, h2, h3, h4, h5⟩ := h n (by omega)
    obtain ⟨l1, l2⟩ := f_len ⟨h3, h4⟩ h5
    exact ⟨f_put_R (f_put_R a l1) l2, f_put_27 (f_put_27 b l1) l2⟩
