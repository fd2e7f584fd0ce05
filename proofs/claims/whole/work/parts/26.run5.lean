def p_g1 (s : Nat → Nat → Nat) : Nat → Nat → Nat → Nat
  | 0 => s
  | i + 1 => aw_u (p_g1 s i) 3 i 0
def p_g2 (s : Nat → Nat → Nat) (h : Nat) : Nat → Nat → Nat → Nat
  | 0 => s
  | i + 1 => if p_g2 s h i 1 i = h ∨ p_g2 s h i 7 i ≠ 0 then aw_u (p_g2 s h i) 3 (p_g2 s h i 5 i) (p_g2 s h i 3 (p_g2 s h i 5 i) + 1) else p_g2 s h i
def p_g3 (s : Nat → Nat → Nat) (h : Nat) : Nat → Nat → Nat → Nat
  | 0 => s
  | i + 1 => if p_g3 s h i 0 10 = 0 ∧ 1 < p_g3 s h i 3 i then aw_u (aw_u (p_g3 s h i) 0 10 (h + 1)) 0 11 (i + 1) else p_g3 s h i
def p_gather (s : Nat → Nat → Nat) (h : Nat) : Nat → Nat → Nat := p_g3 (p_g2 (p_g1 s 8) h (s 0 0)) h 8
def p_b1 (s : Nat → Nat → Nat) : Nat → Nat → Nat → Nat
  | 0 => s
  | i + 1 => aw_u (p_b1 s i) 4 i 0
def p_b2 (s t : Nat → Nat → Nat) : Nat → Nat → Nat → Nat
  | 0 => s
  | i + 1 => aw_u (aw_u (aw_u (aw_u (aw_u (aw_u (aw_u (p_b2 s t i) 1 i (t 5 i)) 5 i (t 0 i)) 2 i (t 3 i)) 6 i 1) 7 i 0) 8 i 100) 10 i 0
def p_begin (s t : Nat → Nat → Nat) : Nat → Nat → Nat := p_b2 (p_b1 (aw_u (aw_u (aw_u s 0 0 (t 6 0)) 0 10 0) 0 11 0) 8) t (t 6 0)
def p_min (f : Nat → Nat) : Nat → Nat
  | 0 => 1000
  | i + 1 => if f i < p_min f i then f i else p_min f i
def p_sw (s t u x : Nat → Nat → Nat) (h : Nat) : Nat → Nat → Nat → Nat
  | 0 => s
  | i + 1 => if p_sw s t u x h i 1 i = h then p_settle (p_sw s t u x h i) t u x i h else p_sw s t u x h i
/-- an hour -/
def p_hour (s t u x : Nat → Nat → Nat) (h : Nat) : Nat → Nat → Nat := p_sw (p_gather s h) t u x h (s 0 0)
/-- the hours one after the other, as a run takes them -/
def p_ev (s t u x : Nat → Nat → Nat) : Nat → Nat → Nat → Nat
  | 0 => s
  | i + 1 => if p_min (p_ev s t u x i 1) (s 0 0) < 40 then p_hour (p_ev s t u x i) t u x (p_min (p_ev s t u x i 1) (s 0 0)) else p_ev s t u x i
def p_play (s t u x : Nat → Nat → Nat) : Nat → Nat → Nat := p_ev (p_begin s t) t u x 40
theorem p_g1_row {s : Nat → Nat → Nat} {i a : Nat} (h : a ≠ 3) : p_g1 s i a = s a := by
  induction i with
  | zero => rfl
  | succ i ih => rw [p_g1, aw_u_ne h, ih]
theorem p_g1_lt {s : Nat → Nat → Nat} {i j : Nat} (h : j < i) : p_g1 s i 3 j = 0 := by
  induction i with
  | zero => omega
  | succ i ih =>
    rw [p_g1]
    by_cases hj : j = i
    · subst hj; rw [aw_u_eq]
    · rw [aw_u_nj hj]; exact ih (by omega)
theorem p_g2_row {s : Nat → Nat → Nat} {h i a : Nat} (ha : a ≠ 3) : p_g2 s h i a = s a := by
  induction i with
  | zero => rfl
  | succ i ih =>
    rw [p_g2]
    split
    · rw [aw_u_ne ha, ih]
    · exact ih
theorem p_g2_le {s : Nat → Nat → Nat} {h i p : Nat} (h0 : ∀ p, p < 8 → s 3 p = 0) (hp : p < 8) : p_g2 s h i 3 p ≤ i := by
  induction i with
  | zero => rw [p_g2, h0 p hp]; omega
  | succ i ih =>
    rw [p_g2]
    split
    · by_cases hj : p = p_g2 s h i 5 i
      · rw [hj, aw_u_eq, ← hj]; omega
      · rw [aw_u_nj hj]; omega
    · omega
theorem p_g3_row {s : Nat → Nat → Nat} {h i a : Nat} (ha : a ≠ 0) : p_g3 s h i a = s a := by
  induction i with
  | zero => rfl
  | succ i ih =>
    rw [p_g3]
    split
    · rw [aw_u_ne ha, aw_u_ne ha, ih]
    · exact ih
theorem p_g3_00 {s : Nat → Nat → Nat} {h i : Nat} : p_g3 s h i 0 0 = s 0 0 := by
  induction i with
  | zero => rfl
  | succ i ih =>
    rw [p_g3]
    split
    · rw [aw_u_nj (by decide), aw_u_nj (by decide), ih]
    · exact ih
theorem p_g3_stop {s : Nat → Nat → Nat} {h i : Nat} (h0 : p_g3 s h i 0 10 ≠ 0) : ∀ d, p_g3 s h (i + d) = p_g3 s h i := by
  intro d
  induction d with
  | zero => rfl
  | succ d ih => rw [← Nat.add_assoc, p_g3, ih, if_neg (fun z => h0 z.1)]
theorem p_g3_10 {s : Nat → Nat → Nat} {h i : Nat} (h0 : s 0 10 < 1000) (hh : h < 900) : p_g3 s h i 0 10 < 1000 := by
  induction i with
  | zero => exact h0
  | succ i ih =>
    rw [p_g3]
    split
    · rw [aw_u_nj (by decide), aw_u_eq]; omega
    · exact ih
theorem p_b1_row {s : Nat → Nat → Nat} {i a : Nat} (h : a ≠ 4) : p_b1 s i a = s a := by
  induction i with
  | zero => rfl
  | succ i ih => rw [p_b1, aw_u_ne h, ih]
theorem p_b2_0 {s t : Nat → Nat → Nat} {i : Nat} : p_b2 s t i 0 = s 0 := by
  induction i with
  | zero => rfl
  | succ i ih =>
    rw [p_b2, aw_u_ne (by decide), aw_u_ne (by decide), aw_u_ne (by decide), aw_u_ne (by decide), aw_u_ne (by decide), aw_u_ne (by decide), aw_u_ne (by decide), ih]
theorem p_min_le {f : Nat → Nat} {i : Nat} : p_min f i ≤ 1000 := by
  induction i with
  | zero => exact Nat.le_refl _
  | succ i ih => rw [p_min]; split <;> omega
theorem zRun.uM {s : Nat → Nat → Nat} {r : Nat} {I0 I : Nat → Nat → Int32} {j v : Nat} (h : zRun s r I0 I) (hj : j = 10 ∨ j = 11) : zRun (aw_u s 0 j (v + 1)) r I0 (aw_u I (r + 0) j (nI v)) := by
  have h1 := h.u (i := 0) (j := j) (v := v + 1) (by decide)
  have e : zE 0 j (v + 1) = nI v := by rcases hj with rfl | rfl <;> exact nI_pred v
  rw [e] at h1
  exact h1
theorem zRun.at0 {s : Nat → Nat → Nat} {r : Nat} {I0 I : Nat → Nat → Int32} (h : zRun s r I0 I) (j : Nat) (hj : j = 0 ∨ j = 10 ∨ j = 11) : I (r + 0) j = zE 0 j (s 0 j) := h.1 0 j (by decide) (by decide) (fun _ => hj) (by omega)
