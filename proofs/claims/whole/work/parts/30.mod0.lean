/-! THE REFERENCE's run: rows 94 .. 102 (state, place, strength, whither, arrives, ends, kept, present, arrivals), and two fields of 81 -/
def mE (i j v : Nat) : Int32 := bif Nat.beq i 1 || Nat.beq i 3 || Nat.beq i 5 || (Nat.beq i 6 && Nat.beq (j % 2) 1) then nI v - 1 else nI v
def zMod (m : Nat → Nat → Nat) (I0 I : Nat → Nat → Int32) : Prop := (∀ i j, i < 9 → j < 1280 → I (94 + i) j = mE i j (m i j)) ∧ (I 81 26 = nI (m 9 0) - 1 ∧ I 81 27 = nI (m 9 1) - 1) ∧ (∀ o, o ≠ 81 → (o < 94 ∨ 102 < o) → I o = I0 o) ∧ ∀ j, j ≠ 26 → j ≠ 27 → I 81 j = I0 81 j
theorem zMod.u {m : Nat → Nat → Nat} {I0 I : Nat → Nat → Int32} {i j v : Nat} (h : zMod m I0 I) (hi : i < 9) : zMod (aw_u m i j v) I0 (aw_u I (94 + i) j (mE i j v)) := by
  refine ⟨fun a b ha hb => ?_, ?_, fun o h81 ho => ?_, fun b h1 h2 => ?_⟩
  · by_cases hai : a = i
    · subst hai
      by_cases hbj : b = j
      · subst hbj; rw [aw_u_eq, aw_u_eq]
      · rw [aw_u_nj hbj, aw_u_nj hbj]; exact h.1 a b ha hb
    · rw [aw_u_ne hai, aw_u_ne (show 94 + a ≠ 94 + i by omega)]; exact h.1 a b ha hb
  · rw [aw_u_ne (show 81 ≠ 94 + i by omega), aw_u_ne (show 9 ≠ i by omega)]; exact h.2.1
  · rw [aw_u_ne (show o ≠ 94 + i by omega)]; exact h.2.2.1 o h81 ho
  · rw [aw_u_ne (show 81 ≠ 94 + i by omega)]; exact h.2.2.2 b h1 h2
theorem zMod.u0 {m : Nat → Nat → Nat} {I0 I : Nat → Nat → Int32} {v : Nat} (h : zMod m I0 I) : zMod (aw_u m 9 0 v) I0 (aw_u I 81 26 (nI v - 1)) := by
  refine ⟨fun a b ha hb => ?_, ⟨?_, ?_⟩, fun o h81 ho => ?_, fun b h1 h2 => ?_⟩
  · rw [aw_u_ne (show a ≠ 9 by omega), aw_u_ne (show 94 + a ≠ 81 by omega)]; exact h.1 a b ha hb
  · rw [aw_u_eq, aw_u_eq]
  · rw [aw_u_nj (by decide), aw_u_nj (by decide)]; exact h.2.1.2
  · rw [aw_u_ne h81]; exact h.2.2.1 o h81 ho
  · rw [aw_u_nj h1]; exact h.2.2.2 b h1 h2
theorem zMod.u1 {m : Nat → Nat → Nat} {I0 I : Nat → Nat → Int32} {v : Nat} (h : zMod m I0 I) : zMod (aw_u m 9 1 v) I0 (aw_u I 81 27 (nI v - 1)) := by
  refine ⟨fun a b ha hb => ?_, ⟨?_, ?_⟩, fun o h81 ho => ?_, fun b h1 h2 => ?_⟩
  · rw [aw_u_ne (show a ≠ 9 by omega), aw_u_ne (show 94 + a ≠ 81 by omega)]; exact h.1 a b ha hb
  · rw [aw_u_nj (by decide), aw_u_nj (by decide)]; exact h.2.1.1
  · rw [aw_u_eq, aw_u_eq]
  · rw [aw_u_ne h81]; exact h.2.2.1 o h81 ho
  · rw [aw_u_nj h2]; exact h.2.2.2 b h1 h2
theorem aw_u_self {α : Type} {F : Nat → Nat → α} {o j : Nat} : aw_u F o j (F o j) = F := by
  funext a b
  by_cases ha : a = o
  · subst ha
    by_cases hb : b = j
    · subst hb; rw [aw_u_eq]
    · rw [aw_u_nj hb]
  · rw [aw_u_ne ha]
theorem zMod.at {m : Nat → Nat → Nat} {I0 I : Nat → Nat → Int32} (h : zMod m I0 I) (i j : Nat) (hi : i < 9) (hj : j < 1280) : I (94 + i) j = mE i j (m i j) := h.1 i j hi hj
/-- the shifted rows, stored by what they hold -/
theorem zMod.us {m : Nat → Nat → Nat} {I0 I : Nat → Nat → Int32} {i j v : Nat} (h : zMod m I0 I) (hi : i = 1 ∨ i = 3 ∨ i = 5) : zMod (aw_u m i j (v + 1)) I0 (aw_u I (94 + i) j (nI v)) := by
  have h1 := h.u (i := i) (j := j) (v := v + 1) (by omega)
  have e : mE i j (v + 1) = nI v := by rcases hi with rfl | rfl | rfl <;> exact nI_pred v
  rw [e] at h1
  exact h1
def zCar (t : Nat → Nat → Nat) (I : Nat → Nat → Int32) : Prop := (∀ j k, j < 5 → k < t 6 0 → I 89 (5 * k + j) = nI (t j k)) ∧ (∀ k, k < t 6 0 → I 90 k = nI (t 5 k)) ∧ I 81 9 = nI (t 6 0) ∧ I 81 14 = nI (t 6 1)
def zYm (y : Nat → Nat → Nat) (I : Nat → Nat → Int32) : Prop := ∀ j, j < 64 → I 92 j = nI (y 0 j) ∧ I 93 j = nI (y 1 j)
def zAm (u : Nat → Nat → Nat) (I : Nat → Nat → Int32) : Prop := I 81 12 = nI (u 2 0) ∧ ∀ a, a < 8 → I 91 (2 * a) = nI (u 0 a) ∧ I 91 (2 * a + 1) = nI (u 1 a)
theorem zCar.mv {t m : Nat → Nat → Nat} {I0 I : Nat → Nat → Int32} (h : zCar t I0) (hM : zMod m I0 I) : zCar t I :=
  ⟨fun j k hj hk => by rw [hM.2.2.1 89 (by decide) (by decide)]; exact h.1 j k hj hk, fun k hk => by rw [hM.2.2.1 90 (by decide) (by decide)]; exact h.2.1 k hk, by rw [hM.2.2.2 9 (by decide) (by decide)]; exact h.2.2.1, by rw [hM.2.2.2 14 (by decide) (by decide)]; exact h.2.2.2⟩
theorem zYm.mv {y m : Nat → Nat → Nat} {I0 I : Nat → Nat → Int32} (h : zYm y I0) (hM : zMod m I0 I) : zYm y I :=
  fun j hj => ⟨by rw [hM.2.2.1 92 (by decide) (by decide)]; exact (h j hj).1, by rw [hM.2.2.1 93 (by decide) (by decide)]; exact (h j hj).2⟩
theorem zAm.mv {u m : Nat → Nat → Nat} {I0 I : Nat → Nat → Int32} (h : zAm u I0) (hM : zMod m I0 I) : zAm u I :=
  ⟨by rw [hM.2.2.2 12 (by decide) (by decide)]; exact h.1, fun a ha => by rw [hM.2.2.1 91 (by decide) (by decide)]; exact h.2 a ha⟩
theorem zi_8mul (a b : Nat) : 8 * nI a + nI b = nI (8 * a + b) := by rw [show (8 : Int32) = nI 8 from rfl, pk_mul, nI_add]
theorem zi_5mul (a b : Nat) : 5 * nI a + nI b = nI (5 * a + b) := by rw [show (5 : Int32) = nI 5 from rfl, pk_mul, nI_add]
theorem zi_5m (a : Nat) : 5 * nI a = nI (5 * a) := by rw [show (5 : Int32) = nI 5 from rfl, pk_mul]
theorem zi_2m (a : Nat) : 2 * nI a = nI (2 * a) := by rw [show (2 : Int32) = nI 2 from rfl, pk_mul]
theorem zi_4m (a : Nat) : 4 * nI a = nI (4 * a) := by rw [show (4 : Int32) = nI 4 from rfl, pk_mul]
theorem zi_32m (a b : Nat) : 32 * nI a + nI b = nI (32 * a + b) := by rw [show (32 : Int32) = nI 32 from rfl, pk_mul, nI_add]
def m_told (m t u : Nat → Nat → Nat) (k h p : Nat) : Bool := decide (t 2 k < 2) && (p_tells t u h p || (t 2 k == 1 && decide (1 < m 7 p)))
def m_nc (y : Nat → Nat → Nat) (p g q : Nat) : Bool := decide (y 0 (8 * p + q) < 9999) && (y 0 (8 * p + q) + y 1 (8 * q + g) == y 1 (8 * p + g))
def m_nx (y : Nat → Nat → Nat) (p g : Nat) : Nat → Nat
  | 0 => 0
  | i + 1 => if m_nx y p g i ≠ 0 then m_nx y p g i else if m_nc y p g i = true then i + 1 else 0
def m_next (y : Nat → Nat → Nat) (p g : Nat) : Nat := m_nx y p g 8
theorem m_nx_stop {y : Nat → Nat → Nat} {p g i : Nat} (h : m_nx y p g i ≠ 0) : ∀ d, m_nx y p g (i + d) = m_nx y p g i := by
  intro d
  induction d with
  | zero => rfl
  | succ d ih => rw [← Nat.add_assoc, m_nx, ih, if_pos h]
theorem m_nx_le {y : Nat → Nat → Nat} {p g i : Nat} : m_nx y p g i ≤ i := by
  induction i with
  | zero => exact Nat.le_refl _
  | succ i ih => rw [m_nx]; repeat' split
                 all_goals omega
def m_stays (m : Nat → Nat → Nat) (k h a : Nat) : Nat → Nat → Nat := aw_u (aw_u (aw_u m 0 k a) 5 k (h + 1)) 3 k 0
def m_goes (m t u y : Nat → Nat → Nat) (k h : Nat) : Nat → Nat → Nat :=
  if m 1 k - 1 = t 1 k then m_stays m k h 2
  else if m_told m t u k h (m 1 k - 1) = true then m_stays m k h 3
  else if 9999 ≤ y 1 (8 * (m 1 k - 1) + t 1 k) then m_stays m k h 5
  else if m 2 k < y 0 (8 * (m 1 k - 1) + (m_next y (m 1 k - 1) (t 1 k) - 1)) + t 4 k then m_stays m k h 4
  else aw_u (aw_u (aw_u (aw_u (aw_u m 2 k (m 2 k - (y 0 (8 * (m 1 k - 1) + (m_next y (m 1 k - 1) (t 1 k) - 1)) + t 4 k))) 0 k 1) 1 k 0) 3 k (m_next y (m 1 k - 1) (t 1 k))) 4 k (h + y 0 (8 * (m 1 k - 1) + (m_next y (m 1 k - 1) (t 1 k) - 1)))
def m_g1 (m : Nat → Nat → Nat) : Nat → Nat → Nat → Nat
  | 0 => m
  | i + 1 => aw_u (m_g1 m i) 7 i 0
def m_ar (m : Nat → Nat → Nat) (h i : Nat) : Nat → Nat → Nat := if m 4 i = h then aw_u (aw_u m 1 i (m 3 i)) 8 (m 3 i - 1) (m 8 (m 3 i - 1) + 1) else m
def m_pr (m : Nat → Nat → Nat) (i : Nat) : Nat → Nat → Nat := if m 1 i ≠ 0 then aw_u m 7 (m 1 i - 1) (m 7 (m 1 i - 1) + 1) else m
def m_g2 (m : Nat → Nat → Nat) (h : Nat) : Nat → Nat → Nat → Nat
  | 0 => m
  | i + 1 => m_pr (m_ar (m_g2 m h i) h i) i
def m_g3 (m : Nat → Nat → Nat) (h : Nat) : Nat → Nat → Nat → Nat
  | 0 => m
  | j + 1 => if 1 < m_g3 m h j 7 (7 - j) ∧ (m_g3 m h j 9 0 = 0 ∨ m_g3 m h j 9 0 = h + 1) then aw_u (aw_u (m_g3 m h j) 9 0 (h + 1)) 9 1 (7 - j + 1) else m_g3 m h j
def m_gathers (m : Nat → Nat → Nat) (h k : Nat) : Nat → Nat → Nat := m_g3 (m_g2 (m_g1 m 8) h k) h 8
def m_kp (m : Nat → Nat → Nat) (h : Nat) : Nat → Nat → Nat → Nat
  | 0 => m
  | i + 1 => aw_u (aw_u (aw_u (aw_u (m_kp m h i) 6 (32 * h + 4 * i) (m_kp m h i 0 i)) 6 (32 * h + 4 * i + 1) (m_kp m h i 1 i)) 6 (32 * h + 4 * i + 2) (m_kp m h i 2 i)) 6 (32 * h + 4 * i + 3) (if m_kp m h i 0 i = 1 then m_kp m h i 3 i else 0)
def m_sw (m t u y : Nat → Nat → Nat) (h : Nat) : Nat → Nat → Nat → Nat
  | 0 => m
  | i + 1 => if m_sw m t u y h i 4 i = h then m_goes (m_sw m t u y h i) t u y i h else m_sw m t u y h i
def m_hour (m t u y : Nat → Nat → Nat) (h : Nat) : Nat → Nat → Nat := m_kp (m_sw (m_gathers m h (t 6 0)) t u y h (t 6 0)) h (t 6 0)
def m_l1 (m : Nat → Nat → Nat) : Nat → Nat → Nat → Nat
  | 0 => m
  | i + 1 => aw_u (aw_u (aw_u (aw_u (m_l1 m i) 0 i 0) 1 i 0) 5 i 0) 8 i 0
def m_l2 (m t : Nat → Nat → Nat) : Nat → Nat → Nat → Nat
  | 0 => m
  | i + 1 => aw_u (aw_u (aw_u (m_l2 m t i) 2 i (t 3 i)) 3 i (t 0 i + 1)) 4 i (t 5 i)
def m_l0 (m t : Nat → Nat → Nat) : Nat → Nat → Nat := aw_u (aw_u (m_l2 (m_l1 m 8) t (t 6 0)) 9 0 0) 9 1 0
def m_ev (m t u y : Nat → Nat → Nat) : Nat → Nat → Nat → Nat
  | 0 => m
  | h + 1 => m_hour (m_ev m t u y h) t u y h
def m_lives (m t u y : Nat → Nat → Nat) : Nat → Nat → Nat := m_ev (m_l0 m t) t u y 40
abbrev zPm (n : Nat) (L : Nat → Nat → Int64) (c : Nat) (I0 : Nat → Nat → Int32) (z : Nat → Nat → Nat) : Option Value → aw_H → Prop := fun v h2 => v = none ∧ ∃ I2, h2 = zH n I2 L c ∧ zMod z I0 I2
