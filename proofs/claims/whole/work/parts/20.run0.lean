/-! Numbers. A place that may be NONE (-1) is held by a number one higher. -/
theorem zi_mul8 (a b : Nat) : nI a * 8 + nI b = nI (a * 8 + b) := by rw [show (8 : Int32) = nI 8 from rfl, pk_mul, nI_add]
theorem zi_none {w : Nat} (h : w < 100000) : (nI w - 1 = -1) ↔ w = 0 := by
  constructor
  · intro e
    have e1 : nI w = nI 0 := by
      have e2 : nI w - 1 + 1 = -1 + 1 := by rw [e]
      rw [Int32.sub_add_cancel] at e2
      exact e2
    exact (nI_eq (by omega) (by decide)).mp e1
  · rintro rfl; rfl
theorem zi_pred {w : Nat} (h : w ≠ 0) : nI w - 1 = nI (w - 1) := by
  obtain ⟨v, rfl⟩ : ∃ v, w = v + 1 := ⟨w - 1, by omega⟩
  exact nI_pred v
theorem zi_toInt {w : Nat} (h : w < 100000) : (nI w).toInt = w := nI_toInt (by omega)
theorem zi_le {a b : Nat} (ha : a < 100000) (hb : b < 100000) : (nI a ≤ nI b) ↔ a ≤ b := nI_leI (by omega) (by omega)
theorem zi_lt {a b : Nat} (ha : a < 100000) (hb : b < 100000) : (nI a < nI b) ↔ a < b := nI_ltI (by omega) (by omega)
theorem zi_eq {a b : Nat} (ha : a < 100000) (hb : b < 100000) : (nI a = nI b) ↔ a = b := nI_eq (by omega) (by omega)
/-- how a number of a run stands in its row: rows 7 (ended), 14 (whithers), and the two of the meeting, may hold NONE -/
def zE (i j v : Nat) : Int32 := bif Nat.beq i 7 || Nat.beq i 14 || (Nat.beq i 0 && !Nat.beq j 0) then nI v - 1 else nI v
/-- the rows of the run at r hold s, and since I0 nothing else has changed -/
def zRun (s : Nat → Nat → Nat) (r : Nat) (I0 I : Nat → Nat → Int32) : Prop := (∀ i j, i < 15 → i ≠ 9 → (i = 0 → j = 0 ∨ j = 10 ∨ j = 11) → j < 64 → I (r + i) j = zE i j (s i j)) ∧ ∀ o, (o < r ∨ r + 14 < o) → I o = I0 o
theorem zRun.u {s : Nat → Nat → Nat} {r : Nat} {I0 I : Nat → Nat → Int32} {i j v : Nat} (h : zRun s r I0 I) (hi : i < 15) : zRun (aw_u s i j v) r I0 (aw_u I (r + i) j (zE i j v)) := by
  refine ⟨fun a b ha h9 h0 hb => ?_, fun o ho => ?_⟩
  · by_cases hai : a = i
    · subst hai
      by_cases hbj : b = j
      · subst hbj; rw [aw_u_eq, aw_u_eq]
      · rw [aw_u_nj hbj, aw_u_nj hbj]; exact h.1 a b ha h9 h0 hb
    · rw [aw_u_ne hai, aw_u_ne (show r + a ≠ r + i by omega)]; exact h.1 a b ha h9 h0 hb
  · rw [aw_u_ne (show o ≠ r + i by omega)]; exact h.2 o ho
theorem zRun.at {s : Nat → Nat → Nat} {r : Nat} {I0 I : Nat → Nat → Int32} (h : zRun s r I0 I) (i j : Nat) (hi : i < 15) (h9 : i ≠ 9) (h0 : i ≠ 0) (hj : j < 64) : I (r + i) j = zE i j (s i j) := h.1 i j hi h9 (fun z => absurd z h0) hj
/-- a step is noted -/
def p_note (s : Nat → Nat → Nat) (c h p l w : Nat) : Nat → Nat → Nat :=
  if 8 ≤ s 10 c then s else aw_u (aw_u (aw_u (aw_u (aw_u s 11 (c * 8 + s 10 c) h) 12 (c * 8 + s 10 c) p) 13 (c * 8 + s 10 c) l) 14 (c * 8 + s 10 c) w) 10 c (s 10 c + 1)
