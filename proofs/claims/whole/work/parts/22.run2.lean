theorem zi_s : ∀ n, n < 32 → ((nI n &&& 31).toBitVec.smod 32).toNat = n := by decide
theorem zi_bit {w a : Nat} (hw : w < 2 ^ 31) (ha : a < 32) : (nI w >>> (nI a &&& 31)) &&& 1 = nI (w / 2 ^ a % 2) := by
  rw [pk_shrN hw _ a (zi_s a ha), pk_andN (k := 1) (Nat.lt_of_le_of_lt (Nat.div_le_self _ _) (by omega)) (by decide)]
theorem zi_tb (w a : Nat) : (w / 2 ^ a % 2 = 0) ↔ w.testBit a = false := by
  rw [Nat.testBit_eq_decide_div_mod_eq]
  simp
/-- a setting's numbers: rows 0 .. 5 (starts, goals, sorts, strengths, loads, lates), 6 0 how many, 6 1 the answers that are left out -/
def zSet (t : Nat → Nat → Nat) (s a : Nat) (I : Nat → Nat → Int32) : Prop := (∀ i j, i < 6 → j < 8 → I (a + i) j = nI (t i j)) ∧ I s 8 = nI (t 6 0) ∧ I s 9 = nI (t 6 1)
/-- a chart's: 0 steps, 1 sums, 2 turns (one higher) -/
def zCh (x : Nat → Nat → Nat) (ch : Nat) (I : Nat → Nat → Int32) : Prop := ∀ j, j < 64 → I (ch + 1) j = nI (x 0 j) ∧ I (ch + 2) j = nI (x 1 j) ∧ I (ch + 3) j = nI (x 2 j) - 1
/-- the answers': 0 hours, 1 places, 2 0 how many -/
def zAn (u : Nat → Nat → Nat) (I : Nat → Nat → Int32) : Prop := I 8 2 = nI (u 2 0) ∧ ∀ a, a < 8 → I 9 a = nI (u 0 a) ∧ I 10 a = nI (u 1 a)
def p_hit (t u : Nat → Nat → Nat) (h p a : Nat) : Bool := !((t 6 1).testBit a) && (u 0 a == h) && (u 1 a == p)
def p_tells (t u : Nat → Nat → Nat) (h p : Nat) : Bool := (List.range (u 2 0)).any (p_hit t u h p)
def p_told (s t u : Nat → Nat → Nat) (c h p : Nat) : Bool := (!(t 2 c == 2) && p_tells t u h p) || (t 2 c == 1 && decide (1 < s 3 p))
/-- a carter that arrives in an hour -/
def p_fin (s : Nat → Nat → Nat) (c h p : Nat) : Nat → Nat → Nat := p_note (aw_u (aw_u s 7 c (h + 1)) 1 c 1000) c h p (s 2 c) 0
def p_settle (s t u x : Nat → Nat → Nat) (c h : Nat) : Nat → Nat → Nat :=
  if s 5 c = t 1 c then p_fin (aw_u (aw_u s 4 (s 5 c) (s 4 (s 5 c) + 1)) 6 c 2) c h (s 5 c)
  else if p_told s t u c h (s 5 c) = true then p_fin (aw_u (aw_u s 4 (s 5 c) (s 4 (s 5 c) + 1)) 6 c 3) c h (s 5 c)
  else if x 2 (s 5 c * 8 + t 1 c) = 0 then p_fin (aw_u (aw_u s 4 (s 5 c) (s 4 (s 5 c) + 1)) 6 c 5) c h (s 5 c)
  else if s 2 c < x 0 (s 5 c * 8 + (x 2 (s 5 c * 8 + t 1 c) - 1)) + t 4 c then p_fin (aw_u (aw_u (aw_u s 4 (s 5 c) (s 4 (s 5 c) + 1)) 6 c 4) 8 c (t 3 c - s 2 c + (x 0 (s 5 c * 8 + (x 2 (s 5 c * 8 + t 1 c) - 1)) + t 4 c))) c h (s 5 c)
  else p_note (aw_u (aw_u (aw_u (aw_u s 4 (s 5 c) (s 4 (s 5 c) + 1)) 2 c (s 2 c - (x 0 (s 5 c * 8 + (x 2 (s 5 c * 8 + t 1 c) - 1)) + t 4 c))) 1 c (h + x 0 (s 5 c * 8 + (x 2 (s 5 c * 8 + t 1 c) - 1)))) 5 c (x 2 (s 5 c * 8 + t 1 c) - 1)) c h (s 5 c) (s 2 c - (x 0 (s 5 c * 8 + (x 2 (s 5 c * 8 + t 1 c) - 1)) + t 4 c)) (x 2 (s 5 c * 8 + t 1 c))
