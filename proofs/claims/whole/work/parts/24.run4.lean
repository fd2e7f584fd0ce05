theorem zSet.mv {t s : Nat → Nat → Nat} {sx a r : Nat} {I0 I : Nat → Nat → Int32} (h : zSet t sx a I0) (hR : zRun s r I0 I) (h1 : sx < r ∨ r + 14 < sx) (h2 : a + 5 < r ∨ r + 14 < a) : zSet t sx a I :=
  ⟨fun i j hi hj => by rw [hR.2 (a + i) (by omega)]; exact h.1 i j hi hj, by rw [hR.2 sx h1]; exact h.2.1, by rw [hR.2 sx h1]; exact h.2.2⟩
theorem zCh.mv {x s : Nat → Nat → Nat} {ch r : Nat} {I0 I : Nat → Nat → Int32} (h : zCh x ch I0) (hR : zRun s r I0 I) (h1 : ch + 3 < r ∨ r + 14 < ch) : zCh x ch I :=
  fun j hj => ⟨by rw [hR.2 (ch + 1) (by omega)]; exact (h j hj).1, by rw [hR.2 (ch + 2) (by omega)]; exact (h j hj).2.1, by rw [hR.2 (ch + 3) (by omega)]; exact (h j hj).2.2⟩
theorem zAn.mv {u s : Nat → Nat → Nat} {r : Nat} {I0 I : Nat → Nat → Int32} (h : zAn u I0) (hR : zRun s r I0 I) (h1 : 10 < r) : zAn u I :=
  ⟨by rw [hR.2 8 (by omega)]; exact h.1, fun a ha => ⟨by rw [hR.2 9 (by omega)]; exact (h.2 a ha).1, by rw [hR.2 10 (by omega)]; exact (h.2 a ha).2⟩⟩
/-- what a method of a run leaves -/
abbrev zPost (n : Nat) (L : Nat → Nat → Int64) (c r : Nat) (I0 : Nat → Nat → Int32) (z : Nat → Nat → Nat) : Option Value → aw_H → Prop := fun v h2 => v = none ∧ ∃ I2, h2 = zH n I2 L c ∧ zRun z r I0 I2
theorem zRun.u7 {s : Nat → Nat → Nat} {r : Nat} {I0 I : Nat → Nat → Int32} {j v : Nat} (h : zRun s r I0 I) : zRun (aw_u s 7 j (v + 1)) r I0 (aw_u I (r + 7) j (nI v)) := by
  have h1 := h.u (i := 7) (j := j) (v := v + 1) (by decide)
  have e : zE 7 j (v + 1) = nI v := nI_pred v
  rw [e] at h1
  exact h1
