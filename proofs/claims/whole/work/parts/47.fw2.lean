theorem zfst_spec {f : Nat → Bool} {n : Nat} (h : zfst f n ≠ 0) : f (zfst f n - 1) = true ∧ zfst f n ≤ n := by
  induction n with
  | zero => exact absurd rfl h
  | succ n ih =>
    rw [zfst] at h ⊢
    by_cases h0 : zfst f n = 0
    · rw [if_neg (fun z => z h0)] at h ⊢
      cases hf : f n with
      | false => rw [hf, if_neg (by decide)] at h; exact absurd rfl h
      | true => rw [if_pos rfl]; exact ⟨hf, Nat.le_refl _⟩
    · rw [if_pos h0]
      exact ⟨(ih h0).1, Nat.le_succ_of_le (ih h0).2⟩
theorem m_nx_fst {y : Nat → Nat → Nat} {p g i : Nat} : m_nx y p g i = zfst (m_nc y p g) i := by
  induction i with
  | zero => rfl
  | succ i ih => rw [m_nx, zfst, ih]
/-- the place to which one goes on, one higher -/
def f_ft (e d : Nat → Nat) (p g : Nat) : Nat := if p = g ∨ 1000 ≤ d (8 * p + g) then 0 else zfst (fun q => decide (e (8 * p + q) + d (8 * q + g) = d (8 * p + g))) 8
/-- a chart of the class, by its ways -/
def f_x (V : Nat → Nat → Nat) (n i j : Nat) : Nat := if i = 0 then f_e 1000 V n j else if i = 1 then f_fw (f_e 1000 V n) 8 j else f_ft (f_e 1000 V n) (f_fw (f_e 1000 V n) 8) (j / 8) (j % 8)
/-- the reference's -/
def f_y (V : Nat → Nat → Nat) (n i j : Nat) : Nat := if i = 0 then f_e 9999 V n j else f_fw (f_e 9999 V n) 8 j
theorem f_ft_le {e d : Nat → Nat} {p g : Nat} : f_ft e d p g ≤ 8 := by
  unfold f_ft
  split
  · omega
  · by_cases h : zfst (fun q => decide (e (8 * p + q) + d (8 * q + g) = d (8 * p + g))) 8 = 0
    · rw [h]; omega
    · exact (zfst_spec h).2
theorem f_x0 {V : Nat → Nat → Nat} {n j : Nat} : f_x V n 0 j = f_e 1000 V n j := by rw [f_x, if_pos rfl]
theorem f_x1 {V : Nat → Nat → Nat} {n j : Nat} : f_x V n 1 j = f_fw (f_e 1000 V n) 8 j := by rw [f_x, if_neg (by decide), if_pos rfl]
theorem f_x2 {V : Nat → Nat → Nat} {n j : Nat} : f_x V n 2 j = f_ft (f_e 1000 V n) (f_fw (f_e 1000 V n) 8) (j / 8) (j % 8) := by rw [f_x, if_neg (by decide), if_neg (by decide)]
theorem f_y0 {V : Nat → Nat → Nat} {n j : Nat} : f_y V n 0 j = f_e 9999 V n j := by rw [f_y, if_pos rfl]
theorem f_y1 {V : Nat → Nat → Nat} {n j : Nat} : f_y V n 1 j = f_fw (f_e 9999 V n) 8 j := by rw [f_y, if_neg (by decide)]
theorem zCharts0 {x y : Nat → Nat → Nat} {e1 e2 d1 d2 : Nat → Nat} (x0 : ∀ j, x 0 j = e1 j) (x2 : ∀ j, x 2 j = f_ft e1 d1 (j / 8) (j % 8)) (y0 : ∀ j, y 0 j = e2 j) (y1 : ∀ j, y 1 j = d2 j) (hR : f_R e1 e2) (he : ∀ i, i < 64 → e2 i < 9999 → 1 ≤ e2 i ∧ e2 i ≤ 27) (hF : f_R d1 d2) (hI : f_I e2 d2 8) : zXY x y ∧ zXok x ∧ zYok y := by
  have key : ∀ p g, p < 8 → g < 8 → p ≠ g → d2 (8 * p + g) < 9999 → x 2 (8 * p + g) = m_next y p g ∧ m_next y p g ≠ 0 := by
    intro p g hp hg hpg hy
    have r := hF (8 * p + g) (by omega)
    have hne : m_next y p g ≠ 0 := by
      rw [m_next, m_nx_fst]
      intro z
      have z1 := zfst_0.mp z
      rcases hI.2.2.2 p g hp hg hpg hy with h1 | ⟨a, ha, hap, hea, hd⟩
      · have := z1 g hg
        rw [m_nc, y0, y1, y1, hI.1 g hg, h1] at this
        simp at this
        omega
      · have := z1 a (by omega)
        rw [m_nc, y0, y1, y1, hd] at this
        simp at this
        omega
    refine ⟨?_, hne⟩
    rw [x2, show (8 * p + g) / 8 = p by omega, show (8 * p + g) % 8 = g by omega, f_ft, if_neg (by omega), m_next, m_nx_fst]
    apply zfst_congr
    intro q hq
    have r2 := hR (8 * p + q) (by omega)
    have r3 := hF (8 * q + g) (by omega)
    rw [m_nc, y0, y1, y1]
    by_cases hc : e1 (8 * p + q) + d1 (8 * q + g) = d1 (8 * p + g)
    · rw [decide_eq_true hc]
      symm
      rw [Bool.and_eq_true, decide_eq_true_eq, beq_iff_eq]
      omega
    · rw [decide_eq_false hc]
      symm
      rw [Bool.and_eq_false_iff]
      by_cases h1 : e2 (8 * p + q) < 9999
      · right
        rw [beq_eq_false_iff_ne]
        omega
      · left; exact decide_eq_false h1
  refine ⟨fun p g hp hg hpg => ⟨fun hy => ?_, fun hy => ?_⟩, fun j hj => ?_, ⟨fun j hj => ?_, fun p g hp hg hpg hy => (key p g hp hg hpg (by rw [← y1]; exact hy)).2⟩⟩
  · rw [y1] at hy
    have r := hF (8 * p + g) (by omega)
    rw [x2, show (p * 8 + g) / 8 = p by omega, show (p * 8 + g) % 8 = g by omega, f_ft, if_pos (by omega)]
  · obtain ⟨k1, k2⟩ := key p g hp hg hpg (by rw [← y1]; exact hy)
    rw [Nat.mul_comm p 8]
    have hn : m_next y p g = zfst (m_nc y p g) 8 := by rw [m_next, m_nx_fst]
    rw [hn] at k2
    obtain ⟨s1, s2⟩ := zfst_spec k2
    rw [← hn] at s1 s2 k2
    rw [m_nc, Bool.and_eq_true, decide_eq_true_eq, beq_iff_eq] at s1
    have r2 := hR (8 * p + (m_next y p g - 1)) (by omega)
    have h27 := he (8 * p + (m_next y p g - 1)) (by omega) (by rw [← y0]; exact s1.1)
    rw [y0] at s1
    refine ⟨k1, k2, ?_, ?_, by rw [y0]; exact s1.2⟩
    · rw [x0, y0]; omega
    · rw [y0]; omega
  · rw [x0, x2]
    have := hR j hj
    exact ⟨by omega, f_ft_le⟩
  · rw [y0, y1]
    have r1 := hR j hj
    have r2 := hF j hj
    omega
theorem zCharts {V : Nat → Nat → Nat} {n : Nat} (h : f_Vok V n) : zXY (f_x V n) (f_y V n) ∧ zXok (f_x V n) ∧ zYok (f_y V n) := by
  obtain ⟨hR, he⟩ := f_e_R h
  exact zCharts0 (fun _ => f_x0) (fun _ => f_x2) (fun _ => f_y0) (fun _ => f_y1) hR he (hR.fw he (k := 8) (Nat.le_refl 8)) (f_I.fw (e := f_e 9999 V n) (k := 8) (Nat.le_refl 8))
