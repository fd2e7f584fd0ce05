/-! THE TRIALS of the reference -/
theorem aw_dn {X : Nat → Prop} (N : Nat) (h0 : X 0) (hs : ∀ i, i < N → X i → X (i + 1)) : X N := by
  have : ∀ i, i ≤ N → X i := by
    intro i
    induction i with
    | zero => exact fun _ => h0
    | succ i ih => exact fun h => hs i (by omega) (ih (by omega))
  exact this N (Nat.le_refl _)
theorem aw_iinc_d {G : aw_G} {M : aw_MR} {pc : Nat} {ls st : List Value} {h : aw_H} {q : Nat × Nat} {Q : Option Value → aw_H → Prop} {j i : Nat} {ls2 : List Value} (hd : decode (aw_c M) pc = .ok (.iinc j (-1), 3)) (hx : ls[j]? = some (.int (nI i))) (hn : j < aw_nL M) (hp : aw_pok ls j = true) (hl : ls.set j (.int (nI i - 1)) = ls2) (k : aw_W G M (pc + 3) ls2 st h q Q) : aw_W G M pc ls st h q Q := by
  refine aw_iinc hd hx hn hp ?_ k
  rw [show nI i + Int32.ofInt (-1) = nI i - 1 by rw [Int32.sub_eq_add_neg]; rfl]
  exact hl
theorem aw_u_id {α : Type} {F : Nat → Nat → α} {o j : Nat} : aw_u F o j (F o j) = F := by
  funext a b
  by_cases ha : a = o
  · subst ha
    by_cases hb : b = j
    · subst hb; rw [aw_u_eq]
    · rw [aw_u_nj hb]
  · rw [aw_u_ne ha]
theorem aw_u_cm {α : Type} {F : Nat → Nat → α} {o j o2 j2 : Nat} {x y : α} (h : o ≠ o2) : aw_u (aw_u F o j x) o2 j2 y = aw_u (aw_u F o2 j2 y) o j x := by
  funext a b
  by_cases ha : a = o
  · subst ha
    rw [aw_u_ne h]
    by_cases hb : b = j
    · subst hb; rw [aw_u_eq, aw_u_eq]
    · rw [aw_u_nj hb, aw_u_nj hb, aw_u_ne h]
  · rw [aw_u_ne (o := o) ha]
    by_cases ha2 : a = o2
    · subst ha2
      by_cases hb : b = j2
      · subst hb; rw [aw_u_eq, aw_u_eq]
      · rw [aw_u_nj hb, aw_u_nj hb, aw_u_ne ha]
    · rw [aw_u_ne ha2, aw_u_ne ha2, aw_u_ne ha]
/-- what stays of the reference: all but what it works out anew -/
def zFm (I0 I : Nat → Nat → Int32) : Prop := (∀ o, o ≠ 81 → o ≠ 88 → o ≠ 89 → o ≠ 90 → o ≠ 104 → (o < 92 ∨ 102 < o) → I o = I0 o) ∧ ∀ j, j ≠ 7 → j ≠ 9 → j ≠ 14 → j ≠ 26 → j ≠ 27 → j ≠ 31 → I 81 j = I0 81 j
theorem zFm.rfl (I : Nat → Nat → Int32) : zFm I I := ⟨fun _ _ _ _ _ _ _ => Eq.refl _, fun _ _ _ _ _ _ _ => Eq.refl _⟩
theorem zFm.trans {I0 I1 I2 : Nat → Nat → Int32} (h : zFm I0 I1) (g : zFm I1 I2) : zFm I0 I2 :=
  ⟨fun o a b c d e f => (g.1 o a b c d e f).trans (h.1 o a b c d e f), fun j a b c d e f => (g.2 j a b c d e f).trans (h.2 j a b c d e f)⟩
theorem zFm.row {I : Nat → Nat → Int32} {o j : Nat} {x : Int32} (h : o = 88 ∨ o = 89 ∨ o = 90 ∨ o = 104) : zFm I (aw_u I o j x) :=
  ⟨fun a _ b c d e _ => aw_u_ne (by omega), fun j2 _ _ _ _ _ _ => by rw [aw_u_ne (by omega)]⟩
theorem zFm.fld {I : Nat → Nat → Int32} {j : Nat} {x : Int32} (h : j = 14 ∨ j = 31) : zFm I (aw_u I 81 j x) :=
  ⟨fun a a1 _ _ _ _ _ => aw_u_ne a1, fun j2 _ _ _ _ _ _ => aw_u_nj (by omega)⟩
theorem zMod.mv2 {m : Nat → Nat → Nat} {I0 I I2 : Nat → Nat → Int32} (h : zMod m I0 I) (h1 : ∀ i, i < 9 → I2 (94 + i) = I (94 + i)) (h2 : I2 81 26 = I 81 26) (h3 : I2 81 27 = I 81 27) : zMod m I2 I2 :=
  ⟨fun i j hi hj => by rw [h1 i hi]; exact h.1 i j hi hj, by rw [h2, h3]; exact h.2.1, fun _ _ _ => rfl, fun _ _ _ => rfl⟩
theorem zMod.re {m : Nat → Nat → Nat} {I0 I : Nat → Nat → Int32} (h : zMod m I0 I) : zMod m I I := h.mv2 (fun _ _ => rfl) rfl rfl
def zMy (V : Nat → Nat → Nat) (kk : Nat) (t u y m : Nat → Nat → Nat) (I0 I : Nat → Nat → Int32) : Prop := zWy V kk I ∧ zCar t I ∧ zAm u I ∧ zYm y I ∧ zMod m I I ∧ zMo m ∧ (∀ k, k < 8 → I 90 k = nI (t 5 k)) ∧ zFm I0 I
def zPu (t u x y : Nat → Nat → Nat) : Prop := zTok t ∧ (∀ k, k < 8 → t 5 k < 40) ∧ zUok u ∧ zGo x y
theorem zPu.st {t u x y : Nat → Nat → Nat} {i k v : Nat} (h : zPu t u x y) (hi : i < 6) (hv : v < [8, 8, 3, 1000, 1000, 40].getD i 0) : zPu (aw_u t i k v) u x y := by
  obtain ⟨h1, h2, h3, h4⟩ := h
  have h' : i = 0 ∨ i = 1 ∨ i = 2 ∨ i = 3 ∨ i = 4 ∨ i = 5 := by omega
  refine ⟨h1.u hi ?_, fun k2 hk => ?_, h3, h4⟩
  · rcases h' with rfl | rfl | rfl | rfl | rfl | rfl <;> first | exact hv | (have hv : v < 40 := hv; show v < 100; omega)
  · by_cases h5 : 5 = i
    · subst h5
      by_cases hkk : k2 = k
      · subst hkk; rw [aw_u_eq]; exact hv
      · rw [aw_u_nj hkk]; exact h2 k2 hk
    · rw [aw_u_ne h5]; exact h2 k2 hk
theorem zPu.gn {t u x y : Nat → Nat → Nat} {v : Nat} (h : zPu t u x y) (hv : v < 100000) : zPu (aw_u t 6 1 v) u x y := by
  obtain ⟨h1, h2, h3, h4⟩ := h
  refine ⟨⟨by rw [aw_u_nj (by decide)]; exact h1.1, by rw [aw_u_eq]; exact hv, fun c hc => ?_⟩, fun k hk => by rw [aw_u_ne (by decide)]; exact h2 k hk, h3, h4⟩
  simp only [aw_u_ne (show 0 ≠ 6 by decide), aw_u_ne (show 1 ≠ 6 by decide), aw_u_ne (show 2 ≠ 6 by decide), aw_u_ne (show 3 ≠ 6 by decide), aw_u_ne (show 4 ≠ 6 by decide), aw_u_ne (show 5 ≠ 6 by decide)]
  exact h1.2.2 c hc
theorem zPu.sw {t u x y : Nat → Nat → Nat} {a b : Nat} (h : zPu t u x y) (ha : a < 8) (hb : b < 8) : zPu (t_swap t a b) u x y :=
  ⟨t_swap_ok h.1 ha hb, fun k hk => by rw [t_swap_row (by decide) (by decide)]; exact h.2.1 k hk, h.2.2⟩
section ZMY
variable {V : Nat → Nat → Nat} {kk : Nat} {t u x y m : Nat → Nat → Nat} {I0 I : Nat → Nat → Int32}
theorem zMy.st {i k v : Nat} (h : zMy V kk t u y m I0 I) (hi : i < 5) (hk : k < t 6 0) : zMy V kk (aw_u t i k v) u y m I0 (aw_u I 89 (5 * k + i) (nI v)) := by
  obtain ⟨h1, h2, h3, h4, h5, h6, h7, h8⟩ := h
  refine ⟨⟨by rw [aw_u_ne (by decide)]; exact h1.1, fun w j hw hj => by rw [aw_u_ne (by decide)]; exact h1.2 w j hw hj⟩, ⟨fun j k2 hj hk2 => ?_, fun k2 hk2 => ?_, ?_, ?_⟩, ⟨by rw [aw_u_ne (by decide)]; exact h3.1, fun a ha => by rw [aw_u_ne (by decide)]; exact h3.2 a ha⟩, fun j hj => by rw [aw_u_ne (by decide), aw_u_ne (by decide)]; exact h4 j hj, h5.mv2 (fun a ha => by rw [aw_u_ne (by omega)]) (by rw [aw_u_ne (by decide)]) (by rw [aw_u_ne (by decide)]), h6, fun k2 hk2 => by rw [aw_u_ne (by decide), aw_u_ne (by omega)]; exact h7 k2 hk2, h8.trans (zFm.row (by omega))⟩
  · rw [aw_u_ne (show 6 ≠ i by omega)] at hk2
    by_cases hji : j = i
    · subst hji
      by_cases hkk : k2 = k
      · subst hkk; rw [aw_u_eq, aw_u_eq]
      · rw [aw_u_nj (by omega), aw_u_nj hkk]; exact h2.1 j k2 hj hk2
    · rw [aw_u_nj (by omega), aw_u_ne hji]; exact h2.1 j k2 hj hk2
  · rw [aw_u_ne (show 6 ≠ i by omega)] at hk2
    rw [aw_u_ne (by decide), aw_u_ne (by omega)]; exact h2.2.1 k2 hk2
  · rw [aw_u_ne (by decide), aw_u_ne (by omega)]; exact h2.2.2.1
  · rw [aw_u_ne (by decide), aw_u_ne (by omega)]; exact h2.2.2.2
theorem zMy.lt {k v : Nat} (h : zMy V kk t u y m I0 I) : zMy V kk (aw_u t 5 k v) u y m I0 (aw_u I 90 k (nI v)) := by
  obtain ⟨h1, h2, h3, h4, h5, h6, h7, h8⟩ := h
  have key : ∀ k2, I 90 k2 = nI (t 5 k2) → aw_u I 90 k (nI v) 90 k2 = nI (aw_u t 5 k v 5 k2) := fun k2 h => by
    by_cases hkk : k2 = k
    · subst hkk; rw [aw_u_eq, aw_u_eq]
    · rw [aw_u_nj hkk, aw_u_nj hkk]; exact h
  refine ⟨⟨by rw [aw_u_ne (by decide)]; exact h1.1, fun w j hw hj => by rw [aw_u_ne (by decide)]; exact h1.2 w j hw hj⟩, ⟨fun j k2 hj hk2 => ?_, fun k2 hk2 => ?_, ?_, ?_⟩, ⟨by rw [aw_u_ne (by decide)]; exact h3.1, fun a ha => by rw [aw_u_ne (by decide)]; exact h3.2 a ha⟩, fun j hj => by rw [aw_u_ne (by decide), aw_u_ne (by decide)]; exact h4 j hj, h5.mv2 (fun a ha => by rw [aw_u_ne (by omega)]) (by rw [aw_u_ne (by decide)]) (by rw [aw_u_ne (by decide)]), h6, fun k2 hk2 => key k2 (h7 k2 hk2), h8.trans (zFm.row (by omega))⟩
  · rw [aw_u_ne (show 6 ≠ 5 by decide)] at hk2
    rw [aw_u_ne (by decide), aw_u_ne (by omega)]; exact h2.1 j k2 hj hk2
  · rw [aw_u_ne (show 6 ≠ 5 by decide)] at hk2
    exact key k2 (h2.2.1 k2 hk2)
  · rw [aw_u_ne (by decide), aw_u_ne (by omega)]; exact h2.2.2.1
  · rw [aw_u_ne (by decide), aw_u_ne (by omega)]; exact h2.2.2.2
theorem zMy.gn {v : Nat} (h : zMy V kk t u y m I0 I) : zMy V kk (aw_u t 6 1 v) u y m I0 (aw_u I 81 14 (nI v)) := by
  obtain ⟨h1, h2, h3, h4, h5, h6, h7, h8⟩ := h
  refine ⟨⟨by rw [aw_u_nj (by decide)]; exact h1.1, fun w j hw hj => by rw [aw_u_ne (by decide)]; exact h1.2 w j hw hj⟩, ⟨fun j k2 hj hk2 => ?_, fun k2 hk2 => ?_, ?_, ?_⟩, ⟨by rw [aw_u_nj (by decide)]; exact h3.1, fun a ha => by rw [aw_u_ne (by decide)]; exact h3.2 a ha⟩, fun j hj => by rw [aw_u_ne (by decide), aw_u_ne (by decide)]; exact h4 j hj, h5.mv2 (fun a ha => by rw [aw_u_ne (by omega)]) (by rw [aw_u_nj (by decide)]) (by rw [aw_u_nj (by decide)]), h6, fun k2 hk2 => by rw [aw_u_ne (by decide), aw_u_ne (by decide)]; exact h7 k2 hk2, h8.trans (zFm.fld (by omega))⟩
  · rw [aw_u_nj (by decide)] at hk2
    rw [aw_u_ne (by decide), aw_u_ne (by omega)]; exact h2.1 j k2 hj hk2
  · rw [aw_u_nj (by decide)] at hk2
    rw [aw_u_ne (by decide), aw_u_ne (by omega)]; exact h2.2.1 k2 hk2
  · rw [aw_u_nj (by decide), aw_u_nj (by decide)]; exact h2.2.2.1
  · rw [aw_u_eq, aw_u_eq]
theorem zMy.wy {V2 : Nat → Nat → Nat} {w v : Nat} (h : zMy V kk t u y m I0 I) (hV : ∀ a b, a < kk → b < 4 → V2 a b = if a = w ∧ b = 3 then v else V a b) : zMy V2 kk t u y m I0 (aw_u I 88 (4 * w + 3) (nI v)) := by
  obtain ⟨h1, h2, h3, h4, h5, h6, h7, h8⟩ := h
  refine ⟨⟨by rw [aw_u_ne (by decide)]; exact h1.1, fun a b ha hb => ?_⟩, ⟨fun j k2 hj hk2 => by rw [aw_u_ne (by decide)]; exact h2.1 j k2 hj hk2, fun k2 hk2 => by rw [aw_u_ne (by decide)]; exact h2.2.1 k2 hk2, by rw [aw_u_ne (by decide)]; exact h2.2.2.1, by rw [aw_u_ne (by decide)]; exact h2.2.2.2⟩, ⟨by rw [aw_u_ne (by decide)]; exact h3.1, fun a ha => by rw [aw_u_ne (by decide)]; exact h3.2 a ha⟩, fun j hj => by rw [aw_u_ne (by decide), aw_u_ne (by decide)]; exact h4 j hj, h5.mv2 (fun a ha => by rw [aw_u_ne (by omega)]) (by rw [aw_u_ne (by decide)]) (by rw [aw_u_ne (by decide)]), h6, fun k2 hk2 => by rw [aw_u_ne (by decide)]; exact h7 k2 hk2, h8.trans (zFm.row (by omega))⟩
  rw [hV a b ha hb]
  by_cases hc : a = w ∧ b = 3
  · rw [if_pos hc, hc.1, hc.2, aw_u_eq]
  · rw [if_neg hc, aw_u_nj (by omega)]; exact h1.2 a b ha hb
theorem zMy.pl {j : Nat} {v : Int32} (h : zMy V kk t u y m I0 I) : zMy V kk t u y m I0 (aw_u I 104 j v) := by
  obtain ⟨h1, h2, h3, h4, h5, h6, h7, h8⟩ := h
  exact ⟨⟨by rw [aw_u_ne (by decide)]; exact h1.1, fun a b ha hb => by rw [aw_u_ne (by decide)]; exact h1.2 a b ha hb⟩, ⟨fun j k2 hj hk2 => by rw [aw_u_ne (by decide)]; exact h2.1 j k2 hj hk2, fun k2 hk2 => by rw [aw_u_ne (by decide)]; exact h2.2.1 k2 hk2, by rw [aw_u_ne (by decide)]; exact h2.2.2.1, by rw [aw_u_ne (by decide)]; exact h2.2.2.2⟩, ⟨by rw [aw_u_ne (by decide)]; exact h3.1, fun a ha => by rw [aw_u_ne (by decide)]; exact h3.2 a ha⟩, fun j hj => by rw [aw_u_ne (by decide), aw_u_ne (by decide)]; exact h4 j hj, h5.mv2 (fun a ha => by rw [aw_u_ne (by omega)]) (by rw [aw_u_ne (by decide)]) (by rw [aw_u_ne (by decide)]), h6, fun k2 hk2 => by rw [aw_u_ne (by decide)]; exact h7 k2 hk2, h8.trans (zFm.row (by omega))⟩
theorem zMy.dr {v : Int32} (h : zMy V kk t u y m I0 I) : zMy V kk t u y m I0 (aw_u I 81 31 v) := by
  obtain ⟨h1, h2, h3, h4, h5, h6, h7, h8⟩ := h
  exact ⟨⟨by rw [aw_u_nj (by decide)]; exact h1.1, fun a b ha hb => by rw [aw_u_ne (by decide)]; exact h1.2 a b ha hb⟩, ⟨fun j k2 hj hk2 => by rw [aw_u_ne (by decide)]; exact h2.1 j k2 hj hk2, fun k2 hk2 => by rw [aw_u_ne (by decide)]; exact h2.2.1 k2 hk2, by rw [aw_u_nj (by decide)]; exact h2.2.2.1, by rw [aw_u_nj (by decide)]; exact h2.2.2.2⟩, ⟨by rw [aw_u_nj (by decide)]; exact h3.1, fun a ha => by rw [aw_u_ne (by decide)]; exact h3.2 a ha⟩, fun j hj => by rw [aw_u_ne (by decide), aw_u_ne (by decide)]; exact h4 j hj, h5.mv2 (fun a ha => by rw [aw_u_ne (by omega)]) (by rw [aw_u_nj (by decide)]) (by rw [aw_u_nj (by decide)]), h6, fun k2 hk2 => by rw [aw_u_ne (by decide)]; exact h7 k2 hk2, h8.trans (zFm.fld (by omega))⟩
theorem zMy.mp {y2 : Nat → Nat → Nat} {I2 : Nat → Nat → Int32} (h : zMy V kk t u y m I0 I) (hY : zYm y2 I2) (hF : ∀ o, o ≠ 92 → o ≠ 93 → I2 o = I o) : zMy V kk t u y2 m I0 I2 := by
  obtain ⟨h1, h2, h3, h4, h5, h6, h7, h8⟩ := h
  exact ⟨⟨by rw [hF 81 (by decide) (by decide)]; exact h1.1, fun a b ha hb => by rw [hF 88 (by decide) (by decide)]; exact h1.2 a b ha hb⟩, ⟨fun j k2 hj hk2 => by rw [hF 89 (by decide) (by decide)]; exact h2.1 j k2 hj hk2, fun k2 hk2 => by rw [hF 90 (by decide) (by decide)]; exact h2.2.1 k2 hk2, by rw [hF 81 (by decide) (by decide)]; exact h2.2.2.1, by rw [hF 81 (by decide) (by decide)]; exact h2.2.2.2⟩, ⟨by rw [hF 81 (by decide) (by decide)]; exact h3.1, fun a ha => by rw [hF 91 (by decide) (by decide)]; exact h3.2 a ha⟩, hY, h5.mv2 (fun a ha => hF _ (by omega) (by omega)) (by rw [hF 81 (by decide) (by decide)]) (by rw [hF 81 (by decide) (by decide)]), h6, fun k2 hk2 => by rw [hF 90 (by decide) (by decide)]; exact h7 k2 hk2, h8.trans ⟨fun o _ _ _ _ _ h => hF o (by omega) (by omega), fun j _ _ _ _ _ _ => by rw [hF 81 (by decide) (by decide)]⟩⟩
theorem zMy.lv {m2 : Nat → Nat → Nat} {I2 : Nat → Nat → Int32} (h : zMy V kk t u y m I0 I) (hm : zMod m2 I I2) (ho : zMo m2) : zMy V kk t u y m2 I0 I2 := by
  obtain ⟨h1, h2, h3, h4, h5, h6, h7, h8⟩ := h
  have hF := hm.2.2.1
  have hG := hm.2.2.2
  exact ⟨⟨by rw [hG 7 (by decide) (by decide)]; exact h1.1, fun a b ha hb => by rw [hF 88 (by decide) (by decide)]; exact h1.2 a b ha hb⟩, ⟨fun j k2 hj hk2 => by rw [hF 89 (by decide) (by decide)]; exact h2.1 j k2 hj hk2, fun k2 hk2 => by rw [hF 90 (by decide) (by decide)]; exact h2.2.1 k2 hk2, by rw [hG 9 (by decide) (by decide)]; exact h2.2.2.1, by rw [hG 14 (by decide) (by decide)]; exact h2.2.2.2⟩, ⟨by rw [hG 12 (by decide) (by decide)]; exact h3.1, fun a ha => by rw [hF 91 (by decide) (by decide)]; exact h3.2 a ha⟩, fun j hj => by rw [hF 92 (by decide) (by decide), hF 93 (by decide) (by decide)]; exact h4 j hj, hm.re, ho, fun k2 hk2 => by rw [hF 90 (by decide) (by decide)]; exact h7 k2 hk2, h8.trans ⟨fun o h81 _ _ _ _ h => hF o h81 (by omega), fun j _ _ _ a b _ => hG j a b⟩⟩
theorem zOutM (hP : zPu t u x y) (ho : zMo m) {k : Nat} (hk : k < t 6 0) : m_lives m t u y 0 k = o_st x u t k ∧ m_lives m t u y 5 k = o_en x u t k ∧ ∀ g, g < 40 → m_lives m t u y 6 (32 * g + 4 * k + 1) = o_sb x u t k g := by
  have h8 := hP.1.1
  have h := (zOut (u := u) (s := z0) hP.1 hP.2.2.2.1 hP.2.2.2.2.1 hP.2.2.2.2.2 z0_old ho.1 (fun k hk => hP.2.1 k (by omega))).1 k hk
  exact ⟨h.1, h.2.1, fun g hg => h.2.2.2 g hg⟩
theorem zCmM (hP : zPu t u x y) (ho : zMo m) {a : Nat} : z_who (fun j => m_lives m t u y 0 j == a) (t 6 0) = o_who x u t a := by
  unfold o_who
  exact z_who_congr (fun j hj => by rw [(zOutM hP ho hj).1])
theorem o_sb_le (hP : zPu t u x y) {k g : Nat} (hk : k < t 6 0) : o_sb x u t k g ≤ 8 := by
  have h8 := hP.1.1
  have := ((zBd (m := z0) (u := u) hP.1 hP.2.2.2.1 hP.2.2.2.2.1 hP.2.2.2.2.2 z0_old).1.2.2.2.1 k (by omega)).2.2.1
  unfold o_sb z_sb o_pl
  split <;> omega
end ZMY
/-- a hour's run of the reference, told by the class's -/
def zTold (x u t : Nat → Nat → Nat) (I : Nat → Nat → Int32) : Prop := ∀ k, k < t 6 0 → I 94 k = nI (o_st x u t k) ∧ I 99 k = nI (o_en x u t k) - 1 ∧ ∀ g, g < 40 → I 100 (32 * g + 4 * k + 1) = nI (o_sb x u t k g) - 1
theorem w_lv (G : aw_G) {n c : Nat} {I I0 : Nat → Nat → Int32} {L : Nat → Nat → Int64} {V : Nat → Nat → Nat} {kk : Nat} {t u x y m : Nat → Nat → Nat} (hM : zMy V kk t u y m I0 I) (hP : zPu t u x y) : aw_Met G mX11_lives [.ref 81] (zH n I L c) (fun v h2 => v = none ∧ ∃ I2, h2 = zH n I2 L c ∧ zMy V kk t u y (m_lives m t u y) I0 I2 ∧ zTold x u t I2 ∧ zMod (m_lives m t u y) I I2) := by
  have h8 := hP.1.1
  refine aw_Met.mono ?_ (w_lives G hM.2.2.2.2.1 hM.2.1 hM.2.2.1 hM.2.2.2.1 hP.1 hP.2.2.1 hP.2.2.2.2.2 hM.2.2.2.2.2.1.1 hM.2.2.2.2.2.1.2)
  rintro v h2 ⟨rfl, I2, rfl, hm⟩
  refine ⟨rfl, I2, rfl, hM.lv hm (m_lives_ok (s := z0) hP.1 hP.2.2.2.1 hP.2.2.2.2.1 hP.2.2.2.2.2 hM.2.2.2.2.2.1), fun k hk => ?_, hm⟩
  have ho := zOutM hP hM.2.2.2.2.2.1 hk
  refine ⟨?_, ?_, fun g hg => ?_⟩
  · rw [← ho.1]; exact hm.at 0 k (by decide) (by omega)
  · rw [← ho.2.1]; exact hm.at 5 k (by decide) (by omega)
  · rw [← ho.2.2 g hg]
    have := hm.at 6 (32 * g + 4 * k + 1) (by decide) (by omega)
    rw [show 94 + 6 = 100 from rfl] at this
    rw [this]
    unfold mE
    rw [show (32 * g + 4 * k + 1) % 2 = 1 by omega]
    rfl
theorem w_cm (G : aw_G) {n c : Nat} {I I0 : Nat → Nat → Int32} {L : Nat → Nat → Int64} {V : Nat → Nat → Nat} {kk : Nat} {t u x y m : Nat → Nat → Nat} (hM : zMy V kk t u y (m_lives m t u y) I0 I) (ho : zMo m) (hP : zPu t u x y) : aw_Met G mX11_comers [.ref 81] (zH n I L c) (fun v h2 => v = some (.int (nI (o_cm x u t))) ∧ h2 = zH n I L c) := by
  have h8 := hP.1.1
  refine aw_Met.mono ?_ (w_comers G hM.2.2.2.2.1 hM.2.1.2.2.1 h8 (fun j hj => by rw [(zOutM hP ho hj).1]; have := o_st_le (u := u) hP.1 hP.2.2.2 hj; omega))
  rintro v h2 ⟨rfl, rfl⟩
  rw [zCmM hP ho]
  exact ⟨rfl, rfl⟩
theorem w_greaterN (G : aw_G) {h : aw_H} {a b : Nat} (ha : a < 2147483647) (hb : b < 2147483647) : aw_Met G mX11_greater [.int (nI a), .int (nI b - 1)] h (fun v h2 => v = some (.int (nI (if b < a + 1 then a + 1 else b) - 1)) ∧ h2 = h) := by
  refine aw_Met.of okX11_greater (Nat.le_of_ble_eq_true rfl) ?_
  show aw_W G mX11_greater 0 [.int (nI a), .int (nI b - 1)] [] h (0, 0) _
  refine aw_iload_n dX11_greater_0 rfl ?_
  refine aw_iload_n dX11_greater_1 rfl ?_
  refine aw_snd (show _ = nI (a + 1) - 1 from (nI_pred a).symm) ?_
  refine aw_ic_le_p (a := a + 1) (b := b) (tgt := 9) dX11_greater_2 (by decide) (by omega) (by omega) (fun c2 => ?_) (fun c2 => ?_)
  · refine aw_iload_n dX11_greater_9 rfl ?_
    refine aw_reti dX11_greater_10 rfl rfl ⟨Nat.le_of_ble_eq_true rfl, Nat.le_of_ble_eq_true rfl⟩ ?_
    exact ⟨by rw [if_neg (by omega)], rfl⟩
  · refine aw_iload_n dX11_greater_5 rfl ?_
    refine aw_goto (tgt := 10) dX11_greater_6 (by decide) ?_
    refine aw_reti dX11_greater_10 rfl rfl ⟨Nat.le_of_ble_eq_true rfl, Nat.le_of_ble_eq_true rfl⟩ ?_
    exact ⟨by rw [if_pos (by omega), nI_pred], rfl⟩
theorem aw_loc3 {G : aw_G} {M : aw_MR} {pc : Nat} {st : List Value} {h : aw_H} {q : Nat × Nat} {Q : Option Value → aw_H → Prop} {v0 v1 v2 v4 : Value} {x y : Int32} (e : x = y) (k : aw_W G M pc [v0, v1, v2, .int y, v4] st h q Q) : aw_W G M pc [v0, v1, v2, .int x, v4] st h q Q := e ▸ k
theorem w_needsOf (G : aw_G) {n c : Nat} {I I0 : Nat → Nat → Int32} {L : Nat → Nat → Int64} {V : Nat → Nat → Nat} {kk : Nat} {t u x y m : Nat → Nat → Nat} (hM : zMy V kk t u y m I0 I) (hP : zPu t u x y) {k : Nat} (hk : k < t 6 0) : aw_Met G mX11_needsOf [.ref 81, .int (nI k)] (zH n I L c) (fun v h2 => v = some (.int (nI (zfst (fun w => o_st x u (aw_u t 3 k w) k == 2) 100) - 1)) ∧ ∃ I2, h2 = zH n I2 L c ∧ ∃ m2, zMy V kk t u y m2 I0 I2) := by
  have h8 := hP.1.1
  refine aw_Met.of okX11_needsOf (Nat.le_of_ble_eq_true rfl) ?_
  show aw_W G mX11_needsOf 0 [.ref 81, .int (nI k), aw_x, aw_x, aw_x] [] (zH n I L c) (0, 0) _
  refine aw_aload_n dX11_needsOf_0 rfl ?_
  refine aw_getR dX11_needsOf_1 f11_31 rfl ⟨Nat.le_of_ble_eq_true rfl, Nat.le_of_ble_eq_true rfl⟩ rfl rfl ?_
  refine aw_iconst (v := 5) dX11_needsOf_4 rfl ?_
  refine aw_iload_n dX11_needsOf_5 rfl ?_
  refine aw_imul_n (a := 5) (b := k) dX11_needsOf_6 ?_
  refine aw_iconst (v := 3) dX11_needsOf_7 rfl ?_
  refine aw_iadd_n (a := 5 * k) (b := 3) dX11_needsOf_8 ?_
  refine aw_iald_n (j := (5 * k) + 3) dX11_needsOf_9 rfl (Nat.le_of_ble_eq_true rfl) (by decide) (by omega) ?_
  refine aw_top (hM.2.1.1 3 k (by decide) hk) ?_
  refine aw_istore_n (ls2 := [_, _, _, _, _]) dX11_needsOf_10 (by decide) rfl rfl ?_
  refine aw_iconst (v := -1) dX11_needsOf_11 rfl ?_
  refine aw_istore_n (ls2 := [_, _, _, _, _]) dX11_needsOf_12 (by decide) rfl rfl ?_
  refine aw_bipush (v := 99) dX11_needsOf_13 (by decide) ?_
  refine aw_istore (ls2 := [_, _, _, _, _]) dX11_needsOf_15 (by decide) rfl rfl ?_
  refine aw_dn (X := fun i => ∀ I m v0 B, zMy V kk (aw_u t 3 k v0) u y m I0 I ∧ ((B = 0 ∧ ∀ w, i ≤ w → w < 100 → (fun w => o_st x u (aw_u t 3 k w) k == 2) w = false) ∨ (i < B ∧ B ≤ 100 ∧ (fun w => o_st x u (aw_u t 3 k w) k == 2) (B - 1) = true ∧ ∀ w, i ≤ w → w < B - 1 → (fun w => o_st x u (aw_u t 3 k w) k == 2) w = false)) → aw_W G mX11_needsOf 17 [.ref 81, .int (nI k), .int (nI (t 3 k)), .int (nI B - 1), .int (nI i - 1)] [] (zH n I L c) (0, 0) _) 100 (fun I m v0 B hh => ?_) (fun i hi ih I m v0 B hh => ?_) _ _ (t 3 k) 0 ⟨by rw [aw_u_id]; exact hM, Or.inl ⟨rfl, fun w h1 h2 => by omega⟩⟩
  · obtain ⟨hM, hB⟩ := hh
    refine aw_iload dX11_needsOf_17 rfl ?_
    refine aw_if_lt_p (a := 0) (tgt := 61) dX11_needsOf_19 (by decide) (by omega) (fun c19 => ?_) (fun z => absurd z (by omega))
    refine aw_aload_n dX11_needsOf_61 rfl ?_
    refine aw_getR dX11_needsOf_62 f11_31 rfl ⟨Nat.le_of_ble_eq_true rfl, Nat.le_of_ble_eq_true rfl⟩ rfl rfl ?_
    refine aw_iconst (v := 5) dX11_needsOf_65 rfl ?_
    refine aw_iload_n dX11_needsOf_66 rfl ?_
    refine aw_imul_n (a := 5) (b := k) dX11_needsOf_67 ?_
    refine aw_iconst (v := 3) dX11_needsOf_68 rfl ?_
    refine aw_iadd_n (a := 5 * k) (b := 3) dX11_needsOf_69 ?_
    refine aw_iload_n dX11_needsOf_70 rfl ?_
    refine aw_iast_n (j := (5 * k) + 3) dX11_needsOf_71 rfl ⟨Nat.le_of_ble_eq_true rfl, Nat.le_of_ble_eq_true rfl⟩ (by decide) (by omega) ?_
    refine aw_iload_n dX11_needsOf_72 rfl ?_
    refine aw_reti dX11_needsOf_73 rfl rfl ⟨Nat.le_of_ble_eq_true rfl, Nat.le_of_ble_eq_true rfl⟩ ?_
    refine ⟨?_, _, rfl, _, by have h := hM.st (i := 3) (k := k) (v := t 3 k) (by decide) (by rw [aw_u_ne (by decide)]; exact hk); rw [aw_u_uu, aw_u_id] at h; exact h⟩
    rcases hB with ⟨rfl, h⟩ | ⟨h1, h2, h3, h4⟩
    · rw [zfst_0.mpr (fun w hw => h w (by omega) hw)]
    · rw [zfst_at (v := B - 1) (fun w hw => h4 w (by omega) hw) h3 (by omega), show B - 1 + 1 = B by omega]
  · obtain ⟨hM, hB⟩ := hh
    rw [nI_pred]
    refine aw_iload dX11_needsOf_17 rfl ?_
    refine aw_if_lt_n (a := i) (tgt := 61) dX11_needsOf_19 (by decide) (by omega) (fun z => absurd z (fun z => z)) (fun c19 => ?_)
    refine aw_aload_n dX11_needsOf_22 rfl ?_
    refine aw_getR dX11_needsOf_23 f11_31 rfl ⟨Nat.le_of_ble_eq_true rfl, Nat.le_of_ble_eq_true rfl⟩ rfl rfl ?_
    refine aw_iconst (v := 5) dX11_needsOf_26 rfl ?_
    refine aw_iload_n dX11_needsOf_27 rfl ?_
    refine aw_imul_n (a := 5) (b := k) dX11_needsOf_28 ?_
    refine aw_iconst (v := 3) dX11_needsOf_29 rfl ?_
    refine aw_iadd_n (a := 5 * k) (b := 3) dX11_needsOf_30 ?_
    refine aw_iload dX11_needsOf_31 rfl ?_
    refine aw_iast_n (j := (5 * k) + 3) dX11_needsOf_33 rfl ⟨Nat.le_of_ble_eq_true rfl, Nat.le_of_ble_eq_true rfl⟩ (by decide) (by omega) ?_
    have hM1 := hM.st (i := 3) (k := k) (v := i) (by decide) (by rw [aw_u_ne (by decide)]; exact hk)
    rw [aw_u_uu] at hM1
    have hP1 : zPu (aw_u t 3 k i) u x y := hP.st (i := 3) (by decide) (show i < 1000 by omega)
    refine aw_aload_n dX11_needsOf_34 rfl ?_
    refine aw_V0c (As := []) dX11_needsOf_35 k11_215 rfl rfl rfl ⟨Nat.le_of_ble_eq_true rfl, Nat.le_of_ble_eq_true rfl⟩ (Nat.le_of_ble_eq_true rfl) ⟨⟨Nat.le_of_ble_eq_true rfl, Nat.le_of_ble_eq_true rfl⟩, ⟨Nat.le_of_ble_eq_true rfl, Nat.le_of_ble_eq_true rfl⟩⟩ ⟨rfl, rfl⟩ (w_lv G hM1 hP1) (fun v h2 hq => ?_)
    obtain ⟨rfl, I2, rfl, hM2, hTo, hFr⟩ := hq
    have hle := o_st_le (u := u) hP1.1 hP1.2.2.2 (k := k) (by rw [aw_u_ne (by decide)]; exact hk)
    refine aw_aload_n dX11_needsOf_38 rfl ?_
    refine aw_getR dX11_needsOf_39 f11_46 rfl ⟨Nat.le_of_ble_eq_true rfl, Nat.le_of_ble_eq_true rfl⟩ rfl rfl ?_
    refine aw_iload_n dX11_needsOf_42 rfl ?_
    refine aw_iald_n (j := k) dX11_needsOf_43 rfl (Nat.le_of_ble_eq_true rfl) (by decide) (by omega) ?_
    refine aw_top (hTo k (by rw [aw_u_ne (by decide)]; exact hk)).1 ?_
    refine aw_iconst (v := 2) dX11_needsOf_44 rfl ?_
    refine aw_ic_ne_n (a := o_st x u (aw_u t 3 k i) k) (b := 2) (tgt := 53) dX11_needsOf_45 (by decide) (by omega) (by omega) (fun c45 => ?_) (fun c45 => ?_)
    · refine aw_iload_n dX11_needsOf_53 rfl ?_
      refine aw_istore_n (ls2 := [_, _, _, _, _]) dX11_needsOf_54 (by decide) rfl rfl ?_
      refine aw_iinc_d (ls2 := [_, _, _, _, _]) dX11_needsOf_55 rfl (by decide) rfl rfl ?_
      refine aw_goto (tgt := 17) dX11_needsOf_58 (by decide) ?_
      refine ih _ _ _ _ ⟨hM2, ?_⟩
      have hf : (fun w => o_st x u (aw_u t 3 k w) k == 2) i = false := beq_eq_false_iff_ne.mpr c45
      rcases hB with ⟨h0, h⟩ | ⟨h1, h2, h3, h4⟩
      · refine Or.inl ⟨h0, fun w hw h1 => ?_⟩
        by_cases hwi : w = i
        · subst hwi; exact hf
        · exact h w (by omega) h1
      · refine Or.inr ⟨by omega, h2, h3, fun w hw h1 => ?_⟩
        by_cases hwi : w = i
        · subst hwi; exact hf
        · exact h4 w (by omega) h1
    · refine aw_iload dX11_needsOf_48 rfl ?_
      refine aw_goto (tgt := 54) dX11_needsOf_50 (by decide) ?_
      refine aw_istore_n (ls2 := [_, _, _, _, _]) dX11_needsOf_54 (by decide) rfl rfl ?_
      refine aw_iinc_d (ls2 := [_, _, _, _, _]) dX11_needsOf_55 rfl (by decide) rfl rfl ?_
      refine aw_goto (tgt := 17) dX11_needsOf_58 (by decide) ?_
      refine aw_loc3 (nI_pred i).symm (ih _ _ _ (i + 1) ⟨hM2, Or.inr ⟨by omega, by omega, ?_, fun w hw h1 => by omega⟩⟩)
      show (o_st x u (aw_u t 3 k (i + 1 - 1)) k == 2) = true
      rw [show i + 1 - 1 = i by omega, c45]; rfl
theorem w_lends (G : aw_G) {n c : Nat} {I I0 : Nat → Nat → Int32} {L : Nat → Nat → Int64} {V : Nat → Nat → Nat} {kk : Nat} {t u y m : Nat → Nat → Nat} (hM : zMy V kk t u y m I0 I) {a b : Nat} (ha : a < t 6 0) (hb : b < t 6 0) (h8 : t 6 0 ≤ 8) : aw_Met G mX11_lends [.ref 81, .int (nI a), .int (nI b)] (zH n I L c) (fun v h2 => v = none ∧ ∃ I2, h2 = zH n I2 L c ∧ zMy V kk (t_swap t a b) u y m I0 I2) := by
  refine aw_Met.of okX11_lends (Nat.le_of_ble_eq_true rfl) ?_
  show aw_W G mX11_lends 0 [.ref 81, .int (nI a), .int (nI b), aw_x, aw_x] [] (zH n I L c) (0, 0) _
  refine aw_iconst (v := 2) dX11_lends_0 rfl ?_
  refine aw_istore_n (ls2 := [_, _, _, _, _]) dX11_lends_1 (by decide) rfl rfl ?_
  refine aw_iload_n dX11_lends_2 rfl ?_
  refine aw_iconst (v := 4) dX11_lends_3 rfl ?_
  refine aw_ic_ge (tgt := 57) dX11_lends_4 (by decide) (fun z => absurd z (by decide)) (fun _ => ?_)
  refine aw_aload_n dX11_lends_7 rfl ?_
  refine aw_getR dX11_lends_8 f11_31 rfl ⟨Nat.le_of_ble_eq_true rfl, Nat.le_of_ble_eq_true rfl⟩ rfl rfl ?_
  refine aw_iconst (v := 5) dX11_lends_11 rfl ?_
  refine aw_iload_n dX11_lends_12 rfl ?_
  refine aw_imul_n (a := 5) (b := a) dX11_lends_13 ?_
  refine aw_iload_n dX11_lends_14 rfl ?_
  refine aw_iadd_n (a := 5 * a) (b := 2) dX11_lends_15 ?_
  refine aw_iald_n (j := (5 * a) + 2) dX11_lends_16 rfl (Nat.le_of_ble_eq_true rfl) (by decide) (by omega) ?_
  refine aw_top (show _ = nI (t 2 a) from by exact hM.2.1.1 2 a (by decide) (by omega)) ?_
  refine aw_istore (ls2 := [_, _, _, _, _]) dX11_lends_17 (by decide) rfl rfl ?_
  refine aw_aload_n dX11_lends_19 rfl ?_
  refine aw_getR dX11_lends_20 f11_31 rfl ⟨Nat.le_of_ble_eq_true rfl, Nat.le_of_ble_eq_true rfl⟩ rfl rfl ?_
  refine aw_iconst (v := 5) dX11_lends_23 rfl ?_
  refine aw_iload_n dX11_lends_24 rfl ?_
  refine aw_imul_n (a := 5) (b := a) dX11_lends_25 ?_
  refine aw_iload_n dX11_lends_26 rfl ?_
  refine aw_iadd_n (a := 5 * a) (b := 2) dX11_lends_27 ?_
  refine aw_aload_n dX11_lends_28 rfl ?_
  refine aw_getR dX11_lends_29 f11_31 rfl ⟨Nat.le_of_ble_eq_true rfl, Nat.le_of_ble_eq_true rfl⟩ rfl rfl ?_
  refine aw_iconst (v := 5) dX11_lends_32 rfl ?_
  refine aw_iload_n dX11_lends_33 rfl ?_
  refine aw_imul_n (a := 5) (b := b) dX11_lends_34 ?_
  refine aw_iload_n dX11_lends_35 rfl ?_
  refine aw_iadd_n (a := 5 * b) (b := 2) dX11_lends_36 ?_
  refine aw_iald_n (j := (5 * b) + 2) dX11_lends_37 rfl (Nat.le_of_ble_eq_true rfl) (by decide) (by omega) ?_
  refine aw_top (show _ = nI (t 2 b) from by exact hM.2.1.1 2 b (by decide) (by omega)) ?_
  refine aw_iast_n (j := (5 * a) + 2) dX11_lends_38 rfl ⟨Nat.le_of_ble_eq_true rfl, Nat.le_of_ble_eq_true rfl⟩ (by decide) (by omega) ?_
  refine aw_aload_n dX11_lends_39 rfl ?_
  refine aw_getR dX11_lends_40 f11_31 rfl ⟨Nat.le_of_ble_eq_true rfl, Nat.le_of_ble_eq_true rfl⟩ rfl rfl ?_
  refine aw_iconst (v := 5) dX11_lends_43 rfl ?_
  refine aw_iload_n dX11_lends_44 rfl ?_
  refine aw_imul_n (a := 5) (b := b) dX11_lends_45 ?_
  refine aw_iload_n dX11_lends_46 rfl ?_
  refine aw_iadd_n (a := 5 * b) (b := 2) dX11_lends_47 ?_
  refine aw_iload dX11_lends_48 rfl ?_
  refine aw_iast_n (j := (5 * b) + 2) dX11_lends_50 rfl ⟨Nat.le_of_ble_eq_true rfl, Nat.le_of_ble_eq_true rfl⟩ (by decide) (by omega) ?_
  refine aw_iinc_n (ls2 := [_, _, _, _, _]) dX11_lends_51 rfl (by decide) rfl rfl ?_
  refine aw_goto (tgt := 2) dX11_lends_54 (by decide) ?_
  refine aw_iload_n dX11_lends_2 rfl ?_
  refine aw_iconst (v := 4) dX11_lends_3 rfl ?_
  refine aw_ic_ge_n (a := 2 + 1) (b := 4) (tgt := 57) dX11_lends_4 (by decide) (by omega) (by omega) (fun z => absurd z (by omega)) (fun c4 => ?_)
  refine aw_aload_n dX11_lends_7 rfl ?_
  refine aw_getR dX11_lends_8 f11_31 rfl ⟨Nat.le_of_ble_eq_true rfl, Nat.le_of_ble_eq_true rfl⟩ rfl rfl ?_
  refine aw_iconst (v := 5) dX11_lends_11 rfl ?_
  refine aw_iload_n dX11_lends_12 rfl ?_
  refine aw_imul_n (a := 5) (b := a) dX11_lends_13 ?_
  refine aw_iload_n dX11_lends_14 rfl ?_
  refine aw_iadd_n (a := 5 * a) (b := 2 + 1) dX11_lends_15 ?_
  refine aw_iald_n (j := (5 * a) + (2 + 1)) dX11_lends_16 rfl (Nat.le_of_ble_eq_true rfl) (by decide) (by omega) ?_
  refine aw_top (show _ = nI (t 3 a) from by rw [aw_u_nj (by omega), aw_u_nj (by omega)]; exact hM.2.1.1 3 a (by decide) (by omega)) ?_
  refine aw_istore (ls2 := [_, _, _, _, _]) dX11_lends_17 (by decide) rfl rfl ?_
  refine aw_aload_n dX11_lends_19 rfl ?_
  refine aw_getR dX11_lends_20 f11_31 rfl ⟨Nat.le_of_ble_eq_true rfl, Nat.le_of_ble_eq_true rfl⟩ rfl rfl ?_
  refine aw_iconst (v := 5) dX11_lends_23 rfl ?_
  refine aw_iload_n dX11_lends_24 rfl ?_
  refine aw_imul_n (a := 5) (b := a) dX11_lends_25 ?_
  refine aw_iload_n dX11_lends_26 rfl ?_
  refine aw_iadd_n (a := 5 * a) (b := 2 + 1) dX11_lends_27 ?_
  refine aw_aload_n dX11_lends_28 rfl ?_
  refine aw_getR dX11_lends_29 f11_31 rfl ⟨Nat.le_of_ble_eq_true rfl, Nat.le_of_ble_eq_true rfl⟩ rfl rfl ?_
  refine aw_iconst (v := 5) dX11_lends_32 rfl ?_
  refine aw_iload_n dX11_lends_33 rfl ?_
  refine aw_imul_n (a := 5) (b := b) dX11_lends_34 ?_
  refine aw_iload_n dX11_lends_35 rfl ?_
  refine aw_iadd_n (a := 5 * b) (b := 2 + 1) dX11_lends_36 ?_
  refine aw_iald_n (j := (5 * b) + (2 + 1)) dX11_lends_37 rfl (Nat.le_of_ble_eq_true rfl) (by decide) (by omega) ?_
  refine aw_top (show _ = nI (t 3 b) from by rw [aw_u_nj (by omega), aw_u_nj (by omega)]; exact hM.2.1.1 3 b (by decide) (by omega)) ?_
  refine aw_iast_n (j := (5 * a) + (2 + 1)) dX11_lends_38 rfl ⟨Nat.le_of_ble_eq_true rfl, Nat.le_of_ble_eq_true rfl⟩ (by decide) (by omega) ?_
  refine aw_aload_n dX11_lends_39 rfl ?_
  refine aw_getR dX11_lends_40 f11_31 rfl ⟨Nat.le_of_ble_eq_true rfl, Nat.le_of_ble_eq_true rfl⟩ rfl rfl ?_
  refine aw_iconst (v := 5) dX11_lends_43 rfl ?_
  refine aw_iload_n dX11_lends_44 rfl ?_
  refine aw_imul_n (a := 5) (b := b) dX11_lends_45 ?_
  refine aw_iload_n dX11_lends_46 rfl ?_
  refine aw_iadd_n (a := 5 * b) (b := 2 + 1) dX11_lends_47 ?_
  refine aw_iload dX11_lends_48 rfl ?_
  refine aw_iast_n (j := (5 * b) + (2 + 1)) dX11_lends_50 rfl ⟨Nat.le_of_ble_eq_true rfl, Nat.le_of_ble_eq_true rfl⟩ (by decide) (by omega) ?_
  refine aw_iinc_n (ls2 := [_, _, _, _, _]) dX11_lends_51 rfl (by decide) rfl rfl ?_
  refine aw_goto (tgt := 2) dX11_lends_54 (by decide) ?_
  refine aw_iload_n dX11_lends_2 rfl ?_
  refine aw_iconst (v := 4) dX11_lends_3 rfl ?_
  refine aw_ic_ge_n (a := 2 + 1 + 1) (b := 4) (tgt := 57) dX11_lends_4 (by decide) (by omega) (by omega) (fun c4 => ?_) (fun z => absurd z (by omega))
  refine aw_ret0 dX11_lends_57 rfl ⟨Nat.le_of_ble_eq_true rfl, Nat.le_of_ble_eq_true rfl⟩ ?_
  refine ⟨rfl, _, rfl, ?_⟩
  have h := (((hM.st (i := 2) (k := a) (v := t 2 b) (by decide) ha).st (i := 2) (k := b) (v := t 2 a) (by decide) (by rw [aw_u_ne (by decide)]; exact hb)).st (i := 3) (k := a) (v := t 3 b) (by decide) (by rw [aw_u_ne (by decide), aw_u_ne (by decide)]; exact ha)).st (i := 3) (k := b) (v := t 3 a) (by decide) (by rw [aw_u_ne (by decide), aw_u_ne (by decide), aw_u_ne (by decide)]; exact hb)
  rw [show aw_u (aw_u (aw_u (aw_u t 2 a (t 2 b)) 2 b (t 2 a)) 3 a (t 3 b)) 3 b (t 3 a) = t_swap t a b by unfold t_swap; rw [aw_u_cm (F := aw_u t 2 a (t 2 b)) (o := 2) (o2 := 3) (by decide)]] at h
  exact h
theorem z_ld_0 {f : Nat → Nat → Nat} {n i : Nat} (h : (z_ld f n i).1 = 0) : (z_ld f n i).2 = 0 := by
  induction i with
  | zero => rfl
  | succ i ih =>
    rw [z_ld] at h ⊢
    split at h
    · exact absurd h (by show i + 1 ≠ 0; omega)
    · rename_i hc; rw [if_neg hc]; exact ih h
/-- what lend tells -/
def r_lend (z : Nat × Nat) (a : Nat) : Int32 := if a = 0 then z_ba z.1 else if a = 1 then z_bb z.1 else nI z.2 - 1
theorem aw_loc2h {G : aw_G} {M : aw_MR} {pc : Nat} {st : List Value} {h : aw_H} {q : Nat × Nat} {Q : Option Value → aw_H → Prop} {v0 v1 : Value} {vs : List Value} {x y : Int32} (e : x = y) (k : aw_W G M pc (v0 :: v1 :: .int y :: vs) st h q Q) : aw_W G M pc (v0 :: v1 :: .int x :: vs) st h q Q := e ▸ k
theorem w_lendBy (G : aw_G) {n c : Nat} {I I0 : Nat → Nat → Int32} {L : Nat → Nat → Int64} {V : Nat → Nat → Nat} {kk : Nat} {t u x y m : Nat → Nat → Nat} (hM : zMy V kk t u y m I0 I) (hP : zPu t u x y) {a : Nat} (ha : a < 3) : aw_Met G mX11_lendBy [.ref 81, .int (nI a)] (zH n I L c) (fun v h2 => v = some (.int (r_lend (z_ld (fun a b => o_cm x u (t_swap t a b)) (t 6 0) 64) a)) ∧ ∃ I2, h2 = zH n I2 L c ∧ ∃ m2, zMy V kk t u y m2 I0 I2) := by
  have h8 := hP.1.1
  refine aw_Met.of okX11_lendBy (Nat.le_of_ble_eq_true rfl) ?_
  show aw_W G mX11_lendBy 0 [.ref 81, .int (nI a), aw_x, aw_x, aw_x, aw_x, aw_x, aw_x] [] (zH n I L c) (0, 0) _
  refine aw_iconst (v := -1) dX11_lendBy_0 rfl ?_
  refine aw_istore_n (ls2 := [_, _, _, _, _, _, _, _]) dX11_lendBy_1 (by decide) rfl rfl ?_
  refine aw_iconst (v := -1) dX11_lendBy_2 rfl ?_
  refine aw_istore_n (ls2 := [_, _, _, _, _, _, _, _]) dX11_lendBy_3 (by decide) rfl rfl ?_
  refine aw_iconst (v := 0) dX11_lendBy_4 rfl ?_
  refine aw_istore (ls2 := [_, _, _, _, _, _, _, _]) dX11_lendBy_5 (by decide) rfl rfl ?_
  refine aw_up (X := fun i => ∀ I m, zMy V kk t u y m I0 I → aw_W G mX11_lendBy 7 [.ref 81, .int (nI a), .int (nI ((z_ld (fun a b => o_cm x u (t_swap t a b)) (t 6 0) i).1) - 1), .int (nI ((z_ld (fun a b => o_cm x u (t_swap t a b)) (t 6 0) i).2) - 1), .int (nI i), aw_x, aw_x, aw_x] [] (zH n I L c) (0, 0) _) (Nat.zero_le 64) (fun I m hM => ?_) (fun i _ hi ih I m hM => ?_) _ _ hM
  · have hbl := z_ld_le (f := (fun a b => o_cm x u (t_swap t a b))) (n := t 6 0) (i := 64) (fun _ _ => o_cm_le)
    refine aw_iload dX11_lendBy_7 rfl ?_
    refine aw_bipush (v := 64) dX11_lendBy_9 (by decide) ?_
    refine aw_ic_ge_n (a := 64) (b := 64) (tgt := 96) dX11_lendBy_11 (by decide) (by omega) (by omega) (fun c11 => ?_) (fun z => absurd z (by omega))
    refine aw_iload_n dX11_lendBy_96 rfl ?_
    refine aw_iconst (v := -1) dX11_lendBy_97 rfl ?_
    refine aw_ic_ne_p (a := (z_ld (fun a b => o_cm x u (t_swap t a b)) (t 6 0) 64).1) (b := 0) (tgt := 105) dX11_lendBy_98 (by decide) (by omega) (by omega) (fun c98 => ?_) (fun c98 => ?_)
    · rw [zi_pred c98]
      refine aw_iload_n dX11_lendBy_105 rfl ?_
      refine aw_if_ne_n (a := a) (tgt := 116) dX11_lendBy_106 (by decide) (by omega) (fun c106 => ?_) (fun c106 => ?_)
      · refine aw_iload_n dX11_lendBy_116 rfl ?_
        refine aw_iconst (v := 1) dX11_lendBy_117 rfl ?_
        refine aw_ic_ne_n (a := a) (b := 1) (tgt := 128) dX11_lendBy_118 (by decide) (by omega) (by omega) (fun c118 => ?_) (fun c118 => ?_)
        · refine aw_iload_n dX11_lendBy_128 rfl ?_
          refine aw_reti dX11_lendBy_129 rfl rfl ⟨Nat.le_of_ble_eq_true rfl, Nat.le_of_ble_eq_true rfl⟩ ?_
          refine ⟨?_, _, rfl, _, hM⟩
          unfold r_lend z_ba z_bb
          rw [if_neg c106, if_neg c118]
        · refine aw_iload_n dX11_lendBy_121 rfl ?_
          refine aw_bipush (v := 8) dX11_lendBy_122 (by decide) ?_
          refine aw_irem_n (a := (z_ld (fun a b => o_cm x u (t_swap t a b)) (t 6 0) 64).1 - 1) (b := 8) dX11_lendBy_124 (by omega) (by omega) (by omega) ?_
          refine aw_goto (tgt := 129) dX11_lendBy_125 (by decide) ?_
          refine aw_reti dX11_lendBy_129 rfl rfl ⟨Nat.le_of_ble_eq_true rfl, Nat.le_of_ble_eq_true rfl⟩ ?_
          refine ⟨?_, _, rfl, _, hM⟩
          unfold r_lend z_ba z_bb
          rw [if_neg c106, if_pos c118, if_neg c98]
      · refine aw_iload_n dX11_lendBy_109 rfl ?_
        refine aw_bipush (v := 8) dX11_lendBy_110 (by decide) ?_
        refine aw_idiv_n (a := (z_ld (fun a b => o_cm x u (t_swap t a b)) (t 6 0) 64).1 - 1) (b := 8) dX11_lendBy_112 (by omega) (by omega) (by omega) ?_
        refine aw_goto (tgt := 129) dX11_lendBy_113 (by decide) ?_
        refine aw_reti dX11_lendBy_129 rfl rfl ⟨Nat.le_of_ble_eq_true rfl, Nat.le_of_ble_eq_true rfl⟩ ?_
        refine ⟨?_, _, rfl, _, hM⟩
        unfold r_lend z_ba z_bb
        rw [if_pos c106, if_neg c98]
    · refine aw_iconst (v := -1) dX11_lendBy_101 rfl ?_
      refine aw_goto (tgt := 129) dX11_lendBy_102 (by decide) ?_
      refine aw_reti dX11_lendBy_129 rfl rfl ⟨Nat.le_of_ble_eq_true rfl, Nat.le_of_ble_eq_true rfl⟩ ?_
      refine ⟨?_, _, rfl, _, hM⟩
      unfold r_lend z_ba z_bb
      rw [z_ld_0 c98]
      by_cases h0 : a = 0
      · rw [if_pos h0, if_pos c98]
      · rw [if_neg h0]
        by_cases h1 : a = 1
        · rw [if_pos h1, if_pos c98]
        · rw [if_neg h1]; rfl
  · have hbl := z_ld_le (f := (fun a b => o_cm x u (t_swap t a b))) (n := t 6 0) (i := i) (fun _ _ => o_cm_le)
    refine aw_iload dX11_lendBy_7 rfl ?_
    refine aw_bipush (v := 64) dX11_lendBy_9 (by decide) ?_
    refine aw_ic_ge_n (a := i) (b := 64) (tgt := 96) dX11_lendBy_11 (by decide) (by omega) (by omega) (fun z => absurd z (by omega)) (fun c11 => ?_)
    refine aw_iload dX11_lendBy_14 rfl ?_
    refine aw_bipush (v := 8) dX11_lendBy_16 (by decide) ?_
    refine aw_idiv_n (a := i) (b := 8) dX11_lendBy_18 (by omega) (by omega) (by omega) ?_
    refine aw_istore (ls2 := [_, _, _, _, _, _, _, _]) dX11_lendBy_19 (by decide) rfl rfl ?_
    refine aw_iload dX11_lendBy_21 rfl ?_
    refine aw_bipush (v := 8) dX11_lendBy_23 (by decide) ?_
    refine aw_irem_n (a := i) (b := 8) dX11_lendBy_25 (by omega) (by omega) (by omega) ?_
    refine aw_istore (ls2 := [_, _, _, _, _, _, _, _]) dX11_lendBy_26 (by decide) rfl rfl ?_
    refine aw_iload dX11_lendBy_28 rfl ?_
    refine aw_iload dX11_lendBy_30 rfl ?_
    refine aw_ic_ge_n (a := i / 8) (b := i % 8) (tgt := 90) dX11_lendBy_32 (by decide) (by omega) (by omega) (fun c32 => ?_) (fun c32 => ?_)
    · refine aw_iinc_n (ls2 := [_, _, _, _, _, _, _, _]) dX11_lendBy_90 rfl (by decide) rfl rfl ?_
      refine aw_goto (tgt := 7) dX11_lendBy_93 (by decide) ?_
      refine aw_kill (j := 5) (ls2 := [_, _, _, _, _, aw_x, _, _]) rfl (aw_kill (j := 6) (ls2 := [_, _, _, _, _, _, aw_x, _]) rfl (aw_kill (j := 7) (ls2 := [_, _, _, _, _, _, _, aw_x]) rfl ?_))
      have e : z_ld (fun a b => o_cm x u (t_swap t a b)) (t 6 0) (i + 1) = z_ld (fun a b => o_cm x u (t_swap t a b)) (t 6 0) i := by rw [z_ld, if_neg (fun q => by omega)]
      rw [e] at ih
      exact ih _ _ hM
    · refine aw_iload dX11_lendBy_35 rfl ?_
      refine aw_aload_n dX11_lendBy_37 rfl ?_
      refine aw_getI dX11_lendBy_38 f11_133 rfl ⟨Nat.le_of_ble_eq_true rfl, Nat.le_of_ble_eq_true rfl⟩ rfl ?_
      refine aw_top hM.2.1.2.2.1 ?_
      refine aw_ic_ge_n (a := i % 8) (b := t 6 0) (tgt := 90) dX11_lendBy_41 (by decide) (by omega) (by omega) (fun c41 => ?_) (fun c41 => ?_)
      · refine aw_iinc_n (ls2 := [_, _, _, _, _, _, _, _]) dX11_lendBy_90 rfl (by decide) rfl rfl ?_
        refine aw_goto (tgt := 7) dX11_lendBy_93 (by decide) ?_
        refine aw_kill (j := 5) (ls2 := [_, _, _, _, _, aw_x, _, _]) rfl (aw_kill (j := 6) (ls2 := [_, _, _, _, _, _, aw_x, _]) rfl (aw_kill (j := 7) (ls2 := [_, _, _, _, _, _, _, aw_x]) rfl ?_))
        have e : z_ld (fun a b => o_cm x u (t_swap t a b)) (t 6 0) (i + 1) = z_ld (fun a b => o_cm x u (t_swap t a b)) (t 6 0) i := by rw [z_ld, if_neg (fun q => by omega)]
        rw [e] at ih
        exact ih _ _ hM
      · refine aw_aload_n dX11_lendBy_44 rfl ?_
        refine aw_iload dX11_lendBy_45 rfl ?_
        refine aw_iload dX11_lendBy_47 rfl ?_
        refine aw_V0c (As := [_, _]) dX11_lendBy_49 k11_241 rfl rfl rfl ⟨Nat.le_of_ble_eq_true rfl, Nat.le_of_ble_eq_true rfl⟩ (Nat.le_of_ble_eq_true rfl) ⟨⟨Nat.le_of_ble_eq_true rfl, Nat.le_of_ble_eq_true rfl⟩, ⟨Nat.le_of_ble_eq_true rfl, Nat.le_of_ble_eq_true rfl⟩⟩ ⟨rfl, rfl⟩ (w_lends G (a := i / 8) (b := i % 8) hM (by omega) (by omega) h8) (fun v h2 hq => ?_)
        obtain ⟨rfl, I1, rfl, hM1⟩ := hq
        have hP1 : zPu (t_swap t (i / 8) (i % 8)) u x y := hP.sw (by omega) (by omega)
        refine aw_aload_n dX11_lendBy_52 rfl ?_
        refine aw_V0c (As := []) dX11_lendBy_53 k11_215 rfl rfl rfl ⟨Nat.le_of_ble_eq_true rfl, Nat.le_of_ble_eq_true rfl⟩ (Nat.le_of_ble_eq_true rfl) ⟨⟨Nat.le_of_ble_eq_true rfl, Nat.le_of_ble_eq_true rfl⟩, ⟨Nat.le_of_ble_eq_true rfl, Nat.le_of_ble_eq_true rfl⟩⟩ ⟨rfl, rfl⟩ (w_lv G hM1 hP1) (fun v h2 hq => ?_)
        obtain ⟨rfl, I2, rfl, hM2, hTo, hFr⟩ := hq
        have hcl := o_cm_le (t := t_swap t (i / 8) (i % 8)) (u := u) (x := x)
        refine aw_aload_n dX11_lendBy_56 rfl ?_
        refine aw_V0c (As := []) dX11_lendBy_57 k11_244 rfl rfl rfl ⟨Nat.le_of_ble_eq_true rfl, Nat.le_of_ble_eq_true rfl⟩ (Nat.le_of_ble_eq_true rfl) ⟨⟨Nat.le_of_ble_eq_true rfl, Nat.le_of_ble_eq_true rfl⟩, ⟨Nat.le_of_ble_eq_true rfl, Nat.le_of_ble_eq_true rfl⟩⟩ ⟨rfl, rfl⟩ (w_cm G hM2 hM1.2.2.2.2.2.1 hP1) (fun v h2 hq => ?_)
        obtain ⟨rfl, rfl⟩ := hq
        refine aw_istore (ls2 := [_, _, _, _, _, _, _, _]) dX11_lendBy_60 (by decide) rfl rfl ?_
        refine aw_iload dX11_lendBy_62 rfl ?_
        refine aw_iload_n dX11_lendBy_64 rfl ?_
        refine aw_snd (show _ = nI (o_cm x u (t_swap t (i / 8) (i % 8)) + 1) - 1 from (nI_pred (o_cm x u (t_swap t (i / 8) (i % 8)))).symm) ?_
        refine aw_ic_le_p (a := o_cm x u (t_swap t (i / 8) (i % 8)) + 1) (b := (z_ld (fun a b => o_cm x u (t_swap t a b)) (t 6 0) i).2) (tgt := 73) dX11_lendBy_65 (by decide) (by omega) (by omega) (fun c65 => ?_) (fun c65 => ?_)
        · refine aw_iload_n dX11_lendBy_73 rfl ?_
          refine aw_istore_n (ls2 := [_, _, _, _, _, _, _, _]) dX11_lendBy_74 (by decide) rfl rfl ?_
          refine aw_iload dX11_lendBy_75 rfl ?_
          refine aw_iload_n dX11_lendBy_77 rfl ?_
          refine aw_S0c (As := [_, _]) dX11_lendBy_78 k11_229 rfl rfl (Nat.le_of_ble_eq_true rfl) ⟨⟨Nat.le_of_ble_eq_true rfl, Nat.le_of_ble_eq_true rfl⟩, ⟨Nat.le_of_ble_eq_true rfl, Nat.le_of_ble_eq_true rfl⟩⟩ ⟨rfl, rfl⟩ (w_greaterN G (a := o_cm x u (t_swap t (i / 8) (i % 8))) (b := (z_ld (fun a b => o_cm x u (t_swap t a b)) (t 6 0) i).2) (by omega) (by omega)) (fun v h2 hq => ?_)
          obtain ⟨rfl, rfl⟩ := hq
          refine aw_istore_n (ls2 := [_, _, _, _, _, _, _, _]) dX11_lendBy_81 (by decide) rfl rfl ?_
          refine aw_aload_n dX11_lendBy_82 rfl ?_
          refine aw_iload dX11_lendBy_83 rfl ?_
          refine aw_iload dX11_lendBy_85 rfl ?_
          refine aw_V0c (As := [_, _]) dX11_lendBy_87 k11_241 rfl rfl rfl ⟨Nat.le_of_ble_eq_true rfl, Nat.le_of_ble_eq_true rfl⟩ (Nat.le_of_ble_eq_true rfl) ⟨⟨Nat.le_of_ble_eq_true rfl, Nat.le_of_ble_eq_true rfl⟩, ⟨Nat.le_of_ble_eq_true rfl, Nat.le_of_ble_eq_true rfl⟩⟩ ⟨rfl, rfl⟩ (w_lends G (a := i / 8) (b := i % 8) hM2 (by rw [t_swap_row (by decide) (by decide)]; omega) (by rw [t_swap_row (by decide) (by decide)]; omega) (by rw [t_swap_row (by decide) (by decide)]; exact h8)) (fun v h2 hq => ?_)
          obtain ⟨rfl, I3, rfl, hM3⟩ := hq
          rw [t_swap2 (by omega)] at hM3
          refine aw_iinc_n (ls2 := [_, _, _, _, _, _, _, _]) dX11_lendBy_90 rfl (by decide) rfl rfl ?_
          refine aw_goto (tgt := 7) dX11_lendBy_93 (by decide) ?_
          refine aw_kill (j := 5) (ls2 := [_, _, _, _, _, aw_x, _, _]) rfl (aw_kill (j := 6) (ls2 := [_, _, _, _, _, _, aw_x, _]) rfl (aw_kill (j := 7) (ls2 := [_, _, _, _, _, _, _, aw_x]) rfl ?_))
          have e : z_ld (fun a b => o_cm x u (t_swap t a b)) (t 6 0) (i + 1) = z_ld (fun a b => o_cm x u (t_swap t a b)) (t 6 0) i := by rw [z_ld, if_neg (fun q => by have := q.2; omega)]
          rw [e] at ih
          rw [if_neg (by omega)]
          exact ih _ _ hM3
        · refine aw_iload dX11_lendBy_68 rfl ?_
          refine aw_goto (tgt := 74) dX11_lendBy_70 (by decide) ?_
          refine aw_istore_n (ls2 := [_, _, _, _, _, _, _, _]) dX11_lendBy_74 (by decide) rfl rfl ?_
          refine aw_iload dX11_lendBy_75 rfl ?_
          refine aw_iload_n dX11_lendBy_77 rfl ?_
          refine aw_S0c (As := [_, _]) dX11_lendBy_78 k11_229 rfl rfl (Nat.le_of_ble_eq_true rfl) ⟨⟨Nat.le_of_ble_eq_true rfl, Nat.le_of_ble_eq_true rfl⟩, ⟨Nat.le_of_ble_eq_true rfl, Nat.le_of_ble_eq_true rfl⟩⟩ ⟨rfl, rfl⟩ (w_greaterN G (a := o_cm x u (t_swap t (i / 8) (i % 8))) (b := (z_ld (fun a b => o_cm x u (t_swap t a b)) (t 6 0) i).2) (by omega) (by omega)) (fun v h2 hq => ?_)
          obtain ⟨rfl, rfl⟩ := hq
          refine aw_istore_n (ls2 := [_, _, _, _, _, _, _, _]) dX11_lendBy_81 (by decide) rfl rfl ?_
          refine aw_aload_n dX11_lendBy_82 rfl ?_
          refine aw_iload dX11_lendBy_83 rfl ?_
          refine aw_iload dX11_lendBy_85 rfl ?_
          refine aw_V0c (As := [_, _]) dX11_lendBy_87 k11_241 rfl rfl rfl ⟨Nat.le_of_ble_eq_true rfl, Nat.le_of_ble_eq_true rfl⟩ (Nat.le_of_ble_eq_true rfl) ⟨⟨Nat.le_of_ble_eq_true rfl, Nat.le_of_ble_eq_true rfl⟩, ⟨Nat.le_of_ble_eq_true rfl, Nat.le_of_ble_eq_true rfl⟩⟩ ⟨rfl, rfl⟩ (w_lends G (a := i / 8) (b := i % 8) hM2 (by rw [t_swap_row (by decide) (by decide)]; omega) (by rw [t_swap_row (by decide) (by decide)]; omega) (by rw [t_swap_row (by decide) (by decide)]; exact h8)) (fun v h2 hq => ?_)
          obtain ⟨rfl, I3, rfl, hM3⟩ := hq
          rw [t_swap2 (by omega)] at hM3
          refine aw_iinc_n (ls2 := [_, _, _, _, _, _, _, _]) dX11_lendBy_90 rfl (by decide) rfl rfl ?_
          refine aw_goto (tgt := 7) dX11_lendBy_93 (by decide) ?_
          refine aw_kill (j := 5) (ls2 := [_, _, _, _, _, aw_x, _, _]) rfl (aw_kill (j := 6) (ls2 := [_, _, _, _, _, _, aw_x, _]) rfl (aw_kill (j := 7) (ls2 := [_, _, _, _, _, _, _, aw_x]) rfl ?_))
          have e : z_ld (fun a b => o_cm x u (t_swap t a b)) (t 6 0) (i + 1) = (i + 1, o_cm x u (t_swap t (i / 8) (i % 8)) + 1) := by rw [z_ld, if_pos ⟨⟨by omega, by omega⟩, by omega⟩]
          rw [e] at ih
          rw [if_pos (by omega)]
          refine aw_loc2h (nI_pred i).symm ?_
          exact ih _ _ hM3
def r_pl (z : Nat × Nat) (a : Nat) : Int32 := if a = 0 then nI z.1 - 1 else nI z.2 - 1
theorem aw_loc4h {G : aw_G} {M : aw_MR} {pc : Nat} {st : List Value} {h : aw_H} {q : Nat × Nat} {Q : Option Value → aw_H → Prop} {v0 v1 v2 v3 : Value} {vs : List Value} {x y : Int32} (e : x = y) (k : aw_W G M pc (v0 :: v1 :: v2 :: v3 :: .int y :: vs) st h q Q) : aw_W G M pc (v0 :: v1 :: v2 :: v3 :: .int x :: vs) st h q Q := e ▸ k
theorem w_delayOf (G : aw_G) {n c : Nat} {I I0 : Nat → Nat → Int32} {L : Nat → Nat → Int64} {V : Nat → Nat → Nat} {kk : Nat} {t u x y m : Nat → Nat → Nat} (hM : zMy V kk t u y m I0 I) (hP : zPu t u x y) {k a : Nat} (hk : k < 8) (ha : a < 2) : aw_Met G mX11_delayOf [.ref 81, .int (nI k), .int (nI a)] (zH n I L c) (fun v h2 => v = some (.int (r_pl (z_best (fun v => o_cm x u (aw_u t 5 k v)) 10) a)) ∧ ∃ I2, h2 = zH n I2 L c ∧ ∃ m2, zMy V kk t u y m2 I0 I2) := by
  refine aw_Met.of okX11_delayOf (Nat.le_of_ble_eq_true rfl) ?_
  show aw_W G mX11_delayOf 0 [.ref 81, .int (nI k), .int (nI a), aw_x, aw_x, aw_x, aw_x, aw_x] [] (zH n I L c) (0, 0) _
  refine aw_aload_n dX11_delayOf_0 rfl ?_
  refine aw_getR dX11_delayOf_1 f11_34 rfl ⟨Nat.le_of_ble_eq_true rfl, Nat.le_of_ble_eq_true rfl⟩ rfl rfl ?_
  refine aw_iload_n dX11_delayOf_4 rfl ?_
  refine aw_iald_n (j := k) dX11_delayOf_5 rfl (Nat.le_of_ble_eq_true rfl) (by decide) (by omega) ?_
  refine aw_top (hM.2.2.2.2.2.2.1 k hk) ?_
  refine aw_istore_n (ls2 := [_, _, _, _, _, _, _, _]) dX11_delayOf_6 (by decide) rfl rfl ?_
  refine aw_iconst (v := -1) dX11_delayOf_7 rfl ?_
  refine aw_istore (ls2 := [_, _, _, _, _, _, _, _]) dX11_delayOf_8 (by decide) rfl rfl ?_
  refine aw_iconst (v := -1) dX11_delayOf_10 rfl ?_
  refine aw_istore (ls2 := [_, _, _, _, _, _, _, _]) dX11_delayOf_11 (by decide) rfl rfl ?_
  refine aw_iconst (v := 0) dX11_delayOf_13 rfl ?_
  refine aw_istore (ls2 := [_, _, _, _, _, _, _, _]) dX11_delayOf_14 (by decide) rfl rfl ?_
  refine aw_up (X := fun i => ∀ I m v0, zMy V kk (aw_u t 5 k v0) u y m I0 I → aw_W G mX11_delayOf 16 [.ref 81, .int (nI k), .int (nI a), .int (nI (t 5 k)), .int (nI ((z_best (fun v => o_cm x u (aw_u t 5 k v)) i).1) - 1), .int (nI ((z_best (fun v => o_cm x u (aw_u t 5 k v)) i).2) - 1), .int (nI i), aw_x] [] (zH n I L c) (0, 0) _) (Nat.zero_le 10) (fun I m v0 hM => ?_) (fun i _ hi ih I m v0 hM => ?_) _ _ (t 5 k) (by rw [aw_u_id]; exact hM)
  · refine aw_iload dX11_delayOf_16 rfl ?_
    refine aw_bipush (v := 10) dX11_delayOf_18 (by decide) ?_
    refine aw_ic_ge_n (a := 10) (b := 10) (tgt := 72) dX11_delayOf_20 (by decide) (by omega) (by omega) (fun c20 => ?_) (fun z => absurd z (by omega))
    refine aw_aload_n dX11_delayOf_72 rfl ?_
    refine aw_getR dX11_delayOf_73 f11_34 rfl ⟨Nat.le_of_ble_eq_true rfl, Nat.le_of_ble_eq_true rfl⟩ rfl rfl ?_
    refine aw_iload_n dX11_delayOf_76 rfl ?_
    refine aw_iload_n dX11_delayOf_77 rfl ?_
    refine aw_iast_n (j := k) dX11_delayOf_78 rfl ⟨Nat.le_of_ble_eq_true rfl, Nat.le_of_ble_eq_true rfl⟩ (by decide) (by omega) ?_
    refine aw_iload_n dX11_delayOf_79 rfl ?_
    refine aw_if_ne_n (a := a) (tgt := 88) dX11_delayOf_80 (by decide) (by omega) (fun c80 => ?_) (fun c80 => ?_)
    · refine aw_iload dX11_delayOf_88 rfl ?_
      refine aw_reti dX11_delayOf_90 rfl rfl ⟨Nat.le_of_ble_eq_true rfl, Nat.le_of_ble_eq_true rfl⟩ ?_
      refine ⟨by unfold r_pl; rw [if_neg c80], _, rfl, m, by have h := hM.lt (k := k) (v := t 5 k); rw [aw_u_uu, aw_u_id] at h; exact h⟩
    · refine aw_iload dX11_delayOf_83 rfl ?_
      refine aw_goto (tgt := 90) dX11_delayOf_85 (by decide) ?_
      refine aw_reti dX11_delayOf_90 rfl rfl ⟨Nat.le_of_ble_eq_true rfl, Nat.le_of_ble_eq_true rfl⟩ ?_
      refine ⟨by unfold r_pl; rw [if_pos c80], _, rfl, m, by have h := hM.lt (k := k) (v := t 5 k); rw [aw_u_uu, aw_u_id] at h; exact h⟩
  · have hbl := z_best_le (f := (fun v => o_cm x u (aw_u t 5 k v))) (i := i) (B := 8) (fun j hj => o_cm_le)
    refine aw_iload dX11_delayOf_16 rfl ?_
    refine aw_bipush (v := 10) dX11_delayOf_18 (by decide) ?_
    refine aw_ic_ge_n (a := i) (b := 10) (tgt := 72) dX11_delayOf_20 (by decide) (by omega) (by omega) (fun z => absurd z (by omega)) (fun c20 => ?_)
    refine aw_aload_n dX11_delayOf_23 rfl ?_
    refine aw_getR dX11_delayOf_24 f11_34 rfl ⟨Nat.le_of_ble_eq_true rfl, Nat.le_of_ble_eq_true rfl⟩ rfl rfl ?_
    refine aw_iload_n dX11_delayOf_27 rfl ?_
    refine aw_iload dX11_delayOf_28 rfl ?_
    refine aw_iast_n (j := k) dX11_delayOf_30 rfl ⟨Nat.le_of_ble_eq_true rfl, Nat.le_of_ble_eq_true rfl⟩ (by decide) (by omega) ?_
    have hM1 := hM.lt (k := k) (v := i)
    rw [aw_u_uu] at hM1
    have hP1 : zPu (aw_u t 5 k i) u x y := hP.st (i := 5) (by decide) (show i < 40 by omega)
    refine aw_aload_n dX11_delayOf_31 rfl ?_
    refine aw_V0c (As := []) dX11_delayOf_32 k11_215 rfl rfl rfl ⟨Nat.le_of_ble_eq_true rfl, Nat.le_of_ble_eq_true rfl⟩ (Nat.le_of_ble_eq_true rfl) ⟨⟨Nat.le_of_ble_eq_true rfl, Nat.le_of_ble_eq_true rfl⟩, ⟨Nat.le_of_ble_eq_true rfl, Nat.le_of_ble_eq_true rfl⟩⟩ ⟨rfl, rfl⟩ (w_lv G hM1 hP1) (fun v h2 hq => ?_)
    obtain ⟨rfl, I2, rfl, hM2, hTo, hFr⟩ := hq
    have hcl := o_cm_le (t := aw_u t 5 k i) (u := u) (x := x)
    refine aw_aload_n dX11_delayOf_35 rfl ?_
    refine aw_V0c (As := []) dX11_delayOf_36 k11_244 rfl rfl rfl ⟨Nat.le_of_ble_eq_true rfl, Nat.le_of_ble_eq_true rfl⟩ (Nat.le_of_ble_eq_true rfl) ⟨⟨Nat.le_of_ble_eq_true rfl, Nat.le_of_ble_eq_true rfl⟩, ⟨Nat.le_of_ble_eq_true rfl, Nat.le_of_ble_eq_true rfl⟩⟩ ⟨rfl, rfl⟩ (w_cm G hM2 hM1.2.2.2.2.2.1 hP1) (fun v h2 hq => ?_)
    obtain ⟨rfl, rfl⟩ := hq
    refine aw_istore (ls2 := [_, _, _, _, _, _, _, _]) dX11_delayOf_39 (by decide) rfl rfl ?_
    refine aw_iload dX11_delayOf_41 rfl ?_
    refine aw_iload dX11_delayOf_43 rfl ?_
    refine aw_snd (show _ = nI (o_cm x u (aw_u t 5 k i) + 1) - 1 from (nI_pred (o_cm x u (aw_u t 5 k i))).symm) ?_
    refine aw_ic_le_p (a := o_cm x u (aw_u t 5 k i) + 1) (b := (z_best (fun v => o_cm x u (aw_u t 5 k v)) i).2) (tgt := 53) dX11_delayOf_45 (by decide) (by omega) (by omega) (fun c45 => ?_) (fun c45 => ?_)
    · refine aw_iload dX11_delayOf_53 rfl ?_
      refine aw_istore (ls2 := [_, _, _, _, _, _, _, _]) dX11_delayOf_55 (by decide) rfl rfl ?_
      refine aw_iload dX11_delayOf_57 rfl ?_
      refine aw_iload dX11_delayOf_59 rfl ?_
      refine aw_S0c (As := [_, _]) dX11_delayOf_61 k11_229 rfl rfl (Nat.le_of_ble_eq_true rfl) ⟨⟨Nat.le_of_ble_eq_true rfl, Nat.le_of_ble_eq_true rfl⟩, ⟨Nat.le_of_ble_eq_true rfl, Nat.le_of_ble_eq_true rfl⟩⟩ ⟨rfl, rfl⟩ (w_greaterN G (a := o_cm x u (aw_u t 5 k i)) (b := (z_best (fun v => o_cm x u (aw_u t 5 k v)) i).2) (by omega) (by omega)) (fun v h2 hq => ?_)
      obtain ⟨rfl, rfl⟩ := hq
      refine aw_istore (ls2 := [_, _, _, _, _, _, _, _]) dX11_delayOf_64 (by decide) rfl rfl ?_
      refine aw_iinc_n (ls2 := [_, _, _, _, _, _, _, _]) dX11_delayOf_66 rfl (by decide) rfl rfl ?_
      refine aw_goto (tgt := 16) dX11_delayOf_69 (by decide) ?_
      refine aw_kill (j := 7) (ls2 := [_, _, _, _, _, _, _, aw_x]) rfl ?_
      have e : z_best (fun v => o_cm x u (aw_u t 5 k v)) (i + 1) = z_best (fun v => o_cm x u (aw_u t 5 k v)) i := by rw [z_best, if_neg (by omega)]
      rw [e] at ih
      rw [if_neg (by omega)]
      exact ih _ _ _ hM2
    · refine aw_iload dX11_delayOf_48 rfl ?_
      refine aw_goto (tgt := 55) dX11_delayOf_50 (by decide) ?_
      refine aw_istore (ls2 := [_, _, _, _, _, _, _, _]) dX11_delayOf_55 (by decide) rfl rfl ?_
      refine aw_iload dX11_delayOf_57 rfl ?_
      refine aw_iload dX11_delayOf_59 rfl ?_
      refine aw_S0c (As := [_, _]) dX11_delayOf_61 k11_229 rfl rfl (Nat.le_of_ble_eq_true rfl) ⟨⟨Nat.le_of_ble_eq_true rfl, Nat.le_of_ble_eq_true rfl⟩, ⟨Nat.le_of_ble_eq_true rfl, Nat.le_of_ble_eq_true rfl⟩⟩ ⟨rfl, rfl⟩ (w_greaterN G (a := o_cm x u (aw_u t 5 k i)) (b := (z_best (fun v => o_cm x u (aw_u t 5 k v)) i).2) (by omega) (by omega)) (fun v h2 hq => ?_)
      obtain ⟨rfl, rfl⟩ := hq
      refine aw_istore (ls2 := [_, _, _, _, _, _, _, _]) dX11_delayOf_64 (by decide) rfl rfl ?_
      refine aw_iinc_n (ls2 := [_, _, _, _, _, _, _, _]) dX11_delayOf_66 rfl (by decide) rfl rfl ?_
      refine aw_goto (tgt := 16) dX11_delayOf_69 (by decide) ?_
      refine aw_kill (j := 7) (ls2 := [_, _, _, _, _, _, _, aw_x]) rfl ?_
      have e : z_best (fun v => o_cm x u (aw_u t 5 k v)) (i + 1) = (i + 1, o_cm x u (aw_u t 5 k i) + 1) := by rw [z_best, if_pos (by omega)]
      rw [e] at ih
      rw [if_pos (by omega)]
      refine aw_loc4h (nI_pred i).symm ?_
      exact ih _ _ _ hM2
theorem f_lv_w1 {V : Nat → Nat → Nat} {w a b : Nat} : f_lv V (w + 1) a b = if a = w ∧ b = 3 then 1 else V a b := by
  unfold f_lv
  by_cases hc : a = w ∧ b = 3
  · rw [if_pos hc, if_pos (by omega)]
  · rw [if_neg hc, if_neg (by omega)]
theorem f_lv_w2 {V : Nat → Nat → Nat} {w a b : Nat} : V a b = if a = w ∧ b = 3 then V w 3 else f_lv V (w + 1) a b := by
  unfold f_lv
  by_cases hc : a = w ∧ b = 3
  · rw [if_pos hc, hc.1, hc.2]
  · rw [if_neg hc, if_neg (by omega)]
theorem w_levelBy (G : aw_G) {n c : Nat} {I I0 : Nat → Nat → Int32} {L : Nat → Nat → Int64} {V : Nat → Nat → Nat} {kk : Nat} {t u x y m : Nat → Nat → Nat} (hM : zMy V kk t u y m I0 I) (hP : zPu t u x y) {a : Nat} (ha : a < 2) (hk10 : kk ≤ 10) (hV : f_Vok V kk) : aw_Met G mX11_levelBy [.ref 81, .int (nI a)] (zH n I L c) (fun v h2 => v = some (.int (r_pl (z_best (fun w => o_cm (f_x (f_lv V (w + 1)) kk) u t) kk) a)) ∧ ∃ I2, h2 = zH n I2 L c ∧ ∃ m2, zMy V kk t u (f_y V kk) m2 I0 I2) := by
  refine aw_Met.of okX11_levelBy (Nat.le_of_ble_eq_true rfl) ?_
  show aw_W G mX11_levelBy 0 [.ref 81, .int (nI a), aw_x, aw_x, aw_x, aw_x, aw_x] [] (zH n I L c) (0, 0) _
  refine aw_iconst (v := -1) dX11_levelBy_0 rfl ?_
  refine aw_istore_n (ls2 := [_, _, _, _, _, _, _]) dX11_levelBy_1 (by decide) rfl rfl ?_
  refine aw_iconst (v := -1) dX11_levelBy_2 rfl ?_
  refine aw_istore_n (ls2 := [_, _, _, _, _, _, _]) dX11_levelBy_3 (by decide) rfl rfl ?_
  refine aw_iconst (v := 0) dX11_levelBy_4 rfl ?_
  refine aw_istore (ls2 := [_, _, _, _, _, _, _]) dX11_levelBy_5 (by decide) rfl rfl ?_
  refine aw_up (X := fun w => ∀ I m y2, zMy V kk t u y2 m I0 I → aw_W G mX11_levelBy 7 [.ref 81, .int (nI a), .int (nI ((z_best (fun w => o_cm (f_x (f_lv V (w + 1)) kk) u t) w).1) - 1), .int (nI ((z_best (fun w => o_cm (f_x (f_lv V (w + 1)) kk) u t) w).2) - 1), .int (nI w), aw_x, aw_x] [] (zH n I L c) (0, 0) _) (Nat.zero_le kk) (fun I m y2 hM => ?_) (fun w _ hw ih I m y2 hM => ?_) _ _ _ hM
  · refine aw_iload dX11_levelBy_7 rfl ?_
    refine aw_aload_n dX11_levelBy_9 rfl ?_
    refine aw_getI dX11_levelBy_10 f11_127 rfl ⟨Nat.le_of_ble_eq_true rfl, Nat.le_of_ble_eq_true rfl⟩ rfl ?_
    refine aw_top hM.1.1 ?_
    refine aw_ic_ge_n (a := kk) (b := kk) (tgt := 94) dX11_levelBy_13 (by decide) (by omega) (by omega) (fun c13 => ?_) (fun z => absurd z (by omega))
    refine aw_aload_n dX11_levelBy_94 rfl ?_
    refine aw_V0c (As := []) dX11_levelBy_95 k11_212 rfl rfl rfl ⟨Nat.le_of_ble_eq_true rfl, Nat.le_of_ble_eq_true rfl⟩ (Nat.le_of_ble_eq_true rfl) ⟨⟨Nat.le_of_ble_eq_true rfl, Nat.le_of_ble_eq_true rfl⟩, ⟨Nat.le_of_ble_eq_true rfl, Nat.le_of_ble_eq_true rfl⟩⟩ ⟨rfl, rfl⟩ (w_maps G hM.1 hk10 hV) (fun v h2 hq => ?_)
    obtain ⟨rfl, I2, rfl, hY2, hf2⟩ := hq
    have hM2 := hM.mp hY2 hf2
    refine aw_iload_n dX11_levelBy_98 rfl ?_
    refine aw_if_ne_n (a := a) (tgt := 106) dX11_levelBy_99 (by decide) (by omega) (fun c99 => ?_) (fun c99 => ?_)
    · refine aw_iload_n dX11_levelBy_106 rfl ?_
      refine aw_reti dX11_levelBy_107 rfl rfl ⟨Nat.le_of_ble_eq_true rfl, Nat.le_of_ble_eq_true rfl⟩ ?_
      exact ⟨by unfold r_pl; rw [if_neg c99], _, rfl, m, hM2⟩
    · refine aw_iload_n dX11_levelBy_102 rfl ?_
      refine aw_goto (tgt := 107) dX11_levelBy_103 (by decide) ?_
      refine aw_reti dX11_levelBy_107 rfl rfl ⟨Nat.le_of_ble_eq_true rfl, Nat.le_of_ble_eq_true rfl⟩ ?_
      exact ⟨by unfold r_pl; rw [if_pos c99], _, rfl, m, hM2⟩
  · have hbl := z_best_le (f := (fun w => o_cm (f_x (f_lv V (w + 1)) kk) u t)) (i := w) (B := 8) (fun j hj => o_cm_le)
    refine aw_iload dX11_levelBy_7 rfl ?_
    refine aw_aload_n dX11_levelBy_9 rfl ?_
    refine aw_getI dX11_levelBy_10 f11_127 rfl ⟨Nat.le_of_ble_eq_true rfl, Nat.le_of_ble_eq_true rfl⟩ rfl ?_
    refine aw_top hM.1.1 ?_
    refine aw_ic_ge_n (a := w) (b := kk) (tgt := 94) dX11_levelBy_13 (by decide) (by omega) (by omega) (fun z => absurd z (by omega)) (fun c13 => ?_)
    refine aw_aload_n dX11_levelBy_16 rfl ?_
    refine aw_getR dX11_levelBy_17 f11_28 rfl ⟨Nat.le_of_ble_eq_true rfl, Nat.le_of_ble_eq_true rfl⟩ rfl rfl ?_
    refine aw_iconst (v := 4) dX11_levelBy_20 rfl ?_
    refine aw_iload dX11_levelBy_21 rfl ?_
    refine aw_imul_n (a := 4) (b := w) dX11_levelBy_23 ?_
    refine aw_iconst (v := 3) dX11_levelBy_24 rfl ?_
    refine aw_iadd_n (a := 4 * w) (b := 3) dX11_levelBy_25 ?_
    refine aw_iald_n (j := (4 * w) + 3) dX11_levelBy_26 rfl (Nat.le_of_ble_eq_true rfl) (by decide) (by omega) ?_
    refine aw_top (hM.1.2 w 3 (by omega) (by decide)) ?_
    refine aw_istore (ls2 := [_, _, _, _, _, _, _]) dX11_levelBy_27 (by decide) rfl rfl ?_
    refine aw_aload_n dX11_levelBy_29 rfl ?_
    refine aw_getR dX11_levelBy_30 f11_28 rfl ⟨Nat.le_of_ble_eq_true rfl, Nat.le_of_ble_eq_true rfl⟩ rfl rfl ?_
    refine aw_iconst (v := 4) dX11_levelBy_33 rfl ?_
    refine aw_iload dX11_levelBy_34 rfl ?_
    refine aw_imul_n (a := 4) (b := w) dX11_levelBy_36 ?_
    refine aw_iconst (v := 3) dX11_levelBy_37 rfl ?_
    refine aw_iadd_n (a := 4 * w) (b := 3) dX11_levelBy_38 ?_
    refine aw_iconst (v := 1) dX11_levelBy_39 rfl ?_
    refine aw_top (show (1 : Int32) = nI 1 from rfl) ?_
    refine aw_iast_n (j := (4 * w) + 3) dX11_levelBy_40 rfl ⟨Nat.le_of_ble_eq_true rfl, Nat.le_of_ble_eq_true rfl⟩ (by decide) (by omega) ?_
    have hM1 : zMy (f_lv V (w + 1)) kk t u y2 m I0 _ := hM.wy (w := w) (v := 1) (fun a b ha hb => f_lv_w1)
    have hG1 : zGo (f_x (f_lv V (w + 1)) kk) (f_y (f_lv V (w + 1)) kk) := zCharts (f_lv_ok hV)
    have hP1 : zPu t u (f_x (f_lv V (w + 1)) kk) (f_y (f_lv V (w + 1)) kk) := ⟨hP.1, hP.2.1, hP.2.2.1, hG1⟩
    refine aw_aload_n dX11_levelBy_41 rfl ?_
    refine aw_V0c (As := []) dX11_levelBy_42 k11_212 rfl rfl rfl ⟨Nat.le_of_ble_eq_true rfl, Nat.le_of_ble_eq_true rfl⟩ (Nat.le_of_ble_eq_true rfl) ⟨⟨Nat.le_of_ble_eq_true rfl, Nat.le_of_ble_eq_true rfl⟩, ⟨Nat.le_of_ble_eq_true rfl, Nat.le_of_ble_eq_true rfl⟩⟩ ⟨rfl, rfl⟩ (w_maps G hM1.1 hk10 (f_lv_ok hV)) (fun v h2 hq => ?_)
    obtain ⟨rfl, I2, rfl, hY2, hf2⟩ := hq
    have hM2 := hM1.mp hY2 hf2
    refine aw_aload_n dX11_levelBy_45 rfl ?_
    refine aw_V0c (As := []) dX11_levelBy_46 k11_215 rfl rfl rfl ⟨Nat.le_of_ble_eq_true rfl, Nat.le_of_ble_eq_true rfl⟩ (Nat.le_of_ble_eq_true rfl) ⟨⟨Nat.le_of_ble_eq_true rfl, Nat.le_of_ble_eq_true rfl⟩, ⟨Nat.le_of_ble_eq_true rfl, Nat.le_of_ble_eq_true rfl⟩⟩ ⟨rfl, rfl⟩ (w_lv G hM2 hP1) (fun v h2 hq => ?_)
    obtain ⟨rfl, I3, rfl, hM3, hTo, hFr⟩ := hq
    have hcl := o_cm_le (t := t) (u := u) (x := f_x (f_lv V (w + 1)) kk)
    refine aw_aload_n dX11_levelBy_49 rfl ?_
    refine aw_V0c (As := []) dX11_levelBy_50 k11_244 rfl rfl rfl ⟨Nat.le_of_ble_eq_true rfl, Nat.le_of_ble_eq_true rfl⟩ (Nat.le_of_ble_eq_true rfl) ⟨⟨Nat.le_of_ble_eq_true rfl, Nat.le_of_ble_eq_true rfl⟩, ⟨Nat.le_of_ble_eq_true rfl, Nat.le_of_ble_eq_true rfl⟩⟩ ⟨rfl, rfl⟩ (w_cm G hM3 hM2.2.2.2.2.2.1 hP1) (fun v h2 hq => ?_)
    obtain ⟨rfl, rfl⟩ := hq
    refine aw_istore (ls2 := [_, _, _, _, _, _, _]) dX11_levelBy_53 (by decide) rfl rfl ?_
    refine aw_iload dX11_levelBy_55 rfl ?_
    refine aw_iload_n dX11_levelBy_57 rfl ?_
    refine aw_snd (show _ = nI (o_cm (f_x (f_lv V (w + 1)) kk) u t + 1) - 1 from (nI_pred (o_cm (f_x (f_lv V (w + 1)) kk) u t)).symm) ?_
    refine aw_ic_le_p (a := o_cm (f_x (f_lv V (w + 1)) kk) u t + 1) (b := (z_best (fun w => o_cm (f_x (f_lv V (w + 1)) kk) u t) w).2) (tgt := 66) dX11_levelBy_58 (by decide) (by omega) (by omega) (fun c58 => ?_) (fun c58 => ?_)
    · refine aw_iload_n dX11_levelBy_66 rfl ?_
      refine aw_istore_n (ls2 := [_, _, _, _, _, _, _]) dX11_levelBy_67 (by decide) rfl rfl ?_
      refine aw_iload dX11_levelBy_68 rfl ?_
      refine aw_iload_n dX11_levelBy_70 rfl ?_
      refine aw_S0c (As := [_, _]) dX11_levelBy_71 k11_229 rfl rfl (Nat.le_of_ble_eq_true rfl) ⟨⟨Nat.le_of_ble_eq_true rfl, Nat.le_of_ble_eq_true rfl⟩, ⟨Nat.le_of_ble_eq_true rfl, Nat.le_of_ble_eq_true rfl⟩⟩ ⟨rfl, rfl⟩ (w_greaterN G (a := o_cm (f_x (f_lv V (w + 1)) kk) u t) (b := (z_best (fun w => o_cm (f_x (f_lv V (w + 1)) kk) u t) w).2) (by omega) (by omega)) (fun v h2 hq => ?_)
      obtain ⟨rfl, rfl⟩ := hq
      refine aw_istore_n (ls2 := [_, _, _, _, _, _, _]) dX11_levelBy_74 (by decide) rfl rfl ?_
      refine aw_aload_n dX11_levelBy_75 rfl ?_
      refine aw_getR dX11_levelBy_76 f11_28 rfl ⟨Nat.le_of_ble_eq_true rfl, Nat.le_of_ble_eq_true rfl⟩ rfl rfl ?_
      refine aw_iconst (v := 4) dX11_levelBy_79 rfl ?_
      refine aw_iload dX11_levelBy_80 rfl ?_
      refine aw_imul_n (a := 4) (b := w) dX11_levelBy_82 ?_
      refine aw_iconst (v := 3) dX11_levelBy_83 rfl ?_
      refine aw_iadd_n (a := 4 * w) (b := 3) dX11_levelBy_84 ?_
      refine aw_iload dX11_levelBy_85 rfl ?_
      refine aw_iast_n (j := (4 * w) + 3) dX11_levelBy_87 rfl ⟨Nat.le_of_ble_eq_true rfl, Nat.le_of_ble_eq_true rfl⟩ (by decide) (by omega) ?_
      have hM4 : zMy V kk t u _ _ I0 _ := hM3.wy (w := w) (v := V w 3) (fun a b ha hb => f_lv_w2)
      refine aw_iinc_n (ls2 := [_, _, _, _, _, _, _]) dX11_levelBy_88 rfl (by decide) rfl rfl ?_
      refine aw_goto (tgt := 7) dX11_levelBy_91 (by decide) ?_
      refine aw_kill (j := 5) (ls2 := [_, _, _, _, _, aw_x, _]) rfl (aw_kill (j := 6) (ls2 := [_, _, _, _, _, _, aw_x]) rfl ?_)
      have e : z_best (fun w => o_cm (f_x (f_lv V (w + 1)) kk) u t) (w + 1) = z_best (fun w => o_cm (f_x (f_lv V (w + 1)) kk) u t) w := by rw [z_best, if_neg (by omega)]
      rw [e] at ih
      rw [if_neg (by omega)]
      exact ih _ _ _ hM4
    · refine aw_iload dX11_levelBy_61 rfl ?_
      refine aw_goto (tgt := 67) dX11_levelBy_63 (by decide) ?_
      refine aw_istore_n (ls2 := [_, _, _, _, _, _, _]) dX11_levelBy_67 (by decide) rfl rfl ?_
      refine aw_iload dX11_levelBy_68 rfl ?_
      refine aw_iload_n dX11_levelBy_70 rfl ?_
      refine aw_S0c (As := [_, _]) dX11_levelBy_71 k11_229 rfl rfl (Nat.le_of_ble_eq_true rfl) ⟨⟨Nat.le_of_ble_eq_true rfl, Nat.le_of_ble_eq_true rfl⟩, ⟨Nat.le_of_ble_eq_true rfl, Nat.le_of_ble_eq_true rfl⟩⟩ ⟨rfl, rfl⟩ (w_greaterN G (a := o_cm (f_x (f_lv V (w + 1)) kk) u t) (b := (z_best (fun w => o_cm (f_x (f_lv V (w + 1)) kk) u t) w).2) (by omega) (by omega)) (fun v h2 hq => ?_)
      obtain ⟨rfl, rfl⟩ := hq
      refine aw_istore_n (ls2 := [_, _, _, _, _, _, _]) dX11_levelBy_74 (by decide) rfl rfl ?_
      refine aw_aload_n dX11_levelBy_75 rfl ?_
      refine aw_getR dX11_levelBy_76 f11_28 rfl ⟨Nat.le_of_ble_eq_true rfl, Nat.le_of_ble_eq_true rfl⟩ rfl rfl ?_
      refine aw_iconst (v := 4) dX11_levelBy_79 rfl ?_
      refine aw_iload dX11_levelBy_80 rfl ?_
      refine aw_imul_n (a := 4) (b := w) dX11_levelBy_82 ?_
      refine aw_iconst (v := 3) dX11_levelBy_83 rfl ?_
      refine aw_iadd_n (a := 4 * w) (b := 3) dX11_levelBy_84 ?_
      refine aw_iload dX11_levelBy_85 rfl ?_
      refine aw_iast_n (j := (4 * w) + 3) dX11_levelBy_87 rfl ⟨Nat.le_of_ble_eq_true rfl, Nat.le_of_ble_eq_true rfl⟩ (by decide) (by omega) ?_
      have hM4 : zMy V kk t u _ _ I0 _ := hM3.wy (w := w) (v := V w 3) (fun a b ha hb => f_lv_w2)
      refine aw_iinc_n (ls2 := [_, _, _, _, _, _, _]) dX11_levelBy_88 rfl (by decide) rfl rfl ?_
      refine aw_goto (tgt := 7) dX11_levelBy_91 (by decide) ?_
      refine aw_kill (j := 5) (ls2 := [_, _, _, _, _, aw_x, _]) rfl (aw_kill (j := 6) (ls2 := [_, _, _, _, _, _, aw_x]) rfl ?_)
      have e : z_best (fun w => o_cm (f_x (f_lv V (w + 1)) kk) u t) (w + 1) = (w + 1, o_cm (f_x (f_lv V (w + 1)) kk) u t + 1) := by rw [z_best, if_pos (by omega)]
      rw [e] at ih
      rw [if_pos (by omega)]
      refine aw_loc2h (nI_pred w).symm ?_
      exact ih _ _ _ hM4
