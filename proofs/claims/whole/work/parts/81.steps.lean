/-! A STEP of the law: the class, then the reference -/
def zINV (I : Nat → Nat → Int32) : Prop := ∃ (b0 b1 : Nat → Nat) (l0 l1 : Nat) (t u x y V g : Nat → Nat → Nat) (kk : Nat) (F S : Nat → Nat) (E : Nat → Nat → Int32) (fd : Int32), zTx b0 b1 l0 l1 t u x y V kk ∧ zCI b0 b1 l0 l1 t u x y g F S E fd I ∧ zMI b0 b1 l0 l1 t u g F S E fd I
def zStp (G : aw_G) (n : Nat) (MC MM : aw_MR) (As : List Value) (w : Value → Prop) (I : Nat → Nat → Int32) : Prop := ∃ r, w r ∧ ∀ L c, aw_Met G MC (.ref 3 :: As) (zH n I L c) (fun v h2 => v = some r ∧ ∃ I2 L2 c2, h2 = zH n I2 L2 c2 ∧ aw_Met G MM (.ref 81 :: As) (zH n I2 L2 c2) (fun v h3 => v = some r ∧ ∃ I3 L3 c3, h3 = zH n I3 L3 c3 ∧ zINV I3))
def wInt (v : Value) : Prop := ∃ z, v = .int z
def wLong (v : Value) : Prop := ∃ z, v = .long z
section ZST
variable {b0 b1 c0 c1 : Nat → Nat} {l0 l1 k0 k1 : Nat} {t u x y V g t3 u3 x3 y3 V3 g3 : Nat → Nat → Nat} {kk kk3 : Nat} {F S F3 S3 : Nat → Nat} {E E3 : Nat → Nat → Int32} {fd fd3 : Int32} {I I2 : Nat → Nat → Int32}
theorem zCI.fr (h : zCI b0 b1 l0 l1 t u x y g F S E fd I) (hF : ∀ o, o < 81 → I2 o = I o) : zCI b0 b1 l0 l1 t u x y g F S E fd I2 := by
  obtain ⟨h1, h2, h3, ⟨s0, h4, h5⟩, ⟨t2, s2, h6⟩, h7, h8, h9⟩ := h
  exact ⟨h1.mv (hF 1 (by decide)) (hF 5 (by decide)) (hF 4 (by decide)), h2.mv (hF 2 (by decide)) (hF 7 (by decide)) (hF 6 (by decide)), h3.mv (fun o ho => hF o (by omega)), ⟨s0, h4, h5.mv2 (fun i hi => hF _ (by omega))⟩, ⟨t2, s2, h6.mv (fun o a b => hF o (by omega))⟩, h7.mv2 (fun o a b => hF o (by omega)), h8.mv (fun o a b => hF o (by omega)), by rw [hF 3 (by decide)]; exact h9⟩
theorem zMI.fr (h : zMI b0 b1 l0 l1 t u g F S E fd I) (hF : ∀ o, 81 ≤ o → I2 o = I o) : zMI b0 b1 l0 l1 t u g F S E fd I2 := by
  obtain ⟨⟨h1, h2, h3, h4, h5, m, h6, h7⟩, h8, h9⟩ := h
  exact ⟨⟨h1.mv (hF 86 (by decide)) (hF 87 (by decide)), fun k hk => by rw [hF 90 (by decide)]; exact h2 k hk, h3.mv3 (by rw [hF 81 (by decide)]) (hF 91 (by decide)), by rw [hF 81 (by decide)]; exact h4, h5.mv3 (by rw [hF 81 (by decide)]) (hF 103 (by decide)), m, h6.mv2 (fun i hi => hF _ (by omega)) (by rw [hF 81 (by decide)]) (by rw [hF 81 (by decide)]), h7⟩, h8.mv (hF 82 (by decide)) (hF 83 (by decide)) (hF 84 (by decide)), by rw [hF 81 (by decide)]; exact h9⟩
variable {G : aw_G} {n : Nat} {MC MM : aw_MR} {As : List Value} {w : Value → Prop} {r : Value}
theorem zStp.mk (A : (Nat → Nat → Int32) → Prop) (hw : w r) (hC : ∀ L c, aw_Met G MC (.ref 3 :: As) (zH n I L c) (fun v h2 => v = some r ∧ ∃ I2 L2 c2, h2 = zH n I2 L2 c2 ∧ A I2 ∧ ∀ o, 81 ≤ o → I2 o = I o))
    (hM : ∀ I2 L c, A I2 → (∀ o, 81 ≤ o → I2 o = I o) → aw_Met G MM (.ref 81 :: As) (zH n I2 L c) (fun v h3 => v = some r ∧ ∃ I3, h3 = zH n I3 L c ∧ zINV I3)) : zStp G n MC MM As w I := by
  refine ⟨r, hw, fun L c => aw_Met.mono ?_ (hC L c)⟩
  rintro v h2 ⟨rfl, I2, L2, c2, rfl, hA, hF⟩
  refine ⟨rfl, I2, L2, c2, rfl, aw_Met.mono ?_ (hM I2 L2 c2 hA hF)⟩
  rintro v h3 ⟨rfl, I3, rfl, hI⟩
  exact ⟨rfl, I3, L2, c2, rfl, hI⟩
theorem zStp.chg (hX : zTx c0 c1 k0 k1 t3 u3 x3 y3 V3 kk3) (hm : zMI b0 b1 l0 l1 t u g F S E fd I) (hw : w r) (hC : ∀ L c, aw_Met G MC (.ref 3 :: As) (zH n I L c) (fun v h2 => v = some r ∧ ∃ I2 L2 c2, h2 = zH n I2 L2 c2 ∧ zCI c0 c1 k0 k1 t3 u3 x3 y3 g3 F3 S3 E3 fd3 I2 ∧ ∀ o, 81 ≤ o → I2 o = I o))
    (hM : ∀ (I2 : Nat → Nat → Int32) L c, zMI b0 b1 l0 l1 t u g F S E fd I2 → aw_Met G MM (.ref 81 :: As) (zH n I2 L c) (fun v h3 => v = some r ∧ ∃ I3, h3 = zH n I3 L c ∧ zMI c0 c1 k0 k1 t3 u3 g3 F3 S3 E3 fd3 I3 ∧ ∀ o, o < 81 → I3 o = I2 o)) : zStp G n MC MM As w I := by
  refine zStp.mk _ hw hC (fun I2 L c hA hF => aw_Met.mono ?_ (hM I2 L c (hm.fr hF)))
  rintro v h3 ⟨rfl, I3, rfl, hm3, hF3⟩
  exact ⟨rfl, I3, rfl, c0, c1, k0, k1, t3, u3, x3, y3, V3, g3, kk3, F3, S3, E3, fd3, hX, hA.fr hF3, hm3⟩
theorem zStp.chgT (hm : zMI b0 b1 l0 l1 t u g F S E fd I) (hw : w r) (hC : ∀ L c, aw_Met G MC (.ref 3 :: As) (zH n I L c) (fun v h2 => v = some r ∧ ∃ I2 L2 c2, h2 = zH n I2 L2 c2 ∧ zTx c0 c1 k0 k1 t3 u3 x3 y3 V3 kk3 ∧ zCI c0 c1 k0 k1 t3 u3 x3 y3 g3 F3 S3 E3 fd3 I2 ∧ ∀ o, 81 ≤ o → I2 o = I o))
    (hM : ∀ (I2 : Nat → Nat → Int32) L c, zMI b0 b1 l0 l1 t u g F S E fd I2 → aw_Met G MM (.ref 81 :: As) (zH n I2 L c) (fun v h3 => v = some r ∧ ∃ I3, h3 = zH n I3 L c ∧ zMI c0 c1 k0 k1 t3 u3 g3 F3 S3 E3 fd3 I3 ∧ ∀ o, o < 81 → I3 o = I2 o)) : zStp G n MC MM As w I := by
  refine zStp.mk (fun I2 => zTx c0 c1 k0 k1 t3 u3 x3 y3 V3 kk3 ∧ zCI c0 c1 k0 k1 t3 u3 x3 y3 g3 F3 S3 E3 fd3 I2) hw (fun L c => aw_Met.mono ?_ (hC L c)) (fun I2 L c hA hF => aw_Met.mono ?_ (hM I2 L c (hm.fr hF)))
  · rintro v h2 ⟨rfl, I2, L2, c2, rfl, a, b, d⟩
    exact ⟨rfl, I2, L2, c2, rfl, ⟨a, b⟩, d⟩
  · rintro v h3 ⟨rfl, I3, rfl, hm3, hF3⟩
    exact ⟨rfl, I3, rfl, c0, c1, k0, k1, t3, u3, x3, y3, V3, g3, kk3, F3, S3, E3, fd3, hA.1, hA.2.fr hF3, hm3⟩
theorem zStp.txW (h61 : t 6 1 = 0) (hm : zMI b0 b1 l0 l1 t u g F S E fd I) (hw : w r) (hC : ∀ L c, aw_Met G MC (.ref 3 :: As) (zH n I L c) (fun v h2 => v = some r ∧ ∃ I2 L2 c2, h2 = zH n I2 L2 c2 ∧ (∃ x2 y2 V2 kk2, zTx c0 b1 k0 l1 t u x2 y2 V2 kk2 ∧ zCI c0 b1 k0 l1 t u x2 y2 g F S E fd I2) ∧ ∀ o, 81 ≤ o → I2 o = I o))
    (hM : ∀ (I2 : Nat → Nat → Int32) L c, zMI b0 b1 l0 l1 t u g F S E fd I2 → aw_Met G MM (.ref 81 :: As) (zH n I2 L c) (fun v h3 => v = some r ∧ ∃ I3, h3 = zH n I3 L c ∧ (∀ t3 : Nat → Nat → Nat, (∀ k, k < 8 → t3 5 k = t 5 k) → t3 6 1 = 0 → zMI c0 b1 k0 l1 t3 u g F S E fd I3) ∧ ∀ o, o < 81 → I3 o = I2 o)) : zStp G n MC MM As w I := by
  refine zStp.mk _ hw hC (fun I2 L c hA hF => aw_Met.mono ?_ (hM I2 L c (hm.fr hF)))
  rintro v h3 ⟨rfl, I3, rfl, hm3, hF3⟩
  obtain ⟨x2, y2, V2, kk2, hX, hc⟩ := hA
  exact ⟨rfl, I3, rfl, c0, b1, k0, l1, t, u, x2, y2, V2, g, kk2, F, S, E, fd, hX, hc.fr hF3, hm3 t (fun _ _ => rfl) h61⟩
theorem zStp.txC (hm : zMI b0 b1 l0 l1 t u g F S E fd I) (hw : w r) (hC : ∀ L c, aw_Met G MC (.ref 3 :: As) (zH n I L c) (fun v h2 => v = some r ∧ ∃ I2 L2 c2, h2 = zH n I2 L2 c2 ∧ (∃ t3, zTx b0 c1 l0 k1 t3 u x y V kk ∧ zCI b0 c1 l0 k1 t3 u x y g F S E fd I2 ∧ ∀ k, k < 8 → t3 5 k = t 5 k) ∧ ∀ o, 81 ≤ o → I2 o = I o))
    (hM : ∀ (I2 : Nat → Nat → Int32) L c, zMI b0 b1 l0 l1 t u g F S E fd I2 → aw_Met G MM (.ref 81 :: As) (zH n I2 L c) (fun v h3 => v = some r ∧ ∃ I3, h3 = zH n I3 L c ∧ (∀ t3 : Nat → Nat → Nat, (∀ k, k < 8 → t3 5 k = t 5 k) → t3 6 1 = 0 → zMI b0 c1 l0 k1 t3 u g F S E fd I3) ∧ ∀ o, o < 81 → I3 o = I2 o)) : zStp G n MC MM As w I := by
  refine zStp.mk _ hw hC (fun I2 L c hA hF => aw_Met.mono ?_ (hM I2 L c (hm.fr hF)))
  rintro v h3 ⟨rfl, I3, rfl, hm3, hF3⟩
  obtain ⟨t3, hX, hc, h5⟩ := hA
  exact ⟨rfl, I3, rfl, b0, c1, l0, k1, t3, u, x, y, V, g, kk, F, S, E, fd, hX, hc.fr hF3, hm3 t3 h5 hX.2.2.1⟩
end ZST
theorem st_fault (G : aw_G) {n : Nat} {I : Nat → Nat → Int32} (h : zINV I) (a1 : Int32) : zStp G n mX10_fault mX11_fault [.int a1] wInt I := by
  obtain ⟨b0, b1, l0, l1, t, u, x, y, V, g, kk, F, S, E, fd, hX, hc, hm⟩ := h
  exact zStp.chg hX hm ⟨_, rfl⟩ (fun L c => c_fault G hX hc) (fun I2 L c h2 => m_fault G hX h2)
theorem st_way (G : aw_G) {n : Nat} {I : Nat → Nat → Int32} (h : zINV I) (a1 : Int32) (a2 : Int32) : zStp G n mX10_way mX11_way [.int a1, .int a2] wInt I := by
  obtain ⟨b0, b1, l0, l1, t, u, x, y, V, g, kk, F, S, E, fd, hX, hc, hm⟩ := h
  exact zStp.chg hX hm ⟨_, rfl⟩ (fun L c => c_way G hX hc) (fun I2 L c h2 => m_way G hX h2)
theorem st_carter (G : aw_G) {n : Nat} {I : Nat → Nat → Int32} (h : zINV I) (a1 : Int32) (a2 : Int32) : zStp G n mX10_carter mX11_carter [.int a1, .int a2] wInt I := by
  obtain ⟨b0, b1, l0, l1, t, u, x, y, V, g, kk, F, S, E, fd, hX, hc, hm⟩ := h
  exact zStp.chg hX hm ⟨_, rfl⟩ (fun L c => c_carter G hX hc) (fun I2 L c h2 => m_carter G hX h2)
theorem st_at (G : aw_G) {n : Nat} {I : Nat → Nat → Int32} (h : zINV I) (a1 : Int32) (a2 : Int32) (a3 : Int32) : zStp G n mX10_at mX11_at [.int a1, .int a2, .int a3] wInt I := by
  obtain ⟨b0, b1, l0, l1, t, u, x, y, V, g, kk, F, S, E, fd, hX, hc, hm⟩ := h
  exact zStp.chg hX hm ⟨_, rfl⟩ (fun L c => c_at G hX hc) (fun I2 L c h2 => m_at G hX h2)
theorem st_ends (G : aw_G) {n : Nat} {I : Nat → Nat → Int32} (h : zINV I) (a1 : Int32) : zStp G n mX10_ends mX11_ends [.int a1] wInt I := by
  obtain ⟨b0, b1, l0, l1, t, u, x, y, V, g, kk, F, S, E, fd, hX, hc, hm⟩ := h
  exact zStp.chg hX hm ⟨_, rfl⟩ (fun L c => c_ends G hX hc) (fun I2 L c h2 => m_ends G hX h2)
theorem st_far (G : aw_G) {n : Nat} {I : Nat → Nat → Int32} (h : zINV I) (a1 : Int32) (a2 : Int32) : zStp G n mX10_far mX11_far [.int a1, .int a2] wInt I := by
  obtain ⟨b0, b1, l0, l1, t, u, x, y, V, g, kk, F, S, E, fd, hX, hc, hm⟩ := h
  exact zStp.chg hX hm ⟨_, rfl⟩ (fun L c => c_far G hX hc) (fun I2 L c h2 => m_far G hX h2)
theorem st_who (G : aw_G) {n : Nat} {I : Nat → Nat → Int32} (h : zINV I) (a1 : Int32) : zStp G n mX10_who mX11_who [.int a1] wInt I := by
  obtain ⟨b0, b1, l0, l1, t, u, x, y, V, g, kk, F, S, E, fd, hX, hc, hm⟩ := h
  exact zStp.chg hX hm ⟨_, rfl⟩ (fun L c => c_who G hX hc) (fun I2 L c h2 => m_who G hX h2)
theorem st_met (G : aw_G) {n : Nat} {I : Nat → Nat → Int32} (h : zINV I) (a1 : Int32) : zStp G n mX10_met mX11_met [.int a1] wInt I := by
  obtain ⟨b0, b1, l0, l1, t, u, x, y, V, g, kk, F, S, E, fd, hX, hc, hm⟩ := h
  exact zStp.chg hX hm ⟨_, rfl⟩ (fun L c => c_met G hX hc) (fun I2 L c h2 => m_met G hX h2)
theorem st_busiest (G : aw_G) {n : Nat} {I : Nat → Nat → Int32} (h : zINV I) : zStp G n mX10_busiest mX11_busiest [] wInt I := by
  obtain ⟨b0, b1, l0, l1, t, u, x, y, V, g, kk, F, S, E, fd, hX, hc, hm⟩ := h
  exact zStp.chg hX hm ⟨_, rfl⟩ (fun L c => c_busiest G hX hc) (fun I2 L c h2 => m_busiest G hX h2)
theorem st_needs (G : aw_G) {n : Nat} {I : Nat → Nat → Int32} (h : zINV I) (a1 : Int32) : zStp G n mX10_needs mX11_needs [.int a1] wInt I := by
  obtain ⟨b0, b1, l0, l1, t, u, x, y, V, g, kk, F, S, E, fd, hX, hc, hm⟩ := h
  exact zStp.chg hX hm ⟨_, rfl⟩ (fun L c => c_needs G hX hc) (fun I2 L c h2 => m_needs G hX h2)
theorem st_lend (G : aw_G) {n : Nat} {I : Nat → Nat → Int32} (h : zINV I) (a1 : Int32) : zStp G n mX10_lend mX11_lend [.int a1] wInt I := by
  obtain ⟨b0, b1, l0, l1, t, u, x, y, V, g, kk, F, S, E, fd, hX, hc, hm⟩ := h
  exact zStp.chg hX hm ⟨_, rfl⟩ (fun L c => c_lend G hX hc) (fun I2 L c h2 => m_lend G hX h2)
theorem st_delay (G : aw_G) {n : Nat} {I : Nat → Nat → Int32} (h : zINV I) (a1 : Int32) (a2 : Int32) : zStp G n mX10_delay mX11_delay [.int a1, .int a2] wInt I := by
  obtain ⟨b0, b1, l0, l1, t, u, x, y, V, g, kk, F, S, E, fd, hX, hc, hm⟩ := h
  exact zStp.chg hX hm ⟨_, rfl⟩ (fun L c => c_delay G hX hc) (fun I2 L c h2 => m_delay G hX h2)
theorem st_level (G : aw_G) {n : Nat} {I : Nat → Nat → Int32} (h : zINV I) (a1 : Int32) : zStp G n mX10_level mX11_level [.int a1] wInt I := by
  obtain ⟨b0, b1, l0, l1, t, u, x, y, V, g, kk, F, S, E, fd, hX, hc, hm⟩ := h
  exact zStp.chg hX hm ⟨_, rfl⟩ (fun L c => c_level G hX hc) (fun I2 L c h2 => m_level G hX h2)
theorem st_never (G : aw_G) {n : Nat} {I : Nat → Nat → Int32} (h : zINV I) : zStp G n mX10_never mX11_never [] wInt I := by
  obtain ⟨b0, b1, l0, l1, t, u, x, y, V, g, kk, F, S, E, fd, hX, hc, hm⟩ := h
  exact zStp.chg hX hm ⟨_, rfl⟩ (fun L c => c_never G hX hc) (fun I2 L c h2 => m_never G hX h2)
theorem st_sort (G : aw_G) {n : Nat} {I : Nat → Nat → Int32} (h : zINV I) (a1 : Int32) : zStp G n mX10_sort mX11_sort [.int a1] wInt I := by
  obtain ⟨b0, b1, l0, l1, t, u, x, y, V, g, kk, F, S, E, fd, hX, hc, hm⟩ := h
  exact zStp.chg hX hm ⟨_, rfl⟩ (fun L c => c_sort G hX hc) (fun I2 L c h2 => m_sort G hX h2)
theorem st_force (G : aw_G) {n : Nat} {I : Nat → Nat → Int32} (h : zINV I) (a1 : Int32) (a2 : Int32) : zStp G n mX10_force mX11_force [.int a1, .int a2] wInt I := by
  obtain ⟨b0, b1, l0, l1, t, u, x, y, V, g, kk, F, S, E, fd, hX, hc, hm⟩ := h
  exact zStp.chg hX hm ⟨_, rfl⟩ (fun L c => c_force G hX hc) (fun I2 L c h2 => m_force G hX h2)
theorem st_ask (G : aw_G) {n : Nat} {I : Nat → Nat → Int32} (h : zINV I) (a1 : Int32) : zStp G n mX10_ask mX11_ask [.int a1] wInt I := by
  obtain ⟨b0, b1, l0, l1, t, u, x, y, V, g, kk, F, S, E, fd, hX, hc, hm⟩ := h
  exact zStp.chg hX hm ⟨_, rfl⟩ (fun L c => c_ask G hX hc) (fun I2 L c h2 => m_ask G hX h2)
theorem st_rumour (G : aw_G) {n : Nat} {I : Nat → Nat → Int32} (h : zINV I) (a1 : Int32) (a2 : Int32) (a3 : Int32) : zStp G n mX10_rumour mX11_rumour [.int a1, .int a2, .int a3] wLong I := by
  obtain ⟨b0, b1, l0, l1, t, u, x, y, V, g, kk, F, S, E, fd, hX, hc, hm⟩ := h
  exact zStp.chg hX hm ⟨_, rfl⟩ (fun L c => c_rumour G hX hc) (fun I2 L c h2 => m_rumour G hX h2)
theorem st_market (G : aw_G) {n : Nat} {I : Nat → Nat → Int32} (h : zINV I) (a1 : Int32) (a2 : Int32) : zStp G n mX10_market mX11_market [.int a1, .int a2] wInt I := by
  obtain ⟨b0, b1, l0, l1, t, u, x, y, V, g, kk, F, S, E, fd, hX, hc, hm⟩ := h
  exact zStp.chg hX hm ⟨_, rfl⟩ (fun L c => c_market G hX hc) (fun I2 L c h2 => m_market G hX h2)
theorem st_count (G : aw_G) {n : Nat} {I : Nat → Nat → Int32} (h : zINV I) (a1 : Int32) : zStp G n mX10_count mX11_count [.int a1] wInt I := by
  obtain ⟨b0, b1, l0, l1, t, u, x, y, V, g, kk, F, S, E, fd, hX, hc, hm⟩ := h
  exact zStp.chg hX hm ⟨_, rfl⟩ (fun L c => c_count G hX hc) (fun I2 L c h2 => m_count G hX h2)
theorem st_digest (G : aw_G) {n : Nat} {I : Nat → Nat → Int32} (h : zINV I) : zStp G n mX10_digest mX11_digest [] wLong I := by
  obtain ⟨b0, b1, l0, l1, t, u, x, y, V, g, kk, F, S, E, fd, hX, hc, hm⟩ := h
  exact zStp.chg hX hm ⟨_, rfl⟩ (fun L c => c_digest G hX hc) (fun I2 L c h2 => m_digest G hX h2)
theorem st_type (G : aw_G) {n : Nat} {I : Nat → Nat → Int32} (h : zINV I) (a1 : Int32) (a2 : Int32) : zStp G n mX10_type mX11_type [.int a1, .int a2] wInt I := by
  obtain ⟨b0, b1, l0, l1, t, u, x, y, V, g, kk, F, S, E, fd, hX, hc, hm⟩ := h
  by_cases hz : zok a1 2 ∧ zok a2 256
  · obtain ⟨p1, hp1, rfl⟩ := zok_ex hz.1
    have h' : p1 = 0 ∨ p1 = 1 := by omega
    obtain ⟨p2, hp2, rfl⟩ := zok_ex hz.2
    have e0 := hc.1.1.2.2.2.2
    have e1 := hc.2.1.1.2.2.2.2
    rcases h' with rfl | rfl
    · by_cases hl : l0 = 49
      · exact zStp.chg hX hm ⟨_, rfl⟩ (fun L c => c_type0F G hX hc hp2 hl) (fun I2 L c h2 => m_type0F G hX h2 hp2 hl)
      · exact zStp.txW hX.2.2.1 hm ⟨_, rfl⟩ (fun L c => c_type0 G hX hc hp2 (by omega)) (fun I2 L c h2 => m_type0 G hX h2 hp2 (by omega))
    · by_cases hl : l1 = 55
      · exact zStp.chg hX hm ⟨_, rfl⟩ (fun L c => c_type1F G hX hc hp2 hl) (fun I2 L c h2 => m_type1F G hX h2 hp2 hl)
      · exact zStp.txC hm ⟨_, rfl⟩ (fun L c => c_type1 G hX hc hp2 (by omega)) (fun I2 L c h2 => m_type1 G hX h2 hp2 (by omega))
  · exact zStp.chg hX hm ⟨_, rfl⟩ (fun L c => c_typeB G hX hc hz) (fun I2 L c h2 => m_typeB G hX h2 hz)
theorem st_wipe (G : aw_G) {n : Nat} {I : Nat → Nat → Int32} (h : zINV I) (a1 : Int32) : zStp G n mX10_wipe mX11_wipe [.int a1] wInt I := by
  obtain ⟨b0, b1, l0, l1, t, u, x, y, V, g, kk, F, S, E, fd, hX, hc, hm⟩ := h
  by_cases hz : zok a1 2
  · obtain ⟨p1, hp1, rfl⟩ := zok_ex hz
    have h' : p1 = 0 ∨ p1 = 1 := by omega
    rcases h' with rfl | rfl
    · exact zStp.txW hX.2.2.1 hm ⟨_, rfl⟩ (fun L c => c_wipe0 G hX hc) (fun I2 L c h2 => m_wipe0 G hX h2)
    · exact zStp.txC hm ⟨_, rfl⟩ (fun L c => c_wipe1 G hX hc) (fun I2 L c h2 => m_wipe1 G hX h2)
  · exact zStp.chg hX hm ⟨_, rfl⟩ (fun L c => c_wipeB G hX hc hz) (fun I2 L c h2 => m_wipeB G hX h2 hz)
theorem st_undo (G : aw_G) {n : Nat} {I : Nat → Nat → Int32} (h : zINV I) (a1 : Int32) : zStp G n mX10_undo mX11_undo [.int a1] wInt I := by
  obtain ⟨b0, b1, l0, l1, t, u, x, y, V, g, kk, F, S, E, fd, hX, hc, hm⟩ := h
  by_cases hz : zok a1 2
  · obtain ⟨p1, hp1, rfl⟩ := zok_ex hz
    have h' : p1 = 0 ∨ p1 = 1 := by omega
    rcases h' with rfl | rfl
    · by_cases hl : l0 = 0
      · exact zStp.chg hX hm ⟨_, rfl⟩ (fun L c => c_undo0N G hX hc hl) (fun I2 L c h2 => m_undo0N G hX h2 hl)
      · exact zStp.txW hX.2.2.1 hm ⟨_, rfl⟩ (fun L c => c_undo0 G hX hc hl) (fun I2 L c h2 => m_undo0 G hX h2 hl)
    · by_cases hl : l1 = 0
      · exact zStp.chg hX hm ⟨_, rfl⟩ (fun L c => c_undo1N G hX hc hl) (fun I2 L c h2 => m_undo1N G hX h2 hl)
      · exact zStp.txC hm ⟨_, rfl⟩ (fun L c => c_undo1 G hX hc hl) (fun I2 L c h2 => m_undo1 G hX h2 hl)
  · exact zStp.chg hX hm ⟨_, rfl⟩ (fun L c => c_undoB G hX hc hz) (fun I2 L c h2 => m_undoB G hX h2 hz)
theorem st_late (G : aw_G) {n : Nat} {I : Nat → Nat → Int32} (h : zINV I) (a1 : Int32) (a2 : Int32) : zStp G n mX10_late mX11_late [.int a1, .int a2] wInt I := by
  obtain ⟨b0, b1, l0, l1, t, u, x, y, V, g, kk, F, S, E, fd, hX, hc, hm⟩ := h
  by_cases hz : zok a1 8 ∧ zok a2 10
  · obtain ⟨p1, hp1, rfl⟩ := zok_ex hz.1
    obtain ⟨p2, hp2, rfl⟩ := zok_ex hz.2
    exact zStp.chgT hm ⟨_, rfl⟩ (fun L c => c_late G hX hc hp1 hp2) (fun I2 L c h2 => m_late G hX h2 hp1 hp2)
  · exact zStp.chg hX hm ⟨_, rfl⟩ (fun L c => c_lateB G hX hc hz) (fun I2 L c h2 => m_lateB G hX h2 hz)
theorem st_answer (G : aw_G) {n : Nat} {I : Nat → Nat → Int32} (h : zINV I) (a1 : Int32) (a2 : Int32) : zStp G n mX10_answer mX11_answer [.int a1, .int a2] wInt I := by
  obtain ⟨b0, b1, l0, l1, t, u, x, y, V, g, kk, F, S, E, fd, hX, hc, hm⟩ := h
  by_cases hz : zok a1 40 ∧ zok a2 8
  · obtain ⟨p1, hp1, rfl⟩ := zok_ex hz.1
    obtain ⟨p2, hp2, rfl⟩ := zok_ex hz.2
    have hu8 := hX.1.2.2.1.1
    by_cases hn : u 2 0 = 8
    · exact zStp.chg hX hm ⟨_, rfl⟩ (fun L c => c_answerF G hX hc hp1 hp2 hn) (fun I2 L c h2 => m_answerF G hX h2 hp1 hp2 hn)
    · exact zStp.chgT hm ⟨_, rfl⟩ (fun L c => c_answer G hX hc hp1 hp2 (by omega)) (fun I2 L c h2 => m_answer G hX h2 hp1 hp2 (by omega))
  · exact zStp.chg hX hm ⟨_, rfl⟩ (fun L c => c_answerB G hX hc hz) (fun I2 L c h2 => m_answerB G hX h2 hz)
theorem st_back (G : aw_G) {n : Nat} {I : Nat → Nat → Int32} (h : zINV I) : zStp G n mX10_back mX11_back [] wInt I := by
  obtain ⟨b0, b1, l0, l1, t, u, x, y, V, g, kk, F, S, E, fd, hX, hc, hm⟩ := h
  by_cases hn : u 2 0 = 0
  · exact zStp.chg hX hm ⟨_, rfl⟩ (fun L c => c_backN G hX hc hn) (fun I2 L c h2 => m_backN G hX h2 hn)
  · exact zStp.chgT hm ⟨_, rfl⟩ (fun L c => c_back G hX hc hn) (fun I2 L c h2 => m_back G hX h2 hn)
theorem st_seen (G : aw_G) {n : Nat} {I : Nat → Nat → Int32} (h : zINV I) (a1 : Int32) (a2 : Int32) (a3 : Int32) : zStp G n mX10_seen mX11_seen [.int a1, .int a2, .int a3] wInt I := by
  obtain ⟨b0, b1, l0, l1, t, u, x, y, V, g, kk, F, S, E, fd, hX, hc, hm⟩ := h
  by_cases hz : zok a1 40 ∧ zok a2 8 ∧ zok a3 9
  · obtain ⟨p1, hp1, rfl⟩ := zok_ex hz.1
    obtain ⟨p2, hp2, rfl⟩ := zok_ex hz.2.1
    obtain ⟨p3, hp3, rfl⟩ := zok_ex hz.2.2
    have hg8 := hc.2.2.2.2.2.1.2.1
    by_cases hn : g 3 0 = 8
    · exact zStp.chg hX hm ⟨_, rfl⟩ (fun L c => c_seenF G hX hc hp1 hp2 hp3 hn) (fun I2 L c h2 => m_seenF G hX h2 hp1 hp2 hp3 hn)
    · exact zStp.chg hX hm ⟨_, rfl⟩ (fun L c => c_seen G hX hc hp1 hp2 hp3 (by omega)) (fun I2 L c h2 => m_seen G hX h2 hp1 hp2 hp3 (by omega))
  · exact zStp.chg hX hm ⟨_, rfl⟩ (fun L c => c_seenB G hX hc hz) (fun I2 L c h2 => m_seenB G hX h2 hz)
theorem st_forget (G : aw_G) {n : Nat} {I : Nat → Nat → Int32} (h : zINV I) : zStp G n mX10_forget mX11_forget [] wInt I := by
  obtain ⟨b0, b1, l0, l1, t, u, x, y, V, g, kk, F, S, E, fd, hX, hc, hm⟩ := h
  exact zStp.chg hX hm ⟨_, rfl⟩ (fun L c => c_forget G hX hc) (fun I2 L c h2 => m_forget G hX h2)
theorem st_sheet (G : aw_G) {n : Nat} {I : Nat → Nat → Int32} (h : zINV I) (a1 : Int32) (a2 : Int32) (a3 : Int32) : zStp G n mX10_sheet mX11_sheet [.int a1, .int a2, .int a3] wInt I := by
  obtain ⟨b0, b1, l0, l1, t, u, x, y, V, g, kk, F, S, E, fd, hX, hc, hm⟩ := h
  have hb : ∀ s, s < 4 → F s ≤ 3 ∧ S s ≤ 60 := fun s hs => ⟨(hc.2.2.2.2.2.2.1 s hs).1, (hc.2.2.2.2.2.2.1 s hs).2.1⟩
  by_cases hz : zok a1 4 ∧ zok a2 3 ∧ a3 ≤ 60
  · obtain ⟨p1, hp1, rfl⟩ := zok_ex hz.1
    obtain ⟨p2, hp2, rfl⟩ := zok_ex hz.2.1
    by_cases hn : 0 ≤ a3
    · obtain ⟨p3, hp3, rfl⟩ := zok_ex (x := a3) (b := 61) ⟨zle0.mp hn, by have h9 := (zlen (s := 60) (by decide)).mp hz.2.2; omega⟩
      exact zStp.chg hX hm ⟨_, rfl⟩ (fun L c => c_sheet G hX hc hp1 hp2 (by omega)) (fun I2 L c h2 => m_sheet G hX h2 hb hp1 hp2 (by omega))
    · exact zStp.chg hX hm ⟨_, rfl⟩ (fun L c => c_sheetN G hX hc hp1 hp2 hz.2.2 hn) (fun I2 L c h2 => m_sheetN G hX h2 hb hp1 hp2 hz.2.2 hn)
  · exact zStp.chg hX hm ⟨_, rfl⟩ (fun L c => c_sheetB G hX hc hz) (fun I2 L c h2 => m_sheetB G hX h2 hz)
theorem st_lose (G : aw_G) {n : Nat} {I : Nat → Nat → Int32} (h : zINV I) (a1 : Int32) : zStp G n mX10_lose mX11_lose [.int a1] wInt I := by
  obtain ⟨b0, b1, l0, l1, t, u, x, y, V, g, kk, F, S, E, fd, hX, hc, hm⟩ := h
  have hb : ∀ s, s < 4 → F s ≤ 3 ∧ S s ≤ 60 := fun s hs => ⟨(hc.2.2.2.2.2.2.1 s hs).1, (hc.2.2.2.2.2.2.1 s hs).2.1⟩
  by_cases hz : zok a1 4
  · obtain ⟨p1, hp1, rfl⟩ := zok_ex hz
    by_cases h0 : F p1 = 0
    · exact zStp.chg hX hm ⟨_, rfl⟩ (fun L c => c_loseN G hX hc hp1 h0) (fun I2 L c h2 => m_loseN G hX h2 hb hp1 h0)
    · exact zStp.chg hX hm ⟨_, rfl⟩ (fun L c => c_lose G hX hc hp1 h0) (fun I2 L c h2 => m_lose G hX h2 hb hp1 h0)
  · exact zStp.chg hX hm ⟨_, rfl⟩ (fun L c => c_loseB G hX hc hz) (fun I2 L c h2 => m_loseB G hX h2 hz)
theorem st_lay (G : aw_G) {n : Nat} {I : Nat → Nat → Int32} (h : zINV I) (a1 : Int32) (a2 : Int32) (a3 : Int32) (a4 : Int32) : zStp G n mX10_lay mX11_lay [.int a1, .int a2, .int a3, .int a4] wInt I := by
  obtain ⟨b0, b1, l0, l1, t, u, x, y, V, g, kk, F, S, E, fd, hX, hc, hm⟩ := h
  have hb : ∀ s, s < 4 → F s ≤ 3 ∧ S s ≤ 60 := fun s hs => ⟨(hc.2.2.2.2.2.2.1 s hs).1, (hc.2.2.2.2.2.2.1 s hs).2.1⟩
  by_cases hz : zok a1 4 ∧ zok a2 3
  · obtain ⟨p1, hp1, rfl⟩ := zok_ex hz.1
    obtain ⟨p2, hp2, rfl⟩ := zok_ex hz.2
    by_cases hk : r_rk F S p1 p2 a3 = 0
    · obtain ⟨hf, i, hi, rfl⟩ := r_rk_ok hk
      exact zStp.chg hX hm ⟨_, rfl⟩ (fun L c => c_lay G hX hc hp1 hp2 hk hi hf) (fun I2 L c h2 => m_lay G hX h2 hb hp1 hp2 hk hi hf)
    · exact zStp.chg hX hm ⟨_, rfl⟩ (fun L c => c_layR G hX hc hp1 hp2 hk) (fun I2 L c h2 => m_layR G hX h2 hb hp1 hp2 hk)
  · exact zStp.chg hX hm ⟨_, rfl⟩ (fun L c => c_layB G hX hc hz) (fun I2 L c h2 => m_layB G hX h2 hz)
theorem st_get (G : aw_G) {n : Nat} {I : Nat → Nat → Int32} (h : zINV I) (a1 : Int32) (a2 : Int32) (a3 : Int32) : zStp G n mX10_get mX11_get [.int a1, .int a2, .int a3] wInt I := by
  obtain ⟨b0, b1, l0, l1, t, u, x, y, V, g, kk, F, S, E, fd, hX, hc, hm⟩ := h
  have hb : ∀ s, s < 4 → F s ≤ 3 ∧ S s ≤ 60 := fun s hs => ⟨(hc.2.2.2.2.2.2.1 s hs).1, (hc.2.2.2.2.2.2.1 s hs).2.1⟩
  by_cases hz : zok a1 4 ∧ zok a2 3
  · obtain ⟨p1, hp1, rfl⟩ := zok_ex hz.1
    obtain ⟨p2, hp2, rfl⟩ := zok_ex hz.2
    by_cases hk : r_rk F S p1 p2 a3 = 0
    · obtain ⟨hf, i, hi, rfl⟩ := r_rk_ok hk
      exact zStp.chg hX hm ⟨_, rfl⟩ (fun L c => c_get G hX hc hp1 hp2 hk hi hf) (fun I2 L c h2 => m_get G hX h2 hb hp1 hp2 hk hi hf)
    · exact zStp.chg hX hm ⟨_, rfl⟩ (fun L c => c_getR G hX hc hp1 hp2 hk) (fun I2 L c h2 => m_getR G hX h2 hb hp1 hp2 hk)
  · exact zStp.chg hX hm ⟨_, rfl⟩ (fun L c => c_getB G hX hc hz) (fun I2 L c h2 => m_getB G hX h2 hz)
theorem st_copy (G : aw_G) {n : Nat} {I : Nat → Nat → Int32} (h : zINV I) (a1 : Int32) (a2 : Int32) (a3 : Int32) (a4 : Int32) (a5 : Int32) : zStp G n mX10_copy mX11_copy [.int a1, .int a2, .int a3, .int a4, .int a5] wInt I := by
  obtain ⟨b0, b1, l0, l1, t, u, x, y, V, g, kk, F, S, E, fd, hX, hc, hm⟩ := h
  have hb : ∀ s, s < 4 → F s ≤ 3 ∧ S s ≤ 60 := fun s hs => ⟨(hc.2.2.2.2.2.2.1 s hs).1, (hc.2.2.2.2.2.2.1 s hs).2.1⟩
  by_cases hz : zok a1 4 ∧ zok a3 4
  · obtain ⟨p1, hp1, rfl⟩ := zok_ex hz.1
    obtain ⟨p3, hp3, rfl⟩ := zok_ex hz.2
    by_cases h0 : F p1 = 0 ∨ F p3 = 0
    · exact zStp.chg hX hm ⟨_, rfl⟩ (fun L c => c_copyL G hX hc hp1 hp3 h0) (fun I2 L c h2 => m_copyL G hX h2 hb hp1 hp3 h0)
    · have hF1 : F p1 ≠ 0 := fun z => h0 (Or.inl z)
      have hF3 : F p3 ≠ 0 := fun z => h0 (Or.inr z)
      by_cases hn : F p1 = F p3
      · by_cases hy : (0 ≤ a2.toInt ∧ 0 ≤ a5.toInt ∧ a5.toInt ≤ (S p1 : Int) ∧ a2.toInt + a5.toInt ≤ (S p1 : Int)) ∧ (0 ≤ a4.toInt ∧ 0 ≤ a5.toInt ∧ a5.toInt ≤ (S p3 : Int) ∧ a4.toInt + a5.toInt ≤ (S p3 : Int))
        · have s1 := (hb p1 hp1).2
          have s3 := (hb p3 hp3).2
          obtain ⟨i, hi, rfl⟩ := zok_ex (x := a2) (b := 61) ⟨hy.1.1, by have := hy.1.2.2.2; have := hy.1.2.1; omega⟩
          obtain ⟨j, hj, rfl⟩ := zok_ex (x := a4) (b := 61) ⟨hy.2.1, by have := hy.2.2.2.2; have := hy.2.2.1; omega⟩
          obtain ⟨q, hq, rfl⟩ := zok_ex (x := a5) (b := 61) ⟨hy.1.2.1, by have := hy.1.2.2.1; omega⟩
          have e1 := hy.1.2.2.2
          have e2 := hy.2.2.2.2
          rw [nI_toInt (by omega), nI_toInt (by omega)] at e1 e2
          exact zStp.chg hX hm ⟨_, rfl⟩ (fun L c => c_copy G hX hc (i := i) (j := j) (r := q) hp1 hp3 hF1 hF3 hn (by omega) (by omega)) (fun I2 L c h2 => m_copy G hX h2 hb (i := i) (j := j) (r := q) hp1 hp3 hF1 hF3 hn (by omega) (by omega))
        · exact zStp.chg hX hm ⟨_, rfl⟩ (fun L c => c_copyX G hX hc hp1 hp3 hF1 hF3 hn hy) (fun I2 L c h2 => m_copyX G hX h2 hb hp1 hp3 hF1 hF3 hn hy)
      · exact zStp.chg hX hm ⟨_, rfl⟩ (fun L c => c_copyT G hX hc hp1 hp3 hF1 hF3 hn) (fun I2 L c h2 => m_copyT G hX h2 hb hp1 hp3 hF1 hF3 hn)
  · exact zStp.chg hX hm ⟨_, rfl⟩ (fun L c => c_copyB G hX hc hz) (fun I2 L c h2 => m_copyB G hX h2 hz)
theorem st_write (G : aw_G) {n : Nat} {I : Nat → Nat → Int32} (h : zINV I) (a1 : Int32) (a2 : Int32) : zStp G n mX10_write mX11_write [.int a1, .int a2] wInt I := by
  obtain ⟨b0, b1, l0, l1, t, u, x, y, V, g, kk, F, S, E, fd, hX, hc, hm⟩ := h
  have hb : ∀ s, s < 4 → F s ≤ 3 ∧ S s ≤ 60 := fun s hs => ⟨(hc.2.2.2.2.2.2.1 s hs).1, (hc.2.2.2.2.2.2.1 s hs).2.1⟩
  by_cases hz : zok a1 (t 6 0) ∧ zok a2 4
  · obtain ⟨p1, hp1, rfl⟩ := zok_ex hz.1
    obtain ⟨p2, hp2, rfl⟩ := zok_ex hz.2
    by_cases h0 : F p2 = 0
    · exact zStp.chg hX hm ⟨_, rfl⟩ (fun L c => c_writeL G hX hc hp1 hp2 h0) (fun I2 L c h2 => m_writeL G hX h2 hb hp1 hp2 h0)
    · exact zStp.chg hX hm ⟨_, rfl⟩ (fun L c => c_write G hX hc hp1 hp2 h0) (fun I2 L c h2 => m_write G hX h2 hb hp1 hp2 h0)
  · exact zStp.chg hX hm ⟨_, rfl⟩ (fun L c => c_writeB G hX hc hz) (fun I2 L c h2 => m_writeB G hX h2 hz)
theorem st_read (G : aw_G) {n : Nat} {I : Nat → Nat → Int32} (h : zINV I) (a1 : Int32) : zStp G n mX10_read mX11_read [.int a1] wInt I := by
  obtain ⟨b0, b1, l0, l1, t, u, x, y, V, g, kk, F, S, E, fd, hX, hc, hm⟩ := h
  have hb : ∀ s, s < 4 → F s ≤ 3 ∧ S s ≤ 60 := fun s hs => ⟨(hc.2.2.2.2.2.2.1 s hs).1, (hc.2.2.2.2.2.2.1 s hs).2.1⟩
  by_cases hz : zok a1 4
  · obtain ⟨p1, hp1, rfl⟩ := zok_ex hz
    by_cases h0 : F p1 = 0
    · exact zStp.chg hX hm ⟨_, rfl⟩ (fun L c => c_readL G hX hc hp1 h0) (fun I2 L c h2 => m_readL G hX h2 hb hp1 h0)
    · exact zStp.chgT hm ⟨_, rfl⟩ (fun L c => c_read G hX hc hp1 h0) (fun I2 L c h2 => m_read G hX h2 hb hp1 h0)
  · exact zStp.chg hX hm ⟨_, rfl⟩ (fun L c => c_readB G hX hc hz) (fun I2 L c h2 => m_readB G hX h2 hz)
