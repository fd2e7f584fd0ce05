section AWLN
variable {G : aw_G} {M : aw_MR} {pc : Nat} {ls st : List Value} {h : aw_H} {q : Nat × Nat} {Q : Option Value → aw_H → Prop}
theorem aw_ladd_n {a b : Nat} (hd : decode (aw_c M) pc = .ok (.ladd, 1)) (k : aw_W G M (pc + 1) ls (.long (lN (a + b)) :: st) h q Q) : aw_W G M pc ls (.long (lN b) :: .long (lN a) :: st) h q Q :=
  aw_ladd hd (aw_topl (lN_add a b) k)
theorem aw_lmul_n {a b : Nat} (hd : decode (aw_c M) pc = .ok (.lmul, 1)) (k : aw_W G M (pc + 1) ls (.long (lN (a * b)) :: st) h q Q) : aw_W G M pc ls (.long (lN b) :: .long (lN a) :: st) h q Q :=
  aw_lmul hd (aw_topl (lN_mul a b) k)
theorem aw_ldiv_n {a b : Nat} (hd : decode (aw_c M) pc = .ok (.ldiv, 1)) (ha : a < 9223372036854775808) (h0 : 0 < b) (hb : b < 9223372036854775808) (k : aw_W G M (pc + 1) ls (.long (lN (a / b)) :: st) h q Q) : aw_W G M pc ls (.long (lN b) :: .long (lN a) :: st) h q Q :=
  aw_ldiv hd (fun z => by have := (pk_lEQ (a := b) (b := 0) (by omega) (by omega)).mp z; omega) (aw_topl (pk_lDiv (by omega) h0 (by omega)) k)
theorem aw_lrem_n {a b : Nat} (hd : decode (aw_c M) pc = .ok (.lrem, 1)) (ha : a < 9223372036854775808) (h0 : 0 < b) (hb : b < 9223372036854775808) (k : aw_W G M (pc + 1) ls (.long (lN (a % b)) :: st) h q Q) : aw_W G M pc ls (.long (lN b) :: .long (lN a) :: st) h q Q :=
  aw_lrem hd (fun z => by have := (pk_lEQ (a := b) (b := 0) (by omega) (by omega)).mp z; omega) (aw_topl (pk_lRem (by omega) h0 (by omega)) k)
theorem aw_i2l_n {a : Nat} (hd : decode (aw_c M) pc = .ok (.i2l, 1)) (ha : a < 2147483648) (k : aw_W G M (pc + 1) ls (.long (lN a) :: st) h q Q) : aw_W G M pc ls (.int (nI a) :: st) h q Q := aw_i2l hd (aw_topl (nI_l (by omega)) k)
theorem aw_if_eq_L {a b : Nat} {off : Int} {tgt : Nat} (hd : decode (aw_c M) pc = .ok (.ifCond .eq off, 3)) (ht : (pc : Int) + off = (tgt : Int)) (ha : a < 9223372036854775808) (hb : b < 9223372036854775808) (kt : a = b → aw_W G M tgt ls st h q Q) (kf : ¬ a = b → aw_W G M (pc + 3) ls st h q Q) : aw_W G M pc ls (.int (lg_cmp (lN a) (lN b)) :: st) h q Q :=
  aw_if_eq hd ht (fun z => kt (((lg_cmp_eq (lN a) (lN b)).trans (pk_lEQ (show a < 2 ^ 63 by omega) (show b < 2 ^ 63 by omega))).mp z)) (fun z => kf (fun y => z (((lg_cmp_eq (lN a) (lN b)).trans (pk_lEQ (show a < 2 ^ 63 by omega) (show b < 2 ^ 63 by omega))).mpr y)))
theorem aw_if_ne_L {a b : Nat} {off : Int} {tgt : Nat} (hd : decode (aw_c M) pc = .ok (.ifCond .ne off, 3)) (ht : (pc : Int) + off = (tgt : Int)) (ha : a < 9223372036854775808) (hb : b < 9223372036854775808) (kt : ¬ a = b → aw_W G M tgt ls st h q Q) (kf : a = b → aw_W G M (pc + 3) ls st h q Q) : aw_W G M pc ls (.int (lg_cmp (lN a) (lN b)) :: st) h q Q :=
  aw_if_ne hd ht (fun z => kt (fun y => z (((lg_cmp_eq (lN a) (lN b)).trans (pk_lEQ (show a < 2 ^ 63 by omega) (show b < 2 ^ 63 by omega))).mpr y))) (fun z => kf (((lg_cmp_eq (lN a) (lN b)).trans (pk_lEQ (show a < 2 ^ 63 by omega) (show b < 2 ^ 63 by omega))).mp z))
theorem aw_if_lt_L {a b : Nat} {off : Int} {tgt : Nat} (hd : decode (aw_c M) pc = .ok (.ifCond .lt off, 3)) (ht : (pc : Int) + off = (tgt : Int)) (ha : a < 9223372036854775808) (hb : b < 9223372036854775808) (kt : a < b → aw_W G M tgt ls st h q Q) (kf : b ≤ a → aw_W G M (pc + 3) ls st h q Q) : aw_W G M pc ls (.int (lg_cmp (lN a) (lN b)) :: st) h q Q :=
  aw_if_lt hd ht (fun z => kt (((lg_cmp_lt (lN a) (lN b)).trans (pk_lLT (show a < 2 ^ 63 by omega) (show b < 2 ^ 63 by omega))).mp z)) (fun z => kf (by have : ¬ (a < b) := fun y => z (((lg_cmp_lt (lN a) (lN b)).trans (pk_lLT (show a < 2 ^ 63 by omega) (show b < 2 ^ 63 by omega))).mpr y); omega))
theorem aw_if_ge_L {a b : Nat} {off : Int} {tgt : Nat} (hd : decode (aw_c M) pc = .ok (.ifCond .ge off, 3)) (ht : (pc : Int) + off = (tgt : Int)) (ha : a < 9223372036854775808) (hb : b < 9223372036854775808) (kt : b ≤ a → aw_W G M tgt ls st h q Q) (kf : a < b → aw_W G M (pc + 3) ls st h q Q) : aw_W G M pc ls (.int (lg_cmp (lN a) (lN b)) :: st) h q Q :=
  aw_if_ge hd ht (fun z => kt (((lg_cmp_ge (lN a) (lN b)).trans (pk_lLE (show b < 2 ^ 63 by omega) (show a < 2 ^ 63 by omega))).mp z)) (fun z => kf (by have : ¬ (b ≤ a) := fun y => z (((lg_cmp_ge (lN a) (lN b)).trans (pk_lLE (show b < 2 ^ 63 by omega) (show a < 2 ^ 63 by omega))).mpr y); omega))
theorem aw_if_gt_L {a b : Nat} {off : Int} {tgt : Nat} (hd : decode (aw_c M) pc = .ok (.ifCond .gt off, 3)) (ht : (pc : Int) + off = (tgt : Int)) (ha : a < 9223372036854775808) (hb : b < 9223372036854775808) (kt : b < a → aw_W G M tgt ls st h q Q) (kf : a ≤ b → aw_W G M (pc + 3) ls st h q Q) : aw_W G M pc ls (.int (lg_cmp (lN a) (lN b)) :: st) h q Q :=
  aw_if_gt hd ht (fun z => kt (((lg_cmp_gt (lN a) (lN b)).trans (pk_lLT (show b < 2 ^ 63 by omega) (show a < 2 ^ 63 by omega))).mp z)) (fun z => kf (by have : ¬ (b < a) := fun y => z (((lg_cmp_gt (lN a) (lN b)).trans (pk_lLT (show b < 2 ^ 63 by omega) (show a < 2 ^ 63 by omega))).mpr y); omega))
theorem aw_if_le_L {a b : Nat} {off : Int} {tgt : Nat} (hd : decode (aw_c M) pc = .ok (.ifCond .le off, 3)) (ht : (pc : Int) + off = (tgt : Int)) (ha : a < 9223372036854775808) (hb : b < 9223372036854775808) (kt : a ≤ b → aw_W G M tgt ls st h q Q) (kf : b < a → aw_W G M (pc + 3) ls st h q Q) : aw_W G M pc ls (.int (lg_cmp (lN a) (lN b)) :: st) h q Q :=
  aw_if_le hd ht (fun z => kt (((lg_cmp_le (lN a) (lN b)).trans (pk_lLE (show a < 2 ^ 63 by omega) (show b < 2 ^ 63 by omega))).mp z)) (fun z => kf (by have : ¬ (a ≤ b) := fun y => z (((lg_cmp_le (lN a) (lN b)).trans (pk_lLE (show a < 2 ^ 63 by omega) (show b < 2 ^ 63 by omega))).mpr y); omega))
end AWLN
/-- the sort that stands at a place of the rows of those that fit -/
def z_sel (f : Nat → Bool) (j : Nat) : Nat := if f 0 = true ∧ zc f 0 = j then 0 else if f 1 = true ∧ zc f 1 = j then 1 else 2
def z_mx (g : Nat → Nat) : Nat → Nat
  | 0 => 0
  | i + 1 => if z_mx g i < g i then g i else z_mx g i
theorem z_sel_ok {f : Nat → Bool} {j : Nat} (hj : j < zc f 3) : z_sel f j < 3 ∧ f (z_sel f j) = true ∧ zc f (z_sel f j) = j := by
  unfold z_sel
  cases h0 : f 0 <;> cases h1 : f 1 <;> cases h2 : f 2 <;> simp [zc, h0, h1, h2] at hj ⊢
  all_goals (first | omega | (subst hj; simp [zc, h0, h1, h2]) | skip)
  all_goals (have h' : j = 0 ∨ j = 1 ∨ j = 2 := by omega)
  all_goals (rcases h' with rfl | rfl | rfl <;> simp [zc, h0, h1, h2] at hj ⊢)
theorem z_alike {f : Nat → Bool} {E : Nat → Nat → Bool} (hr : ∀ i, E i i = true) (hs : ∀ i j, E i j = E j i) :
    z_mx (fun a => zc (fun b => E (z_sel f a) (z_sel f b)) (zc f 3)) (zc f 3) = z_mx (fun a => zc (fun b => (f a && f b) && E a b) 3) 3 := by
  have s10 := hs 1 0
  have s20 := hs 2 0
  have s21 := hs 2 1
  cases h0 : f 0 <;> cases h1 : f 1 <;> cases h2 : f 2 <;> cases a : E 0 1 <;> cases b : E 0 2 <;> cases c : E 1 2 <;> simp [zc, z_mx, z_sel, h0, h1, h2, a, b, c, hr, s10, s20, s21]
theorem z_mx_le {g : Nat → Nat} {n B : Nat} (h : ∀ i, i < n → g i ≤ B) : z_mx g n ≤ B := by
  induction n with
  | zero => exact Nat.zero_le _
  | succ n ih => rw [z_mx]; have := ih (fun i hi => h i (by omega)); have := h n (by omega); split <;> omega
/-- the hour with fewest, and how many -/
def z_mp (A : Nat → Nat) : Nat → Nat × Nat
  | 0 => (0, 4)
  | i + 1 => if A i < (z_mp A i).2 then (i, A i) else z_mp A i
theorem z_mp_le {A : Nat → Nat} {i : Nat} : (z_mp A i).2 ≤ 4 ∧ (z_mp A i).1 ≤ i := by
  induction i with
  | zero => exact ⟨Nat.le_refl _, Nat.le_refl _⟩
  | succ i ih => rw [z_mp]; split
                 · exact ⟨by show A i ≤ 4; omega, by show i ≤ i + 1; omega⟩
                 · exact ⟨ih.1, by omega⟩
/-- how the sorts that fit are told apart behind an hour -/
def z_al (f : Nat → Bool) (p e : Nat → Nat) (h : Nat) : Nat := z_mx (fun a => zc (fun b => z_sb (e (z_sel f a)) (p (z_sel f a)) h == z_sb (e (z_sel f b)) (p (z_sel f b)) h) (zc f 3)) (zc f 3)
theorem z_al_le {f : Nat → Bool} {p e : Nat → Nat} {h : Nat} : z_al f p e h ≤ 3 := by
  refine z_mx_le (fun i hi => ?_)
  exact Nat.le_trans zc_le0 zc_le0
theorem w_pof (G : aw_G) {n c : Nat} {I : Nat → Nat → Int32} {L : Nat → Nat → Int64} {i h p e : Nat} (hi : i < 3) (hp : I 68 i = nI p) (he : I 69 i = nI e - 1) (hh : h < 100000) (hp8 : p < 8) (he8 : e < 100000) : aw_Met G mX3_placeOfFitting [.ref 64, .int (nI i), .int (nI h)] (zH n I L c) (fun v h2 => v = some (.int (nI (z_sb e p h) - 1)) ∧ h2 = zH n I L c) := by
  refine aw_Met.of okX3_placeOfFitting (Nat.le_of_ble_eq_true rfl) ?_
  show aw_W G mX3_placeOfFitting 0 [.ref 64, .int (nI i), .int (nI h)] [] (zH n I L c) (0, 0) _
  refine aw_aload_n dX3_placeOfFitting_0 rfl ?_
  refine aw_getR dX3_placeOfFitting_1 f3_24 rfl ⟨Nat.le_of_ble_eq_true rfl, Nat.le_of_ble_eq_true rfl⟩ rfl rfl ?_
  refine aw_iload_n dX3_placeOfFitting_4 rfl ?_
  refine aw_iald_n (j := i) dX3_placeOfFitting_5 rfl (Nat.le_of_ble_eq_true rfl) (by decide) (by omega) ?_
  refine aw_top he ?_
  refine aw_iconst (v := -1) dX3_placeOfFitting_6 rfl ?_
  refine aw_ic_eq_p (a := e) (b := 0) (tgt := 29) dX3_placeOfFitting_7 (by decide) (by omega) (by omega) (fun c7 => ?_) (fun c7 => ?_)
  · refine aw_iconst (v := -1) dX3_placeOfFitting_29 rfl ?_
    refine aw_reti dX3_placeOfFitting_30 rfl rfl ⟨Nat.le_of_ble_eq_true rfl, Nat.le_of_ble_eq_true rfl⟩ ?_
    refine ⟨?_, rfl⟩
    unfold z_sb
    first
    | (rw [if_pos (by omega), nI_pred])
    | (rw [if_neg (by omega)]; rfl)
  · refine aw_aload_n dX3_placeOfFitting_10 rfl ?_
    refine aw_getR dX3_placeOfFitting_11 f3_24 rfl ⟨Nat.le_of_ble_eq_true rfl, Nat.le_of_ble_eq_true rfl⟩ rfl rfl ?_
    refine aw_iload_n dX3_placeOfFitting_14 rfl ?_
    refine aw_iald_n (j := i) dX3_placeOfFitting_15 rfl (Nat.le_of_ble_eq_true rfl) (by decide) (by omega) ?_
    refine aw_top he ?_
    refine aw_iload_n dX3_placeOfFitting_16 rfl ?_
    refine aw_top (show _ = nI (h + 1) - 1 from (nI_pred h).symm) ?_
    refine aw_ic_gt_p (a := e) (b := h + 1) (tgt := 29) dX3_placeOfFitting_17 (by decide) (by omega) (by omega) (fun c17 => ?_) (fun c17 => ?_)
    · refine aw_iconst (v := -1) dX3_placeOfFitting_29 rfl ?_
      refine aw_reti dX3_placeOfFitting_30 rfl rfl ⟨Nat.le_of_ble_eq_true rfl, Nat.le_of_ble_eq_true rfl⟩ ?_
      refine ⟨?_, rfl⟩
      unfold z_sb
      first
      | (rw [if_pos (by omega), nI_pred])
      | (rw [if_neg (by omega)]; rfl)
    · refine aw_aload_n dX3_placeOfFitting_20 rfl ?_
      refine aw_getR dX3_placeOfFitting_21 f3_21 rfl ⟨Nat.le_of_ble_eq_true rfl, Nat.le_of_ble_eq_true rfl⟩ rfl rfl ?_
      refine aw_iload_n dX3_placeOfFitting_24 rfl ?_
      refine aw_iald_n (j := i) dX3_placeOfFitting_25 rfl (Nat.le_of_ble_eq_true rfl) (by decide) (by omega) ?_
      refine aw_top hp ?_
      refine aw_goto (tgt := 30) dX3_placeOfFitting_26 (by decide) ?_
      refine aw_reti dX3_placeOfFitting_30 rfl rfl ⟨Nat.le_of_ble_eq_true rfl, Nat.le_of_ble_eq_true rfl⟩ ?_
      refine ⟨?_, rfl⟩
      unfold z_sb
      first
      | (rw [if_pos (by omega), nI_pred])
      | (rw [if_neg (by omega)]; rfl)
theorem z_sb_le {e p h : Nat} (hp : p < 8) : z_sb e p h ≤ 8 := by unfold z_sb; split <;> omega
theorem zi_max {a b : Nat} (ha : a < 2147483648) (hb : b < 2147483648) : (if nI a < nI b then nI b else nI a) = nI (if a < b then b else a) := by
  by_cases h : a < b
  · rw [if_pos h, if_pos ((zn_lt ha hb).mpr h)]
  · rw [if_neg h, if_neg (fun z => h ((zn_lt ha hb).mp z))]
theorem w_mostAlike (G : aw_G) {n c : Nat} {I : Nat → Nat → Int32} {L : Nat → Nat → Int64} {f : Nat → Bool} {p e : Nat → Nat} (hEr : zEr f p e 3 I) (hb : ∀ v, p v < 8 ∧ e v < 100000) {h : Nat} (hh : h < 40) : aw_Met G mX3_mostAlike [.ref 64, .int (nI h)] (zH n I L c) (fun v h2 => v = some (.int (nI (z_al f p e h))) ∧ h2 = zH n I L c) := by
  have hz3 : zc f 3 ≤ 3 := zc_le0
  have hrow : ∀ j, j < zc f 3 → I 68 j = nI (p (z_sel f j)) ∧ I 69 j = nI (e (z_sel f j)) - 1 := fun j hj => by
    obtain ⟨s1, s2, s3⟩ := z_sel_ok hj
    have := hEr.2 (z_sel f j) s1 s2
    rw [s3] at this
    exact this
  refine aw_Met.of okX3_mostAlike (Nat.le_of_ble_eq_true rfl) ?_
  show aw_W G mX3_mostAlike 0 [.ref 64, .int (nI h), aw_x, aw_x, aw_x, aw_x] [] (zH n I L c) (0, 0) _
  refine aw_iconst (v := 0) dX3_mostAlike_0 rfl ?_
  refine aw_istore_n (ls2 := [_, _, _, _, _, _]) dX3_mostAlike_1 (by decide) rfl rfl ?_
  refine aw_iconst (v := 0) dX3_mostAlike_2 rfl ?_
  refine aw_istore_n (ls2 := [_, _, _, _, _, _]) dX3_mostAlike_3 (by decide) rfl rfl ?_
  refine aw_up (X := fun a => aw_W G mX3_mostAlike 4 [.ref 64, .int (nI h), .int (nI (z_mx (fun a => zc (fun b => z_sb (e (z_sel f a)) (p (z_sel f a)) h == z_sb (e (z_sel f b)) (p (z_sel f b)) h) (zc f 3)) a)), .int (nI a), aw_x, aw_x] [] (zH n I L c) (0, 0) _) (Nat.zero_le (zc f 3)) ?_ (fun a _ haa ah => ?_)
  · refine aw_iload_n dX3_mostAlike_4 rfl ?_
    refine aw_aload_n dX3_mostAlike_5 rfl ?_
    refine aw_getI dX3_mostAlike_6 f3_27 rfl ⟨Nat.le_of_ble_eq_true rfl, Nat.le_of_ble_eq_true rfl⟩ rfl ?_
    refine aw_top hEr.1 ?_
    refine aw_ic_ge_n (a := zc f 3) (b := zc f 3) (tgt := 65) dX3_mostAlike_9 (by decide) (by omega) (by omega) (fun c9 => ?_) (fun z => absurd z (by omega))
    refine aw_iload_n dX3_mostAlike_65 rfl ?_
    refine aw_reti dX3_mostAlike_66 rfl rfl ⟨Nat.le_of_ble_eq_true rfl, Nat.le_of_ble_eq_true rfl⟩ ?_
    exact ⟨rfl, rfl⟩
  · refine aw_iload_n dX3_mostAlike_4 rfl ?_
    refine aw_aload_n dX3_mostAlike_5 rfl ?_
    refine aw_getI dX3_mostAlike_6 f3_27 rfl ⟨Nat.le_of_ble_eq_true rfl, Nat.le_of_ble_eq_true rfl⟩ rfl ?_
    refine aw_top hEr.1 ?_
    refine aw_ic_ge_n (a := a) (b := zc f 3) (tgt := 65) dX3_mostAlike_9 (by decide) (by omega) (by omega) (fun z => absurd z (by omega)) (fun c9 => ?_)
    refine aw_iconst (v := 0) dX3_mostAlike_12 rfl ?_
    refine aw_istore (ls2 := [_, _, _, _, _, _]) dX3_mostAlike_13 (by decide) rfl rfl ?_
    refine aw_iconst (v := 0) dX3_mostAlike_15 rfl ?_
    refine aw_istore (ls2 := [_, _, _, _, _, _]) dX3_mostAlike_16 (by decide) rfl rfl ?_
    refine aw_up (X := fun b => aw_W G mX3_mostAlike 18 [.ref 64, .int (nI h), .int (nI (z_mx (fun a => zc (fun b => z_sb (e (z_sel f a)) (p (z_sel f a)) h == z_sb (e (z_sel f b)) (p (z_sel f b)) h) (zc f 3)) a)), .int (nI a), .int (nI (zc (fun b => z_sb (e (z_sel f a)) (p (z_sel f a)) h == z_sb (e (z_sel f b)) (p (z_sel f b)) h) b)), .int (nI b)] [] (zH n I L c) (0, 0) _) (Nat.zero_le (zc f 3)) ?_ (fun b _ hbb ih => ?_)
    · refine aw_iload dX3_mostAlike_18 rfl ?_
      refine aw_aload_n dX3_mostAlike_20 rfl ?_
      refine aw_getI dX3_mostAlike_21 f3_27 rfl ⟨Nat.le_of_ble_eq_true rfl, Nat.le_of_ble_eq_true rfl⟩ rfl ?_
      refine aw_top hEr.1 ?_
      refine aw_ic_ge_n (a := zc f 3) (b := zc f 3) (tgt := 52) dX3_mostAlike_24 (by decide) (by omega) (by omega) (fun c24 => ?_) (fun z => absurd z (by omega))
      refine aw_iload_n dX3_mostAlike_52 rfl ?_
      refine aw_iload dX3_mostAlike_53 rfl ?_
      refine aw_max dX3_mostAlike_55 mm3_109 ⟨Nat.le_of_ble_eq_true rfl, Nat.le_of_ble_eq_true rfl⟩ ⟨Nat.le_of_ble_eq_true rfl, Nat.le_of_ble_eq_true rfl⟩ ?_
      refine aw_top (zi_max (a := z_mx (fun a => zc (fun b => z_sb (e (z_sel f a)) (p (z_sel f a)) h == z_sb (e (z_sel f b)) (p (z_sel f b)) h) (zc f 3)) a) (b := zc (fun b => z_sb (e (z_sel f a)) (p (z_sel f a)) h == z_sb (e (z_sel f b)) (p (z_sel f b)) h) (zc f 3)) (by have := z_mx_le (g := (fun a => zc (fun b => z_sb (e (z_sel f a)) (p (z_sel f a)) h == z_sb (e (z_sel f b)) (p (z_sel f b)) h) (zc f 3))) (n := a) (B := 3) (fun i hi => Nat.le_trans zc_le0 zc_le0); omega) (by have : zc (fun b => z_sb (e (z_sel f a)) (p (z_sel f a)) h == z_sb (e (z_sel f b)) (p (z_sel f b)) h) (zc f 3) ≤ zc f 3 := zc_le0; omega)) ?_
      refine aw_istore_n (ls2 := [_, _, _, _, _, _]) dX3_mostAlike_58 (by decide) rfl rfl ?_
      refine aw_iinc_n (ls2 := [_, _, _, _, _, _]) dX3_mostAlike_59 rfl (by decide) rfl rfl ?_
      refine aw_goto (tgt := 4) dX3_mostAlike_62 (by decide) ?_
      exact aw_kill (j := 4) (ls2 := [_, _, _, _, aw_x, _]) rfl (aw_kill (j := 5) (ls2 := [_, _, _, _, _, aw_x]) rfl ah)
    · have hqa := z_sb_le (e := e (z_sel f a)) (h := h) (hb (z_sel f a)).1
      have hqb := z_sb_le (e := e (z_sel f b)) (h := h) (hb (z_sel f b)).1
      refine aw_iload dX3_mostAlike_18 rfl ?_
      refine aw_aload_n dX3_mostAlike_20 rfl ?_
      refine aw_getI dX3_mostAlike_21 f3_27 rfl ⟨Nat.le_of_ble_eq_true rfl, Nat.le_of_ble_eq_true rfl⟩ rfl ?_
      refine aw_top hEr.1 ?_
      refine aw_ic_ge_n (a := b) (b := zc f 3) (tgt := 52) dX3_mostAlike_24 (by decide) (by omega) (by omega) (fun z => absurd z (by omega)) (fun c24 => ?_)
      refine aw_aload_n dX3_mostAlike_27 rfl ?_
      refine aw_iload_n dX3_mostAlike_28 rfl ?_
      refine aw_iload_n dX3_mostAlike_29 rfl ?_
      refine aw_V0c (As := [_, _]) dX3_mostAlike_30 k3_106 rfl rfl rfl ⟨Nat.le_of_ble_eq_true rfl, Nat.le_of_ble_eq_true rfl⟩ (Nat.le_of_ble_eq_true rfl) ⟨⟨Nat.le_of_ble_eq_true rfl, Nat.le_of_ble_eq_true rfl⟩, ⟨Nat.le_of_ble_eq_true rfl, Nat.le_of_ble_eq_true rfl⟩⟩ ⟨rfl, rfl⟩ (w_pof G (i := a) (h := h) (p := p (z_sel f a)) (e := e (z_sel f a)) (by omega) (hrow a (by omega)).1 (hrow a (by omega)).2 (by omega) (hb (z_sel f a)).1 (hb (z_sel f a)).2) (fun v h2 hq => ?_)
      obtain ⟨rfl, rfl⟩ := hq
      refine aw_aload_n dX3_mostAlike_33 rfl ?_
      refine aw_iload dX3_mostAlike_34 rfl ?_
      refine aw_iload_n dX3_mostAlike_36 rfl ?_
      refine aw_V0c (As := [_, _]) dX3_mostAlike_37 k3_106 rfl rfl rfl ⟨Nat.le_of_ble_eq_true rfl, Nat.le_of_ble_eq_true rfl⟩ (Nat.le_of_ble_eq_true rfl) ⟨⟨Nat.le_of_ble_eq_true rfl, Nat.le_of_ble_eq_true rfl⟩, ⟨Nat.le_of_ble_eq_true rfl, Nat.le_of_ble_eq_true rfl⟩⟩ ⟨rfl, rfl⟩ (w_pof G (i := b) (h := h) (p := p (z_sel f b)) (e := e (z_sel f b)) (by omega) (hrow b (by omega)).1 (hrow b (by omega)).2 (by omega) (hb (z_sel f b)).1 (hb (z_sel f b)).2) (fun v h2 hq => ?_)
      obtain ⟨rfl, rfl⟩ := hq
      refine aw_ic_ne_p (a := z_sb (e (z_sel f a)) (p (z_sel f a)) h) (b := z_sb (e (z_sel f b)) (p (z_sel f b)) h) (tgt := 46) dX3_mostAlike_40 (by decide) (by omega) (by omega) (fun c40 => ?_) (fun c40 => ?_)
      · refine aw_iinc_n (ls2 := [_, _, _, _, _, _]) dX3_mostAlike_46 rfl (by decide) rfl rfl ?_
        refine aw_goto (tgt := 18) dX3_mostAlike_49 (by decide) ?_
        have ee : zc (fun b => z_sb (e (z_sel f a)) (p (z_sel f a)) h == z_sb (e (z_sel f b)) (p (z_sel f b)) h) (b + 1) = zc (fun b => z_sb (e (z_sel f a)) (p (z_sel f a)) h == z_sb (e (z_sel f b)) (p (z_sel f b)) h) b := by rw [zc, if_neg (by simpa using c40)]; rfl
        rw [ee] at ih
        exact ih
      · refine aw_iinc_n (ls2 := [_, _, _, _, _, _]) dX3_mostAlike_43 rfl (by decide) rfl rfl ?_
        refine aw_iinc_n (ls2 := [_, _, _, _, _, _]) dX3_mostAlike_46 rfl (by decide) rfl rfl ?_
        refine aw_goto (tgt := 18) dX3_mostAlike_49 (by decide) ?_
        have ee : zc (fun b => z_sb (e (z_sel f a)) (p (z_sel f a)) h == z_sb (e (z_sel f b)) (p (z_sel f b)) h) (b + 1) = zc (fun b => z_sb (e (z_sel f a)) (p (z_sel f a)) h == z_sb (e (z_sel f b)) (p (z_sel f b)) h) b + 1 := by rw [zc, if_pos (by simpa using c40)]
        rw [ee] at ih
        exact ih
theorem w_hourToLook (G : aw_G) {n c : Nat} {I : Nat → Nat → Int32} {L : Nat → Nat → Int64} {f : Nat → Bool} {p e : Nat → Nat} (hEr : zEr f p e 3 I) (hb : ∀ v, p v < 8 ∧ e v < 100000)  : aw_Met G mX3_hourToLook [.ref 64] (zH n I L c) (fun v h2 => v = some (.int (nI (z_mp (z_al f p e) 40).1)) ∧ h2 = zH n I L c) := by
  refine aw_Met.of okX3_hourToLook (Nat.le_of_ble_eq_true rfl) ?_
  show aw_W G mX3_hourToLook 0 [.ref 64, aw_x, aw_x, aw_x, aw_x] [] (zH n I L c) (0, 0) _
  refine aw_iconst (v := 0) dX3_hourToLook_0 rfl ?_
  refine aw_istore_n (ls2 := [_, _, _, _, _]) dX3_hourToLook_1 (by decide) rfl rfl ?_
  refine aw_iconst (v := 4) dX3_hourToLook_2 rfl ?_
  refine aw_istore_n (ls2 := [_, _, _, _, _]) dX3_hourToLook_3 (by decide) rfl rfl ?_
  refine aw_iconst (v := 0) dX3_hourToLook_4 rfl ?_
  refine aw_istore_n (ls2 := [_, _, _, _, _]) dX3_hourToLook_5 (by decide) rfl rfl ?_
  refine aw_up (X := fun i => aw_W G mX3_hourToLook 6 [.ref 64, .int (nI ((z_mp (z_al f p e) i).1)), .int (nI ((z_mp (z_al f p e) i).2)), .int (nI i), aw_x] [] (zH n I L c) (0, 0) _) (show 0 ≤ 40 by omega) ?_ (fun i _ hi ih => ?_)
  · refine aw_iload_n dX3_hourToLook_6 rfl ?_
    refine aw_bipush (v := 40) dX3_hourToLook_7 (by decide) ?_
    refine aw_ic_ge_n (a := 40) (b := 40) (tgt := 36) dX3_hourToLook_9 (by decide) (by omega) (by omega) (fun c9 => ?_) (fun z => absurd z (by omega))
    refine aw_iload_n dX3_hourToLook_36 rfl ?_
    refine aw_reti dX3_hourToLook_37 rfl rfl ⟨Nat.le_of_ble_eq_true rfl, Nat.le_of_ble_eq_true rfl⟩ ?_
    exact ⟨rfl, rfl⟩
  · have hml := z_mp_le (A := z_al f p e) (i := i)
    have hal := z_al_le (f := f) (p := p) (e := e) (h := i)
    refine aw_iload_n dX3_hourToLook_6 rfl ?_
    refine aw_bipush (v := 40) dX3_hourToLook_7 (by decide) ?_
    refine aw_ic_ge_n (a := i) (b := 40) (tgt := 36) dX3_hourToLook_9 (by decide) (by omega) (by omega) (fun z => absurd z (by omega)) (fun c9 => ?_)
    refine aw_aload_n dX3_hourToLook_12 rfl ?_
    refine aw_iload_n dX3_hourToLook_13 rfl ?_
    refine aw_V0c (As := [_]) dX3_hourToLook_14 k3_102 rfl rfl rfl ⟨Nat.le_of_ble_eq_true rfl, Nat.le_of_ble_eq_true rfl⟩ (Nat.le_of_ble_eq_true rfl) ⟨⟨Nat.le_of_ble_eq_true rfl, Nat.le_of_ble_eq_true rfl⟩, ⟨Nat.le_of_ble_eq_true rfl, Nat.le_of_ble_eq_true rfl⟩⟩ ⟨rfl, rfl⟩ (w_mostAlike G hEr hb (h := i) hi) (fun v h2 hq => ?_)
    obtain ⟨rfl, rfl⟩ := hq
    refine aw_istore (ls2 := [_, _, _, _, _]) dX3_hourToLook_17 (by decide) rfl rfl ?_
    refine aw_iload dX3_hourToLook_19 rfl ?_
    refine aw_iload_n dX3_hourToLook_21 rfl ?_
    refine aw_ic_ge_n (a := z_al f p e i) (b := (z_mp (z_al f p e) i).2) (tgt := 30) dX3_hourToLook_22 (by decide) (by omega) (by omega) (fun c22 => ?_) (fun c22 => ?_)
    · refine aw_iinc_n (ls2 := [_, _, _, _, _]) dX3_hourToLook_30 rfl (by decide) rfl rfl ?_
      refine aw_goto (tgt := 6) dX3_hourToLook_33 (by decide) ?_
      refine aw_kill (j := 4) (ls2 := [_, _, _, _, aw_x]) rfl ?_
      have ee : z_mp (z_al f p e) (i + 1) = z_mp (z_al f p e) i := by rw [z_mp, if_neg (by omega)]
      rw [ee] at ih
      exact ih
    · refine aw_iload dX3_hourToLook_25 rfl ?_
      refine aw_istore_n (ls2 := [_, _, _, _, _]) dX3_hourToLook_27 (by decide) rfl rfl ?_
      refine aw_iload_n dX3_hourToLook_28 rfl ?_
      refine aw_istore_n (ls2 := [_, _, _, _, _]) dX3_hourToLook_29 (by decide) rfl rfl ?_
      refine aw_iinc_n (ls2 := [_, _, _, _, _]) dX3_hourToLook_30 rfl (by decide) rfl rfl ?_
      refine aw_goto (tgt := 6) dX3_hourToLook_33 (by decide) ?_
      refine aw_kill (j := 4) (ls2 := [_, _, _, _, aw_x]) rfl ?_
      have ee : z_mp (z_al f p e) (i + 1) = (i, z_al f p e i) := by rw [z_mp, if_pos (by omega)]
      rw [ee] at ih
      exact ih
def g_push (g : Nat → Nat → Nat) (h k p : Nat) : Nat → Nat → Nat := aw_u (aw_u (aw_u (aw_u g 0 (g 3 0) h) 1 (g 3 0) k) 2 (g 3 0) (if p < 8 then p + 1 else 0)) 3 0 (g 3 0 + 1)
theorem w_cPush (G : aw_G) {n c : Nat} {I : Nat → Nat → Int32} {L : Nat → Nat → Int64} {g : Nat → Nat → Nat} (hC : zCl g I) {h k p : Nat} (hn : g 3 0 < 8) (hh : h < 40) (hk : k < 8) (hp : p < 9) : aw_Met G mX3_push [.ref 64, .int (nI h), .int (nI k), .int (nI p)] (zH n I L c) (fun v h2 => v = none ∧ ∃ I2, h2 = zH n I2 L c ∧ zCl (g_push g h k p) I2 ∧ (∀ o, o ≠ 64 → o ≠ 65 → o ≠ 66 → o ≠ 67 → I2 o = I o) ∧ ∀ j, j ≠ 9 → I2 64 j = I 64 j) := by
  refine aw_Met.of okX3_push (Nat.le_of_ble_eq_true rfl) ?_
  show aw_W G mX3_push 0 [.ref 64, .int (nI h), .int (nI k), .int (nI p)] [] (zH n I L c) (0, 0) _
  refine aw_aload_n dX3_push_0 rfl ?_
  refine aw_getR dX3_push_1 f3_9 rfl ⟨Nat.le_of_ble_eq_true rfl, Nat.le_of_ble_eq_true rfl⟩ rfl rfl ?_
  refine aw_aload_n dX3_push_4 rfl ?_
  refine aw_getI dX3_push_5 f3_31 rfl ⟨Nat.le_of_ble_eq_true rfl, Nat.le_of_ble_eq_true rfl⟩ rfl ?_
  refine aw_top hC.1 ?_
  refine aw_iload_n dX3_push_8 rfl ?_
  refine aw_iast_n (j := g 3 0) dX3_push_9 rfl ⟨Nat.le_of_ble_eq_true rfl, Nat.le_of_ble_eq_true rfl⟩ (by decide) (by omega) ?_
  refine aw_aload_n dX3_push_10 rfl ?_
  refine aw_getR dX3_push_11 f3_15 rfl ⟨Nat.le_of_ble_eq_true rfl, Nat.le_of_ble_eq_true rfl⟩ rfl rfl ?_
  refine aw_aload_n dX3_push_14 rfl ?_
  refine aw_getI dX3_push_15 f3_31 rfl ⟨Nat.le_of_ble_eq_true rfl, Nat.le_of_ble_eq_true rfl⟩ rfl ?_
  refine aw_top ((congrFun (aw_u_ne (show 64 ≠ 65 by decide)) 9).trans hC.1) ?_
  refine aw_iload_n dX3_push_18 rfl ?_
  refine aw_iast_n (j := g 3 0) dX3_push_19 rfl ⟨Nat.le_of_ble_eq_true rfl, Nat.le_of_ble_eq_true rfl⟩ (by decide) (by omega) ?_
  refine aw_aload_n dX3_push_20 rfl ?_
  refine aw_getR dX3_push_21 f3_18 rfl ⟨Nat.le_of_ble_eq_true rfl, Nat.le_of_ble_eq_true rfl⟩ rfl rfl ?_
  refine aw_aload_n dX3_push_24 rfl ?_
  refine aw_getI dX3_push_25 f3_31 rfl ⟨Nat.le_of_ble_eq_true rfl, Nat.le_of_ble_eq_true rfl⟩ rfl ?_
  refine aw_top ((congrFun (aw_u_ne (show 64 ≠ 66 by decide)) 9).trans ((congrFun (aw_u_ne (show 64 ≠ 65 by decide)) 9).trans hC.1)) ?_
  refine aw_iload_n dX3_push_28 rfl ?_
  refine aw_bipush (v := 8) dX3_push_29 (by decide) ?_
  refine aw_ic_ge_n (a := p) (b := 8) (tgt := 38) dX3_push_31 (by decide) (by omega) (by omega) (fun c31 => ?_) (fun c31 => ?_)
  · refine aw_iconst (v := -1) dX3_push_38 rfl ?_
    refine aw_iast_n (j := g 3 0) dX3_push_39 rfl ⟨Nat.le_of_ble_eq_true rfl, Nat.le_of_ble_eq_true rfl⟩ (by decide) (by omega) ?_
    refine aw_aload_n dX3_push_40 rfl ?_
    refine aw_dup dX3_push_41 rfl ?_
    refine aw_getI dX3_push_42 f3_31 rfl ⟨Nat.le_of_ble_eq_true rfl, Nat.le_of_ble_eq_true rfl⟩ rfl ?_
    refine aw_top ((congrFun (aw_u_ne (show 64 ≠ 67 by decide)) 9).trans ((congrFun (aw_u_ne (show 64 ≠ 66 by decide)) 9).trans ((congrFun (aw_u_ne (show 64 ≠ 65 by decide)) 9).trans hC.1))) ?_
    refine aw_iconst (v := 1) dX3_push_45 rfl ?_
    refine aw_iadd_n (a := g 3 0) (b := 1) dX3_push_46 ?_
    refine aw_putI dX3_push_47 f3_31 rfl ⟨Nat.le_of_ble_eq_true rfl, Nat.le_of_ble_eq_true rfl⟩ (Or.inl rfl) rfl ?_
    refine aw_ret0 dX3_push_50 rfl ⟨Nat.le_of_ble_eq_true rfl, Nat.le_of_ble_eq_true rfl⟩ ?_
    unfold g_push
    refine ⟨rfl, _, rfl, ⟨?_, ?_, fun i hi => ?_⟩, fun o h1 h2 h3 h4 => by rw [aw_u_ne h1, aw_u_ne h4, aw_u_ne h3, aw_u_ne h2], fun j hj => by rw [aw_u_nj hj, aw_u_ne (by decide), aw_u_ne (by decide), aw_u_ne (by decide)]⟩
    · rw [aw_u_eq, aw_u_eq]
    · rw [aw_u_eq]; omega
    · have hgi := hC.2.2 i hi
      simp only [aw_u_ne (show 65 ≠ 64 by decide), aw_u_ne (show 66 ≠ 64 by decide), aw_u_ne (show 67 ≠ 64 by decide), aw_u_ne (show 65 ≠ 67 by decide), aw_u_ne (show 66 ≠ 67 by decide), aw_u_ne (show 65 ≠ 66 by decide), aw_u_ne (show 67 ≠ 66 by decide), aw_u_ne (show 67 ≠ 65 by decide), aw_u_ne (show 66 ≠ 65 by decide), aw_u_ne (show 0 ≠ 3 by decide), aw_u_ne (show 1 ≠ 3 by decide), aw_u_ne (show 2 ≠ 3 by decide), aw_u_ne (show 0 ≠ 2 by decide), aw_u_ne (show 1 ≠ 2 by decide), aw_u_ne (show 0 ≠ 1 by decide), aw_u_ne (show 2 ≠ 1 by decide), aw_u_ne (show 2 ≠ 0 by decide), aw_u_ne (show 1 ≠ 0 by decide)]
      by_cases hin : i = g 3 0
      · subst hin
        simp only [aw_u_eq]
        rw [if_neg (by omega)]; exact ⟨⟨trivial, trivial, rfl⟩, hh, hk, by omega⟩
      · simp only [aw_u_nj hin]; exact hgi
  · refine aw_iload_n dX3_push_34 rfl ?_
    refine aw_goto (tgt := 39) dX3_push_35 (by decide) ?_
    refine aw_iast_n (j := g 3 0) dX3_push_39 rfl ⟨Nat.le_of_ble_eq_true rfl, Nat.le_of_ble_eq_true rfl⟩ (by decide) (by omega) ?_
    refine aw_aload_n dX3_push_40 rfl ?_
    refine aw_dup dX3_push_41 rfl ?_
    refine aw_getI dX3_push_42 f3_31 rfl ⟨Nat.le_of_ble_eq_true rfl, Nat.le_of_ble_eq_true rfl⟩ rfl ?_
    refine aw_top ((congrFun (aw_u_ne (show 64 ≠ 67 by decide)) 9).trans ((congrFun (aw_u_ne (show 64 ≠ 66 by decide)) 9).trans ((congrFun (aw_u_ne (show 64 ≠ 65 by decide)) 9).trans hC.1))) ?_
    refine aw_iconst (v := 1) dX3_push_45 rfl ?_
    refine aw_iadd_n (a := g 3 0) (b := 1) dX3_push_46 ?_
    refine aw_putI dX3_push_47 f3_31 rfl ⟨Nat.le_of_ble_eq_true rfl, Nat.le_of_ble_eq_true rfl⟩ (Or.inl rfl) rfl ?_
    refine aw_ret0 dX3_push_50 rfl ⟨Nat.le_of_ble_eq_true rfl, Nat.le_of_ble_eq_true rfl⟩ ?_
    unfold g_push
    refine ⟨rfl, _, rfl, ⟨?_, ?_, fun i hi => ?_⟩, fun o h1 h2 h3 h4 => by rw [aw_u_ne h1, aw_u_ne h4, aw_u_ne h3, aw_u_ne h2], fun j hj => by rw [aw_u_nj hj, aw_u_ne (by decide), aw_u_ne (by decide), aw_u_ne (by decide)]⟩
    · rw [aw_u_eq, aw_u_eq]
    · rw [aw_u_eq]; omega
    · have hgi := hC.2.2 i hi
      simp only [aw_u_ne (show 65 ≠ 64 by decide), aw_u_ne (show 66 ≠ 64 by decide), aw_u_ne (show 67 ≠ 64 by decide), aw_u_ne (show 65 ≠ 67 by decide), aw_u_ne (show 66 ≠ 67 by decide), aw_u_ne (show 65 ≠ 66 by decide), aw_u_ne (show 67 ≠ 66 by decide), aw_u_ne (show 67 ≠ 65 by decide), aw_u_ne (show 66 ≠ 65 by decide), aw_u_ne (show 0 ≠ 3 by decide), aw_u_ne (show 1 ≠ 3 by decide), aw_u_ne (show 2 ≠ 3 by decide), aw_u_ne (show 0 ≠ 2 by decide), aw_u_ne (show 1 ≠ 2 by decide), aw_u_ne (show 0 ≠ 1 by decide), aw_u_ne (show 2 ≠ 1 by decide), aw_u_ne (show 2 ≠ 0 by decide), aw_u_ne (show 1 ≠ 0 by decide)]
      by_cases hin : i = g 3 0
      · subst hin
        simp only [aw_u_eq]
        rw [if_pos (by omega), nI_pred]; exact ⟨⟨trivial, trivial, rfl⟩, hh, hk, by omega⟩
      · simp only [aw_u_nj hin]; exact hgi
