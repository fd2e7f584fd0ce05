section AWN
variable {G : aw_G} {M : aw_MR} {pc : Nat} {ls st : List Value} {h : aw_H} {q : Nat × Nat} {Q : Option Value → aw_H → Prop}
theorem aw_iadd_n {a b : Nat} (hd : decode (aw_c M) pc = .ok (.iadd, 1)) (k : aw_W G M (pc + 1) ls (.int (nI (a + b)) :: st) h q Q) : aw_W G M pc ls (.int (nI b) :: .int (nI a) :: st) h q Q :=
  aw_iadd hd (aw_top (nI_add a b) k)
theorem aw_imul_n {a b : Nat} (hd : decode (aw_c M) pc = .ok (.imul, 1)) (k : aw_W G M (pc + 1) ls (.int (nI (a * b)) :: st) h q Q) : aw_W G M pc ls (.int (nI b) :: .int (nI a) :: st) h q Q :=
  aw_imul hd (aw_top (pk_mul a b) k)
theorem aw_isub_n {a b : Nat} (hd : decode (aw_c M) pc = .ok (.isub, 1)) (hab : b ≤ a) (k : aw_W G M (pc + 1) ls (.int (nI (a - b)) :: st) h q Q) : aw_W G M pc ls (.int (nI b) :: .int (nI a) :: st) h q Q :=
  aw_isub hd (aw_top (pk_sub hab) k)
theorem aw_idiv_n {a b : Nat} (hd : decode (aw_c M) pc = .ok (.idiv, 1)) (ha : a < 2147483648) (h0 : 0 < b) (hb : b < 2147483648) (k : aw_W G M (pc + 1) ls (.int (nI (a / b)) :: st) h q Q) : aw_W G M pc ls (.int (nI b) :: .int (nI a) :: st) h q Q :=
  aw_idiv hd (nI_ne0 h0 (by omega)) (aw_top (pk_div (by omega) h0 (by omega)) k)
theorem aw_irem_n {a b : Nat} (hd : decode (aw_c M) pc = .ok (.irem, 1)) (ha : a < 2147483648) (h0 : 0 < b) (hb : b < 2147483648) (k : aw_W G M (pc + 1) ls (.int (nI (a % b)) :: st) h q Q) : aw_W G M pc ls (.int (nI b) :: .int (nI a) :: st) h q Q :=
  aw_irem hd (nI_ne0 h0 (by omega)) (aw_top (pk_rem (by omega) h0 (by omega)) k)
theorem aw_snd {x y : Int32} {v : Value} (e : x = y) (k : aw_W G M pc ls (v :: .int y :: st) h q Q) : aw_W G M pc ls (v :: .int x :: st) h q Q := e ▸ k
theorem zn_eq {a b : Nat} (ha : a < 2147483648) (hb : b < 2147483648) : (nI a = nI b) ↔ a = b := nI_eq (by omega) (by omega)
theorem zn_lt {a b : Nat} (ha : a < 2147483648) (hb : b < 2147483648) : (nI a < nI b) ↔ a < b := nI_ltI (by omega) (by omega)
theorem zn_le {a b : Nat} (ha : a < 2147483648) (hb : b < 2147483648) : (nI a ≤ nI b) ↔ a ≤ b := nI_leI (by omega) (by omega)
theorem zp_toInt {a : Nat} (ha : a < 2147483648) : (nI a - 1).toInt = (a : Int) - 1 := by
  by_cases h : a = 0
  · subst h; decide
  · rw [zi_pred h, nI_toInt (by omega)]; omega
theorem zp_eq {a b : Nat} (ha : a < 2147483648) (hb : b < 2147483648) : (nI a - 1 = nI b - 1) ↔ a = b := by
  constructor
  · intro e
    have := congrArg Int32.toInt e
    rw [zp_toInt ha, zp_toInt hb] at this
    omega
  · rintro rfl; rfl
theorem zp_lt {a b : Nat} (ha : a < 2147483648) (hb : b < 2147483648) : (nI a - 1 < nI b - 1) ↔ a < b := by
  rw [Int32.lt_iff_toInt_lt, zp_toInt ha, zp_toInt hb]; omega
theorem zp_le {a b : Nat} (ha : a < 2147483648) (hb : b < 2147483648) : (nI a - 1 ≤ nI b - 1) ↔ a ≤ b := by
  rw [Int32.le_iff_toInt_le, zp_toInt ha, zp_toInt hb]; omega
theorem zB0 {P : Prop} [Decidable P] : ((if P then (1 : Int32) else 0) = 0) ↔ ¬ P := by
  by_cases h : P <;> simp [h]
theorem aw_iinc_m {j i d : Nat} {n : Int} {ls2 : List Value} (hd : decode (aw_c M) pc = .ok (.iinc j n, 3)) (hn0 : Int32.ofInt n = nI d) (hx : ls[j]? = some (.int (nI i))) (hn : j < aw_nL M) (hp : aw_pok ls j = true) (hl : ls.set j (.int (nI (i + d))) = ls2) (k : aw_W G M (pc + 3) ls2 st h q Q) : aw_W G M pc ls st h q Q := by
  refine aw_iinc hd hx hn hp ?_ k
  rw [hn0, nI_add]
  exact hl
theorem aw_ic_eq_n {a b : Nat} {off : Int} {tgt : Nat} (hd : decode (aw_c M) pc = .ok (.if_icmp .eq off, 3)) (ht : (pc : Int) + off = (tgt : Int)) (ha : a < 2147483648) (hb : b < 2147483648) (kt : a = b → aw_W G M tgt ls st h q Q) (kf : ¬ a = b → aw_W G M (pc + 3) ls st h q Q) : aw_W G M pc ls (.int (nI b) :: .int (nI a) :: st) h q Q :=
  aw_ic_eq hd ht (fun z => kt ((zn_eq ha hb).mp z)) (fun z => kf (fun y => z ((zn_eq ha hb).mpr y)))
theorem aw_ic_ne_n {a b : Nat} {off : Int} {tgt : Nat} (hd : decode (aw_c M) pc = .ok (.if_icmp .ne off, 3)) (ht : (pc : Int) + off = (tgt : Int)) (ha : a < 2147483648) (hb : b < 2147483648) (kt : ¬ a = b → aw_W G M tgt ls st h q Q) (kf : a = b → aw_W G M (pc + 3) ls st h q Q) : aw_W G M pc ls (.int (nI b) :: .int (nI a) :: st) h q Q :=
  aw_ic_ne hd ht (fun z => kt (fun y => z ((zn_eq ha hb).mpr y))) (fun z => kf ((zn_eq ha hb).mp z))
theorem aw_ic_lt_n {a b : Nat} {off : Int} {tgt : Nat} (hd : decode (aw_c M) pc = .ok (.if_icmp .lt off, 3)) (ht : (pc : Int) + off = (tgt : Int)) (ha : a < 2147483648) (hb : b < 2147483648) (kt : a < b → aw_W G M tgt ls st h q Q) (kf : b ≤ a → aw_W G M (pc + 3) ls st h q Q) : aw_W G M pc ls (.int (nI b) :: .int (nI a) :: st) h q Q :=
  aw_ic_lt hd ht (fun z => kt ((zn_lt ha hb).mp z)) (fun z => kf (by have : ¬ (a < b) := fun y => z ((zn_lt ha hb).mpr y); omega))
theorem aw_ic_ge_n {a b : Nat} {off : Int} {tgt : Nat} (hd : decode (aw_c M) pc = .ok (.if_icmp .ge off, 3)) (ht : (pc : Int) + off = (tgt : Int)) (ha : a < 2147483648) (hb : b < 2147483648) (kt : b ≤ a → aw_W G M tgt ls st h q Q) (kf : a < b → aw_W G M (pc + 3) ls st h q Q) : aw_W G M pc ls (.int (nI b) :: .int (nI a) :: st) h q Q :=
  aw_ic_ge hd ht (fun z => kt ((zn_le hb ha).mp z)) (fun z => kf (by have : ¬ (b ≤ a) := fun y => z ((zn_le hb ha).mpr y); omega))
theorem aw_ic_gt_n {a b : Nat} {off : Int} {tgt : Nat} (hd : decode (aw_c M) pc = .ok (.if_icmp .gt off, 3)) (ht : (pc : Int) + off = (tgt : Int)) (ha : a < 2147483648) (hb : b < 2147483648) (kt : b < a → aw_W G M tgt ls st h q Q) (kf : a ≤ b → aw_W G M (pc + 3) ls st h q Q) : aw_W G M pc ls (.int (nI b) :: .int (nI a) :: st) h q Q :=
  aw_ic_gt hd ht (fun z => kt ((zn_lt hb ha).mp z)) (fun z => kf (by have : ¬ (b < a) := fun y => z ((zn_lt hb ha).mpr y); omega))
theorem aw_ic_le_n {a b : Nat} {off : Int} {tgt : Nat} (hd : decode (aw_c M) pc = .ok (.if_icmp .le off, 3)) (ht : (pc : Int) + off = (tgt : Int)) (ha : a < 2147483648) (hb : b < 2147483648) (kt : a ≤ b → aw_W G M tgt ls st h q Q) (kf : b < a → aw_W G M (pc + 3) ls st h q Q) : aw_W G M pc ls (.int (nI b) :: .int (nI a) :: st) h q Q :=
  aw_ic_le hd ht (fun z => kt ((zn_le ha hb).mp z)) (fun z => kf (by have : ¬ (a ≤ b) := fun y => z ((zn_le ha hb).mpr y); omega))
theorem aw_ic_eq_p {a b : Nat} {off : Int} {tgt : Nat} (hd : decode (aw_c M) pc = .ok (.if_icmp .eq off, 3)) (ht : (pc : Int) + off = (tgt : Int)) (ha : a < 2147483648) (hb : b < 2147483648) (kt : a = b → aw_W G M tgt ls st h q Q) (kf : ¬ a = b → aw_W G M (pc + 3) ls st h q Q) : aw_W G M pc ls (.int (nI b - 1) :: .int (nI a - 1) :: st) h q Q :=
  aw_ic_eq hd ht (fun z => kt ((zp_eq ha hb).mp z)) (fun z => kf (fun y => z ((zp_eq ha hb).mpr y)))
theorem aw_ic_ne_p {a b : Nat} {off : Int} {tgt : Nat} (hd : decode (aw_c M) pc = .ok (.if_icmp .ne off, 3)) (ht : (pc : Int) + off = (tgt : Int)) (ha : a < 2147483648) (hb : b < 2147483648) (kt : ¬ a = b → aw_W G M tgt ls st h q Q) (kf : a = b → aw_W G M (pc + 3) ls st h q Q) : aw_W G M pc ls (.int (nI b - 1) :: .int (nI a - 1) :: st) h q Q :=
  aw_ic_ne hd ht (fun z => kt (fun y => z ((zp_eq ha hb).mpr y))) (fun z => kf ((zp_eq ha hb).mp z))
theorem aw_ic_lt_p {a b : Nat} {off : Int} {tgt : Nat} (hd : decode (aw_c M) pc = .ok (.if_icmp .lt off, 3)) (ht : (pc : Int) + off = (tgt : Int)) (ha : a < 2147483648) (hb : b < 2147483648) (kt : a < b → aw_W G M tgt ls st h q Q) (kf : b ≤ a → aw_W G M (pc + 3) ls st h q Q) : aw_W G M pc ls (.int (nI b - 1) :: .int (nI a - 1) :: st) h q Q :=
  aw_ic_lt hd ht (fun z => kt ((zp_lt ha hb).mp z)) (fun z => kf (by have : ¬ (a < b) := fun y => z ((zp_lt ha hb).mpr y); omega))
theorem aw_ic_ge_p {a b : Nat} {off : Int} {tgt : Nat} (hd : decode (aw_c M) pc = .ok (.if_icmp .ge off, 3)) (ht : (pc : Int) + off = (tgt : Int)) (ha : a < 2147483648) (hb : b < 2147483648) (kt : b ≤ a → aw_W G M tgt ls st h q Q) (kf : a < b → aw_W G M (pc + 3) ls st h q Q) : aw_W G M pc ls (.int (nI b - 1) :: .int (nI a - 1) :: st) h q Q :=
  aw_ic_ge hd ht (fun z => kt ((zp_le hb ha).mp z)) (fun z => kf (by have : ¬ (b ≤ a) := fun y => z ((zp_le hb ha).mpr y); omega))
theorem aw_ic_gt_p {a b : Nat} {off : Int} {tgt : Nat} (hd : decode (aw_c M) pc = .ok (.if_icmp .gt off, 3)) (ht : (pc : Int) + off = (tgt : Int)) (ha : a < 2147483648) (hb : b < 2147483648) (kt : b < a → aw_W G M tgt ls st h q Q) (kf : a ≤ b → aw_W G M (pc + 3) ls st h q Q) : aw_W G M pc ls (.int (nI b - 1) :: .int (nI a - 1) :: st) h q Q :=
  aw_ic_gt hd ht (fun z => kt ((zp_lt hb ha).mp z)) (fun z => kf (by have : ¬ (b < a) := fun y => z ((zp_lt hb ha).mpr y); omega))
theorem aw_ic_le_p {a b : Nat} {off : Int} {tgt : Nat} (hd : decode (aw_c M) pc = .ok (.if_icmp .le off, 3)) (ht : (pc : Int) + off = (tgt : Int)) (ha : a < 2147483648) (hb : b < 2147483648) (kt : a ≤ b → aw_W G M tgt ls st h q Q) (kf : b < a → aw_W G M (pc + 3) ls st h q Q) : aw_W G M pc ls (.int (nI b - 1) :: .int (nI a - 1) :: st) h q Q :=
  aw_ic_le hd ht (fun z => kt ((zp_le ha hb).mp z)) (fun z => kf (by have : ¬ (a ≤ b) := fun y => z ((zp_le ha hb).mpr y); omega))
theorem aw_if_eq_n {a : Nat} {off : Int} {tgt : Nat} (hd : decode (aw_c M) pc = .ok (.ifCond .eq off, 3)) (ht : (pc : Int) + off = (tgt : Int)) (ha : a < 2147483648) (kt : a = 0 → aw_W G M tgt ls st h q Q) (kf : ¬ a = 0 → aw_W G M (pc + 3) ls st h q Q) : aw_W G M pc ls (.int (nI a) :: st) h q Q :=
  aw_if_eq hd ht (fun z => kt ((zn_eq (b := 0) ha (by omega)).mp z)) (fun z => kf (fun y => z ((zn_eq (b := 0) ha (by omega)).mpr y)))
theorem aw_if_ne_n {a : Nat} {off : Int} {tgt : Nat} (hd : decode (aw_c M) pc = .ok (.ifCond .ne off, 3)) (ht : (pc : Int) + off = (tgt : Int)) (ha : a < 2147483648) (kt : ¬ a = 0 → aw_W G M tgt ls st h q Q) (kf : a = 0 → aw_W G M (pc + 3) ls st h q Q) : aw_W G M pc ls (.int (nI a) :: st) h q Q :=
  aw_if_ne hd ht (fun z => kt (fun y => z ((zn_eq (b := 0) ha (by omega)).mpr y))) (fun z => kf ((zn_eq (b := 0) ha (by omega)).mp z))
theorem aw_if_gt_n {a : Nat} {off : Int} {tgt : Nat} (hd : decode (aw_c M) pc = .ok (.ifCond .gt off, 3)) (ht : (pc : Int) + off = (tgt : Int)) (ha : a < 2147483648) (kt : 0 < a → aw_W G M tgt ls st h q Q) (kf : a = 0 → aw_W G M (pc + 3) ls st h q Q) : aw_W G M pc ls (.int (nI a) :: st) h q Q :=
  aw_if_gt hd ht (fun z => kt ((zn_lt (a := 0) (by omega) ha).mp z)) (fun z => kf (by have : ¬ 0 < a := fun y => z ((zn_lt (a := 0) (by omega) ha).mpr y); omega))
theorem aw_if_le_n {a : Nat} {off : Int} {tgt : Nat} (hd : decode (aw_c M) pc = .ok (.ifCond .le off, 3)) (ht : (pc : Int) + off = (tgt : Int)) (ha : a < 2147483648) (kt : a = 0 → aw_W G M tgt ls st h q Q) (kf : 0 < a → aw_W G M (pc + 3) ls st h q Q) : aw_W G M pc ls (.int (nI a) :: st) h q Q :=
  aw_if_le hd ht (fun z => kt (by have := (zn_le (b := 0) ha (by omega)).mp z; omega)) (fun z => kf (by have : ¬ a ≤ 0 := fun y => z ((zn_le (b := 0) ha (by omega)).mpr y); omega))
theorem aw_if_lt_n {a : Nat} {off : Int} {tgt : Nat} (hd : decode (aw_c M) pc = .ok (.ifCond .lt off, 3)) (ht : (pc : Int) + off = (tgt : Int)) (ha : a < 2147483648) (kt : False → aw_W G M tgt ls st h q Q) (kf : True → aw_W G M (pc + 3) ls st h q Q) : aw_W G M pc ls (.int (nI a) :: st) h q Q :=
  aw_if_lt hd ht (fun z => absurd z (nI_pos (by omega))) (fun _ => kf trivial)
theorem aw_if_ge_n {a : Nat} {off : Int} {tgt : Nat} (hd : decode (aw_c M) pc = .ok (.ifCond .ge off, 3)) (ht : (pc : Int) + off = (tgt : Int)) (ha : a < 2147483648) (kt : True → aw_W G M tgt ls st h q Q) (kf : False → aw_W G M (pc + 3) ls st h q Q) : aw_W G M pc ls (.int (nI a) :: st) h q Q :=
  aw_if_ge hd ht (fun _ => kt trivial) (fun z => absurd (nI_pos' (by omega)) z)
theorem aw_if_eq_p {a : Nat} {off : Int} {tgt : Nat} (hd : decode (aw_c M) pc = .ok (.ifCond .eq off, 3)) (ht : (pc : Int) + off = (tgt : Int)) (ha : a < 2147483648) (kt : a = 1 → aw_W G M tgt ls st h q Q) (kf : ¬ a = 1 → aw_W G M (pc + 3) ls st h q Q) : aw_W G M pc ls (.int (nI a - 1) :: st) h q Q :=
  aw_if_eq hd ht (fun z => kt ((zp_eq (b := 1) ha (by omega)).mp z)) (fun z => kf (fun y => z ((zp_eq (b := 1) ha (by omega)).mpr y)))
theorem aw_if_ne_p {a : Nat} {off : Int} {tgt : Nat} (hd : decode (aw_c M) pc = .ok (.ifCond .ne off, 3)) (ht : (pc : Int) + off = (tgt : Int)) (ha : a < 2147483648) (kt : ¬ a = 1 → aw_W G M tgt ls st h q Q) (kf : a = 1 → aw_W G M (pc + 3) ls st h q Q) : aw_W G M pc ls (.int (nI a - 1) :: st) h q Q :=
  aw_if_ne hd ht (fun z => kt (fun y => z ((zp_eq (b := 1) ha (by omega)).mpr y))) (fun z => kf ((zp_eq (b := 1) ha (by omega)).mp z))
theorem aw_if_lt_p {a : Nat} {off : Int} {tgt : Nat} (hd : decode (aw_c M) pc = .ok (.ifCond .lt off, 3)) (ht : (pc : Int) + off = (tgt : Int)) (ha : a < 2147483648) (kt : a < 1 → aw_W G M tgt ls st h q Q) (kf : 1 ≤ a → aw_W G M (pc + 3) ls st h q Q) : aw_W G M pc ls (.int (nI a - 1) :: st) h q Q :=
  aw_if_lt hd ht (fun z => kt ((zp_lt (b := 1) ha (by omega)).mp z)) (fun z => kf (by have : ¬ (a < 1) := fun y => z ((zp_lt (b := 1) ha (by omega)).mpr y); omega))
theorem aw_if_ge_p {a : Nat} {off : Int} {tgt : Nat} (hd : decode (aw_c M) pc = .ok (.ifCond .ge off, 3)) (ht : (pc : Int) + off = (tgt : Int)) (ha : a < 2147483648) (kt : 1 ≤ a → aw_W G M tgt ls st h q Q) (kf : a < 1 → aw_W G M (pc + 3) ls st h q Q) : aw_W G M pc ls (.int (nI a - 1) :: st) h q Q :=
  aw_if_ge hd ht (fun z => kt ((zp_le (a := 1) (b := a) (by omega) ha).mp z)) (fun z => kf (by have : ¬ (1 ≤ a) := fun y => z ((zp_le (a := 1) (b := a) (by omega) ha).mpr y); omega))
theorem aw_if_gt_p {a : Nat} {off : Int} {tgt : Nat} (hd : decode (aw_c M) pc = .ok (.ifCond .gt off, 3)) (ht : (pc : Int) + off = (tgt : Int)) (ha : a < 2147483648) (kt : 1 < a → aw_W G M tgt ls st h q Q) (kf : a ≤ 1 → aw_W G M (pc + 3) ls st h q Q) : aw_W G M pc ls (.int (nI a - 1) :: st) h q Q :=
  aw_if_gt hd ht (fun z => kt ((zp_lt (a := 1) (b := a) (by omega) ha).mp z)) (fun z => kf (by have : ¬ (1 < a) := fun y => z ((zp_lt (a := 1) (b := a) (by omega) ha).mpr y); omega))
theorem aw_if_le_p {a : Nat} {off : Int} {tgt : Nat} (hd : decode (aw_c M) pc = .ok (.ifCond .le off, 3)) (ht : (pc : Int) + off = (tgt : Int)) (ha : a < 2147483648) (kt : a ≤ 1 → aw_W G M tgt ls st h q Q) (kf : 1 < a → aw_W G M (pc + 3) ls st h q Q) : aw_W G M pc ls (.int (nI a - 1) :: st) h q Q :=
  aw_if_le hd ht (fun z => kt ((zp_le (b := 1) ha (by omega)).mp z)) (fun z => kf (by have : ¬ (a ≤ 1) := fun y => z ((zp_le (b := 1) ha (by omega)).mpr y); omega))
theorem aw_if_eq_B {P : Prop} [Decidable P] {off : Int} {tgt : Nat} (hd : decode (aw_c M) pc = .ok (.ifCond .eq off, 3)) (ht : (pc : Int) + off = (tgt : Int)) (kt : ¬ P → aw_W G M tgt ls st h q Q) (kf : P → aw_W G M (pc + 3) ls st h q Q) : aw_W G M pc ls (.int (if P then 1 else 0) :: st) h q Q :=
  aw_if_eq hd ht (fun z => kt (zB0.mp z)) (fun z => kf (Classical.byContradiction (fun y => z (zB0.mpr y))))
theorem aw_if_ne_B {P : Prop} [Decidable P] {off : Int} {tgt : Nat} (hd : decode (aw_c M) pc = .ok (.ifCond .ne off, 3)) (ht : (pc : Int) + off = (tgt : Int)) (kt : P → aw_W G M tgt ls st h q Q) (kf : ¬ P → aw_W G M (pc + 3) ls st h q Q) : aw_W G M pc ls (.int (if P then 1 else 0) :: st) h q Q :=
  aw_if_ne hd ht (fun z => kt (Classical.byContradiction (fun y => z (zB0.mpr y)))) (fun z => kf (zB0.mp z))
end AWN
