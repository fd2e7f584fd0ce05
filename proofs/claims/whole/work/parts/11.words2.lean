-- words by their places
theorem aw_inst {c : Nat} (hc : c < 12) : Cond.instantiable (aw_nm c) (aw_N c) ∈ aw_tbl := by
  match c, hc with
  | 0, _ => exact aw_at 129 (by decide +kernel) rfl
  | 1, _ => exact aw_at 458 (by decide +kernel) rfl
  | 2, _ => exact aw_at 153 (by decide +kernel) rfl
  | 3, _ => exact aw_at 408 (by decide +kernel) rfl
  | 4, _ => exact aw_at 257 (by decide +kernel) rfl
  | 5, _ => exact aw_at 375 (by decide +kernel) rfl
  | 6, _ => exact aw_at 251 (by decide +kernel) rfl
  | 7, _ => exact aw_at 151 (by decide +kernel) rfl
  | 8, _ => exact aw_at 490 (by decide +kernel) rfl
  | 9, _ => exact aw_at 90 (by decide +kernel) rfl
  | 10, _ => exact aw_at 82 (by decide +kernel) rfl
  | 11, _ => exact aw_at 925 (by decide +kernel) rfl
  | c + 12, h => omega
theorem aw_init {c : Nat} (hc : c < 15) : Cond.initialized (aw_nm c) ∈ aw_tbl := by
  match c, hc with
  | 0, _ => exact aw_at 69 (by decide +kernel) rfl
  | 1, _ => exact aw_at 76 (by decide +kernel) rfl
  | 2, _ => exact aw_at 71 (by decide +kernel) rfl
  | 3, _ => exact aw_at 75 (by decide +kernel) rfl
  | 4, _ => exact aw_at 73 (by decide +kernel) rfl
  | 5, _ => exact aw_at 74 (by decide +kernel) rfl
  | 6, _ => exact aw_at 72 (by decide +kernel) rfl
  | 7, _ => exact aw_at 70 (by decide +kernel) rfl
  | 8, _ => exact aw_at 77 (by decide +kernel) rfl
  | 9, _ => exact aw_at 67 (by decide +kernel) rfl
  | 10, _ => exact aw_at 66 (by decide +kernel) rfl
  | 11, _ => exact aw_at 78 (by decide +kernel) rfl
  | 12, _ => exact aw_at 65 (by decide +kernel) rfl
  | 13, _ => exact aw_at 68 (by decide +kernel) rfl
  | 14, _ => exact aw_at 79 (by decide +kernel) rfl
  | c + 15, h => omega
theorem aw_arrI : Cond.arrayClass .int ∈ aw_tbl := aw_at 125 (by decide +kernel) rfl
theorem aw_arrL : Cond.arrayClass .long ∈ aw_tbl := aw_at 487 (by decide +kernel) rfl
