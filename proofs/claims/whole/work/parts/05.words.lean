theorem aw_pick {ws : List Cond} (ps : List Nat) (h : ws = ps.filterMap (fun i => lw_tbl[i]?)) (hg : ws.all goodWord = true) : ∀ w ∈ ws, w ∈ aw_tbl := by
  intro w hw
  have h1 := List.all_eq_true.mp hg w hw
  rw [h] at hw
  obtain ⟨i, -, hi⟩ := List.mem_filterMap.mp hw
  exact aw_in (List.mem_of_getElem? hi) h1
theorem aw_at {w : Cond} (i : Nat) (h : lw_tbl[i]? = some w) (hg : goodWord w = true) : w ∈ aw_tbl := aw_in (List.mem_of_getElem? h) hg
theorem aw_uw0 : ∀ w ∈ u_ws RX0 TX0 3, w ∈ aw_tbl := aw_pick [143, 145, 147] (by decide +kernel) (by decide +kernel)
theorem aw_uw1 : ∀ w ∈ u_ws RX1 TX1 7, w ∈ aw_tbl := aw_pick [472, 474, 476, 478, 480, 482, 484] (by decide +kernel) (by decide +kernel)
theorem aw_uw2 : ∀ w ∈ u_ws RX2 TX2 3, w ∈ aw_tbl := aw_pick [161, 163, 165] (by decide +kernel) (by decide +kernel)
theorem aw_uw3 : ∀ w ∈ u_ws RX3 TX3 13, w ∈ aw_tbl := aw_pick [430, 432, 434, 436, 438, 440, 442, 444, 446, 448, 450, 452, 454] (by decide +kernel) (by decide +kernel)
theorem aw_uw4 : ∀ w ∈ u_ws RX4 TX4 5, w ∈ aw_tbl := aw_pick [270, 272, 274, 276, 278] (by decide +kernel) (by decide +kernel)
theorem aw_uw5 : ∀ w ∈ u_ws RX5 TX5 7, w ∈ aw_tbl := aw_pick [392, 394, 396, 398, 400, 402, 404] (by decide +kernel) (by decide +kernel)
theorem aw_uw6 : ∀ w ∈ u_ws RX6 TX6 12, w ∈ aw_tbl := aw_pick [304, 306, 308, 310, 312, 314, 316, 318, 320, 322, 324, 326] (by decide +kernel) (by decide +kernel)
theorem aw_uw7 : ∀ w ∈ u_ws RX7 TX7 10, w ∈ aw_tbl := aw_pick [206, 208, 210, 212, 214, 216, 218, 220, 222, 224] (by decide +kernel) (by decide +kernel)
theorem aw_uw8 : ∀ w ∈ u_ws RX8 TX8 4, w ∈ aw_tbl := aw_pick [503, 505, 507, 509] (by decide +kernel) (by decide +kernel)
theorem aw_uw9 : ∀ w ∈ u_ws RX9 TX9 6, w ∈ aw_tbl := aw_pick [112, 114, 116, 118, 120, 122] (by decide +kernel) (by decide +kernel)
theorem aw_uw10 : ∀ w ∈ u_ws RX10 TX10 10, w ∈ aw_tbl := aw_pick [522, 524, 526, 528, 530, 532, 534, 536, 538, 540] (by decide +kernel) (by decide +kernel)
theorem aw_uw11 : ∀ w ∈ u_ws RX11 TX11 32, w ∈ aw_tbl := aw_pick [962, 964, 966, 968, 970, 972, 974, 976, 978, 980, 982, 984, 986, 988, 990, 992, 994, 996, 998, 1000, 1002, 1004, 1006, 1008, 1010, 1012, 1014, 1016, 1018, 1020, 1022, 1024] (by decide +kernel) (by decide +kernel)
theorem aw_uws {c : Nat} (hc : c < 12) : ∀ w ∈ u_ws (aw_nm c) (aw_T c) (aw_N c), w ∈ aw_tbl := by
  match c, hc with
  | 0, _ => exact aw_uw0
  | 1, _ => exact aw_uw1
  | 2, _ => exact aw_uw2
  | 3, _ => exact aw_uw3
  | 4, _ => exact aw_uw4
  | 5, _ => exact aw_uw5
  | 6, _ => exact aw_uw6
  | 7, _ => exact aw_uw7
  | 8, _ => exact aw_uw8
  | 9, _ => exact aw_uw9
  | 10, _ => exact aw_uw10
  | 11, _ => exact aw_uw11
  | c + 12, h => omega
